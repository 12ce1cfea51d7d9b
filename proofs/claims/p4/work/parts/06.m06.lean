theorem d_T_runLength_0 : decode b_T_runLength 0 = .ok (.iload_n 1, 1) := by decide +kernel
theorem d_T_runLength_1 : decode b_T_runLength 1 = .ok (.ifCond .lt 20, 3) := by decide +kernel
theorem d_T_runLength_4 : decode b_T_runLength 4 = .ok (.iload_n 1, 1) := by decide +kernel
theorem d_T_runLength_5 : decode b_T_runLength 5 = .ok (.aload_n 0, 1) := by decide +kernel
theorem d_T_runLength_6 : decode b_T_runLength 6 = .ok (.getfield 22, 3) := by decide +kernel
theorem d_T_runLength_9 : decode b_T_runLength 9 = .ok (.if_icmp .ge 12, 3) := by decide +kernel
theorem d_T_runLength_12 : decode b_T_runLength 12 = .ok (.aload_n 0, 1) := by decide +kernel
theorem d_T_runLength_13 : decode b_T_runLength 13 = .ok (.getfield 15, 3) := by decide +kernel
theorem d_T_runLength_16 : decode b_T_runLength 16 = .ok (.iload_n 1, 1) := by decide +kernel
theorem d_T_runLength_17 : decode b_T_runLength 17 = .ok (.iaload, 1) := by decide +kernel
theorem d_T_runLength_18 : decode b_T_runLength 18 = .ok (.goto 4, 3) := by decide +kernel
theorem d_T_runLength_21 : decode b_T_runLength 21 = .ok (.iconst (-1), 1) := by decide +kernel
theorem d_T_runLength_22 : decode b_T_runLength 22 = .ok (.ireturn, 1) := by decide +kernel
def m_T_runLength (N : Nat) (σ : SX) (i : Nat) (a1 : Int32) : Option (Int32 × SX) :=
  (if a1 < 0 then some ((-1), σ) else (if ((σ (7 + i)).1 1) ≤ a1 then some ((-1), σ) else (if inb a1 150 = true then some (((σ (7 + i)).2 2 a1.toNatClampNeg), σ) else none)))

set_option maxHeartbeats 4000000 in
set_option maxRecDepth 100000 in
theorem c_T_runLength (l : Launch) (dC : Nat → ClassId) (dI : Nat → Nat → Nat) (ad : Nat → Nat → Nat) (cs : Nat → ClassId) (sz N : Nat) (σ : SX) (i : Nat) (hi : i < 4) (a1 : Int32) {r0 : Int32} {σ0 : SX} (hM : m_T_runLength N σ i a1 = some (r0, σ0)) : Met l y_T_runLength (wd y_T_runLength b_T_runLength 2 (some .int)) ({ frames := 0, cells := 0, slots := 0, locals := 0 }) (va_Pc [.ref (ad (7 + i) 0), .int a1] (preX dC dI ad cs sz σ)) (va_Qi (fun (r : Int32) (u : SX) => r = r0 ∧ u = σ0) (atX dC dI ad cs (va_A (wX ad cs σ) sz)) (va_A (wX ad cs σ) sz)) 0 0 (va_A (wX ad cs σ) sz) := by
  refine Met.ofW (cc := b_T_runLength) (maxL := 2) (ret := (some .int)) (by decide) rfl ?_
  intro p e s m args below meth c s₁ B hml hv
  obtain ⟨rfl, hsz, hP, hK, hD0, hN⟩ := hv
  have hx := B.exec
  have hb := B.bytes
  have hr := B.returns
  have hts := atoms_spec (ws := (wd y_T_runLength b_T_runLength 2 (some .int))) B.pre
  have htb : ∀ w ∈ tb, w.before _ s = true := fun w h => hts w (List.mem_cons_of_mem _ h)
  have hown : s.vm.findClass R_T = some m.cls := findClass_of_methodNamed B.named
  have hlocks := B.notSynchronized
  subst hsz
  have hD := hD0.self (sz := s.heap.size)
  generalize hAe : va_A (wX ad cs σ) s.heap.size = A at hD ⊢
  have hA : ∀ q : Nat, s.heap.size ≤ q → A q := fun q h => by rw [← hAe]; exact Or.inr h
  have hS : va_S A s.heap s.heap [] := va_S.rf
  have hP : va_P (dC, dI) classes (wX ad cs σ) s.heap := hP
  have hl := lv_entry ([.ref (ad (7 + i) 0), .int a1]) (n := 2) (Nat.le_of_ble_eq_true rfl)
  rw [lg_entry_eq]
  generalize (lg_sl ([.ref (ad (7 + i) 0), .int a1]) ++ List.replicate (2 - (lg_sl ([.ref (ad (7 + i) 0), .int a1])).length) Slot.unset).toArray = ls at hl ⊢
  have hl : lv_has ls 2 [(0, .ref (ad (7 + i) 0)), (1, .int a1)] := hl
  rw [m_T_runLength] at hM
  refine lv_iload_n hx hb d_T_runLength_0 rfl (lv_at hl 1 rfl) ?_
  refine lv_if_lt (tgt := 21) hx hb d_T_runLength_1 (by decide) (fun h1 => ?_) (fun h1 => ?_)
  · rw [if_pos h1] at hM
    refine lv_iconst (v := (-1)) hx hb d_T_runLength_21 (by decide) ?_
    have e9 := Prod.mk.inj (Option.some.inj hM)
    exact W.iret (v := (-1)) hx hb hr (fun t ht hW => ⟨⟨(-1), σ, rfl, e9, by rw [ht]; exact hP, va_K.moved hW.alike hK, hD⟩, hS.F ht⟩) hS.2.2 d_T_runLength_22
  · rw [if_neg h1] at hM
    refine lv_iload_n hx hb d_T_runLength_4 rfl (lv_at hl 1 rfl) ?_
    refine lv_aload_n hx hb d_T_runLength_5 rfl (lv_at hl 0 rfl) ?_
    refine va_get (D := (dC, dI)) (ci := 6) (v := .int ((σ (7 + i)).1 1)) (C := R_T) (T := F_T) (N := 6) hx hb htb in_T hown hK hP (19 + 3 * i) (g_T hi) rfl 3 (by decide) (htb _ k_132) (fun _ h9 => h9) rfl d_T_runLength_6 ?_
    refine lv_icmp_ge (tgt := 21) hx hb d_T_runLength_9 (by decide) (fun h9 => ?_) (fun h9 => ?_)
    · rw [if_pos h9] at hM
      refine lv_iconst (v := (-1)) hx hb d_T_runLength_21 (by decide) ?_
      have e9 := Prod.mk.inj (Option.some.inj hM)
      exact W.iret (v := (-1)) hx hb hr (fun t ht hW => ⟨⟨(-1), σ, rfl, e9, by rw [ht]; exact hP, va_K.moved hW.alike hK, hD⟩, hS.F ht⟩) hS.2.2 d_T_runLength_22
    · rw [if_neg h9] at hM
      refine lv_aload_n hx hb d_T_runLength_12 rfl (lv_at hl 0 rfl) ?_
      refine va_get (D := (dC, dI)) (ci := 6) (v := .ref (ad (7 + i) 2)) (C := R_T) (T := F_T) (N := 6) hx hb htb in_T hown hK hP (19 + 3 * i) (g_T hi) rfl 1 (by decide) (htb _ k_130) (fun _ h9 => h9) rfl d_T_runLength_13 ?_
      refine lv_iload_n hx hb d_T_runLength_16 rfl (lv_at hl 1 rfl) ?_
      have hg17 := gd_c hM
      have hM := gd_v hM
      refine va_iald hx hb hK hP (19 + 3 * i + 2) 0 (g_T_a2 hi) rfl (inb_in hg17) d_T_runLength_17 ?_
      refine lv_goto (tgt := 22) hx hb d_T_runLength_18 (by decide) ?_
      have e9 := Prod.mk.inj (Option.some.inj hM)
      exact W.iret (v := ((σ (7 + i)).2 2 a1.toNatClampNeg)) hx hb hr (fun t ht hW => ⟨⟨((σ (7 + i)).2 2 a1.toNatClampNeg), σ, rfl, e9, by rw [ht]; exact hP, va_K.moved hW.alike hK, hD⟩, hS.F ht⟩) hS.2.2 d_T_runLength_22

theorem d_T_addDummies_0 : decode b_T_addDummies 0 = .ok (.aload_n 0, 1) := by decide +kernel
theorem d_T_addDummies_1 : decode b_T_addDummies 1 = .ok (.dup, 1) := by decide +kernel
theorem d_T_addDummies_2 : decode b_T_addDummies 2 = .ok (.getfield 25, 3) := by decide +kernel
theorem d_T_addDummies_5 : decode b_T_addDummies 5 = .ok (.iload_n 1, 1) := by decide +kernel
theorem d_T_addDummies_6 : decode b_T_addDummies 6 = .ok (.iadd, 1) := by decide +kernel
theorem d_T_addDummies_7 : decode b_T_addDummies 7 = .ok (.putfield 25, 3) := by decide +kernel
theorem d_T_addDummies_10 : decode b_T_addDummies 10 = .ok (.return_, 1) := by decide +kernel
def m_T_addDummies (N : Nat) (σ : SX) (i : Nat) (a1 : Int32) : Option (SX) :=
  some (w1 σ (7 + i) 2 (((σ (7 + i)).1 2) + a1))

set_option maxHeartbeats 4000000 in
set_option maxRecDepth 100000 in
theorem c_T_addDummies (l : Launch) (dC : Nat → ClassId) (dI : Nat → Nat → Nat) (ad : Nat → Nat → Nat) (cs : Nat → ClassId) (sz N : Nat) (σ : SX) (i : Nat) (hi : i < 4) (a1 : Int32) {σ0 : SX} (hM : m_T_addDummies N σ i a1 = some σ0) : Met l y_T_addDummies (wd y_T_addDummies b_T_addDummies 2 none) ({ frames := 0, cells := 0, slots := 0, locals := 0 }) (va_Pc [.ref (ad (7 + i) 0), .int a1] (preX dC dI ad cs sz σ)) (va_Qv (fun (u : SX) => u = σ0) (atX dC dI ad cs (va_A (wX ad cs σ) sz)) (va_A (wX ad cs σ) sz)) 0 0 (va_A (wX ad cs σ) sz) := by
  refine Met.ofW (cc := b_T_addDummies) (maxL := 2) (ret := none) (by decide) rfl ?_
  intro p e s m args below meth c s₁ B hml hv
  obtain ⟨rfl, hsz, hP, hK, hD0, hN⟩ := hv
  have hx := B.exec
  have hb := B.bytes
  have hr := B.returns
  have hts := atoms_spec (ws := (wd y_T_addDummies b_T_addDummies 2 none)) B.pre
  have htb : ∀ w ∈ tb, w.before _ s = true := fun w h => hts w (List.mem_cons_of_mem _ h)
  have hown : s.vm.findClass R_T = some m.cls := findClass_of_methodNamed B.named
  have hlocks := B.notSynchronized
  subst hsz
  have hD := hD0.self (sz := s.heap.size)
  generalize hAe : va_A (wX ad cs σ) s.heap.size = A at hD ⊢
  have hA : ∀ q : Nat, s.heap.size ≤ q → A q := fun q h => by rw [← hAe]; exact Or.inr h
  have hS : va_S A s.heap s.heap [] := va_S.rf
  have hP : va_P (dC, dI) classes (wX ad cs σ) s.heap := hP
  have hl := lv_entry ([.ref (ad (7 + i) 0), .int a1]) (n := 2) (Nat.le_of_ble_eq_true rfl)
  rw [lg_entry_eq]
  generalize (lg_sl ([.ref (ad (7 + i) 0), .int a1]) ++ List.replicate (2 - (lg_sl ([.ref (ad (7 + i) 0), .int a1])).length) Slot.unset).toArray = ls at hl ⊢
  have hl : lv_has ls 2 [(0, .ref (ad (7 + i) 0)), (1, .int a1)] := hl
  rw [m_T_addDummies] at hM
  refine lv_aload_n hx hb d_T_addDummies_0 rfl (lv_at hl 0 rfl) ?_
  refine lv_dup hx hb d_T_addDummies_1 rfl ?_
  refine va_get (D := (dC, dI)) (ci := 6) (v := .int ((σ (7 + i)).1 2)) (C := R_T) (T := F_T) (N := 6) hx hb htb in_T hown hK hP (19 + 3 * i) (g_T hi) rfl 4 (by decide) (htb _ k_133) (fun _ h9 => h9) rfl d_T_addDummies_2 ?_
  refine lv_iload_n hx hb d_T_addDummies_5 rfl (lv_at hl 1 rfl) ?_
  refine lv_iadd hx hb d_T_addDummies_6 ?_
  refine va_put (D := (dC, dI)) (ci := 6) (v := .int (((σ (7 + i)).1 2) + a1)) (ty := .int) (C := R_T) (T := F_T) (N := 6) hx hb htb in_T ft_T ft_T_ok n_T hown hK hP hD hS (19 + 3 * i) (g_T hi) rfl 4 (by decide) (htb _ k_133) (fun _ h9 => h9) rfl (by decide +kernel) rfl rfl (Nat.le_of_ble_eq_true rfl) d_T_addDummies_7 (fun H locs hP hD hS => ?_)
  have hP := P_eq (s_T_2 hi) hP
  have hD := D_eq (s_T_2 hi) hD
  have e9 := Option.some.inj hM
  exact W.vret hx hb hr (fun t ht hW => ⟨⟨(w1 σ (7 + i) 2 (((σ (7 + i)).1 2) + a1)), rfl, e9, by rw [ht]; exact hP, va_K.moved hW.alike hK, hD⟩, hS.F ht⟩) hS.2.2 d_T_addDummies_10

theorem d_T_append_0 : decode b_T_append 0 = .ok (.aload_n 0, 1) := by decide +kernel
theorem d_T_append_1 : decode b_T_append 1 = .ok (.getfield 22, 3) := by decide +kernel
theorem d_T_append_4 : decode b_T_append 4 = .ok (.sipush 150, 3) := by decide +kernel
theorem d_T_append_7 : decode b_T_append 7 = .ok (.if_icmp .ge 18, 3) := by decide +kernel
theorem d_T_append_10 : decode b_T_append 10 = .ok (.aload_n 1, 1) := by decide +kernel
theorem d_T_append_11 : decode b_T_append 11 = .ok (.getfield 35, 3) := by decide +kernel
theorem d_T_append_14 : decode b_T_append 14 = .ok (.sipush 150, 3) := by decide +kernel
theorem d_T_append_17 : decode b_T_append 17 = .ok (.aload_n 0, 1) := by decide +kernel
theorem d_T_append_18 : decode b_T_append 18 = .ok (.getfield 18, 3) := by decide +kernel
theorem d_T_append_21 : decode b_T_append 21 = .ok (.isub, 1) := by decide +kernel
theorem d_T_append_22 : decode b_T_append 22 = .ok (.if_icmp .le 4, 3) := by decide +kernel
theorem d_T_append_25 : decode b_T_append 25 = .ok (.return_, 1) := by decide +kernel
theorem d_T_append_26 : decode b_T_append 26 = .ok (.aload_n 1, 1) := by decide +kernel
theorem d_T_append_27 : decode b_T_append 27 = .ok (.getfield 40, 3) := by decide +kernel
theorem d_T_append_30 : decode b_T_append 30 = .ok (.iconst 0, 1) := by decide +kernel
theorem d_T_append_31 : decode b_T_append 31 = .ok (.aload_n 0, 1) := by decide +kernel
theorem d_T_append_32 : decode b_T_append 32 = .ok (.getfield 9, 3) := by decide +kernel
theorem d_T_append_35 : decode b_T_append 35 = .ok (.aload_n 0, 1) := by decide +kernel
theorem d_T_append_36 : decode b_T_append 36 = .ok (.getfield 18, 3) := by decide +kernel
theorem d_T_append_39 : decode b_T_append 39 = .ok (.aload_n 1, 1) := by decide +kernel
theorem d_T_append_40 : decode b_T_append 40 = .ok (.getfield 35, 3) := by decide +kernel
theorem d_T_append_43 : decode b_T_append 43 = .ok (.invokestatic 41, 3) := by decide +kernel
theorem d_T_append_46 : decode b_T_append 46 = .ok (.aload_n 0, 1) := by decide +kernel
theorem d_T_append_47 : decode b_T_append 47 = .ok (.dup, 1) := by decide +kernel
theorem d_T_append_48 : decode b_T_append 48 = .ok (.getfield 18, 3) := by decide +kernel
theorem d_T_append_51 : decode b_T_append 51 = .ok (.aload_n 1, 1) := by decide +kernel
theorem d_T_append_52 : decode b_T_append 52 = .ok (.getfield 35, 3) := by decide +kernel
theorem d_T_append_55 : decode b_T_append 55 = .ok (.iadd, 1) := by decide +kernel
theorem d_T_append_56 : decode b_T_append 56 = .ok (.putfield 18, 3) := by decide +kernel
theorem d_T_append_59 : decode b_T_append 59 = .ok (.aload_n 0, 1) := by decide +kernel
theorem d_T_append_60 : decode b_T_append 60 = .ok (.getfield 15, 3) := by decide +kernel
theorem d_T_append_63 : decode b_T_append 63 = .ok (.aload_n 0, 1) := by decide +kernel
theorem d_T_append_64 : decode b_T_append 64 = .ok (.getfield 22, 3) := by decide +kernel
theorem d_T_append_67 : decode b_T_append 67 = .ok (.aload_n 1, 1) := by decide +kernel
theorem d_T_append_68 : decode b_T_append 68 = .ok (.getfield 35, 3) := by decide +kernel
theorem d_T_append_71 : decode b_T_append 71 = .ok (.iastore, 1) := by decide +kernel
theorem d_T_append_72 : decode b_T_append 72 = .ok (.aload_n 0, 1) := by decide +kernel
theorem d_T_append_73 : decode b_T_append 73 = .ok (.dup, 1) := by decide +kernel
theorem d_T_append_74 : decode b_T_append 74 = .ok (.getfield 22, 3) := by decide +kernel
theorem d_T_append_77 : decode b_T_append 77 = .ok (.iconst 1, 1) := by decide +kernel
theorem d_T_append_78 : decode b_T_append 78 = .ok (.iadd, 1) := by decide +kernel
theorem d_T_append_79 : decode b_T_append 79 = .ok (.putfield 22, 3) := by decide +kernel
theorem d_T_append_82 : decode b_T_append 82 = .ok (.return_, 1) := by decide +kernel
def m_T_append (N : Nat) (σ : SX) (i : Nat) : Option (SX) :=
  (if 150 ≤ ((σ (7 + i)).1 1) then some σ else (if ((σ 6).1 0) ≤ (150 - ((σ (7 + i)).1 0)) then (if cpok 0 ((σ (7 + i)).1 0) ((σ 6).1 0) 150 150 = true then (if inb (((w1 (w2 σ (7 + i) 1 (va_cpy ((σ 6).2 1) ((σ (7 + i)).2 1) (0 : Int32).toNatClampNeg ((σ (7 + i)).1 0).toNatClampNeg ((σ 6).1 0).toNatClampNeg)) (7 + i) 0 ((((w2 σ (7 + i) 1 (va_cpy ((σ 6).2 1) ((σ (7 + i)).2 1) (0 : Int32).toNatClampNeg ((σ (7 + i)).1 0).toNatClampNeg ((σ 6).1 0).toNatClampNeg)) (7 + i)).1 0) + (((w2 σ (7 + i) 1 (va_cpy ((σ 6).2 1) ((σ (7 + i)).2 1) (0 : Int32).toNatClampNeg ((σ (7 + i)).1 0).toNatClampNeg ((σ 6).1 0).toNatClampNeg)) 6).1 0))) (7 + i)).1 1) 150 = true then some (w1 (w3 (w1 (w2 σ (7 + i) 1 (va_cpy ((σ 6).2 1) ((σ (7 + i)).2 1) (0 : Int32).toNatClampNeg ((σ (7 + i)).1 0).toNatClampNeg ((σ 6).1 0).toNatClampNeg)) (7 + i) 0 ((((w2 σ (7 + i) 1 (va_cpy ((σ 6).2 1) ((σ (7 + i)).2 1) (0 : Int32).toNatClampNeg ((σ (7 + i)).1 0).toNatClampNeg ((σ 6).1 0).toNatClampNeg)) (7 + i)).1 0) + (((w2 σ (7 + i) 1 (va_cpy ((σ 6).2 1) ((σ (7 + i)).2 1) (0 : Int32).toNatClampNeg ((σ (7 + i)).1 0).toNatClampNeg ((σ 6).1 0).toNatClampNeg)) 6).1 0))) (7 + i) 2 (((w1 (w2 σ (7 + i) 1 (va_cpy ((σ 6).2 1) ((σ (7 + i)).2 1) (0 : Int32).toNatClampNeg ((σ (7 + i)).1 0).toNatClampNeg ((σ 6).1 0).toNatClampNeg)) (7 + i) 0 ((((w2 σ (7 + i) 1 (va_cpy ((σ 6).2 1) ((σ (7 + i)).2 1) (0 : Int32).toNatClampNeg ((σ (7 + i)).1 0).toNatClampNeg ((σ 6).1 0).toNatClampNeg)) (7 + i)).1 0) + (((w2 σ (7 + i) 1 (va_cpy ((σ 6).2 1) ((σ (7 + i)).2 1) (0 : Int32).toNatClampNeg ((σ (7 + i)).1 0).toNatClampNeg ((σ 6).1 0).toNatClampNeg)) 6).1 0))) (7 + i)).1 1) (((w1 (w2 σ (7 + i) 1 (va_cpy ((σ 6).2 1) ((σ (7 + i)).2 1) (0 : Int32).toNatClampNeg ((σ (7 + i)).1 0).toNatClampNeg ((σ 6).1 0).toNatClampNeg)) (7 + i) 0 ((((w2 σ (7 + i) 1 (va_cpy ((σ 6).2 1) ((σ (7 + i)).2 1) (0 : Int32).toNatClampNeg ((σ (7 + i)).1 0).toNatClampNeg ((σ 6).1 0).toNatClampNeg)) (7 + i)).1 0) + (((w2 σ (7 + i) 1 (va_cpy ((σ 6).2 1) ((σ (7 + i)).2 1) (0 : Int32).toNatClampNeg ((σ (7 + i)).1 0).toNatClampNeg ((σ 6).1 0).toNatClampNeg)) 6).1 0))) 6).1 0)) (7 + i) 1 ((((w3 (w1 (w2 σ (7 + i) 1 (va_cpy ((σ 6).2 1) ((σ (7 + i)).2 1) (0 : Int32).toNatClampNeg ((σ (7 + i)).1 0).toNatClampNeg ((σ 6).1 0).toNatClampNeg)) (7 + i) 0 ((((w2 σ (7 + i) 1 (va_cpy ((σ 6).2 1) ((σ (7 + i)).2 1) (0 : Int32).toNatClampNeg ((σ (7 + i)).1 0).toNatClampNeg ((σ 6).1 0).toNatClampNeg)) (7 + i)).1 0) + (((w2 σ (7 + i) 1 (va_cpy ((σ 6).2 1) ((σ (7 + i)).2 1) (0 : Int32).toNatClampNeg ((σ (7 + i)).1 0).toNatClampNeg ((σ 6).1 0).toNatClampNeg)) 6).1 0))) (7 + i) 2 (((w1 (w2 σ (7 + i) 1 (va_cpy ((σ 6).2 1) ((σ (7 + i)).2 1) (0 : Int32).toNatClampNeg ((σ (7 + i)).1 0).toNatClampNeg ((σ 6).1 0).toNatClampNeg)) (7 + i) 0 ((((w2 σ (7 + i) 1 (va_cpy ((σ 6).2 1) ((σ (7 + i)).2 1) (0 : Int32).toNatClampNeg ((σ (7 + i)).1 0).toNatClampNeg ((σ 6).1 0).toNatClampNeg)) (7 + i)).1 0) + (((w2 σ (7 + i) 1 (va_cpy ((σ 6).2 1) ((σ (7 + i)).2 1) (0 : Int32).toNatClampNeg ((σ (7 + i)).1 0).toNatClampNeg ((σ 6).1 0).toNatClampNeg)) 6).1 0))) (7 + i)).1 1) (((w1 (w2 σ (7 + i) 1 (va_cpy ((σ 6).2 1) ((σ (7 + i)).2 1) (0 : Int32).toNatClampNeg ((σ (7 + i)).1 0).toNatClampNeg ((σ 6).1 0).toNatClampNeg)) (7 + i) 0 ((((w2 σ (7 + i) 1 (va_cpy ((σ 6).2 1) ((σ (7 + i)).2 1) (0 : Int32).toNatClampNeg ((σ (7 + i)).1 0).toNatClampNeg ((σ 6).1 0).toNatClampNeg)) (7 + i)).1 0) + (((w2 σ (7 + i) 1 (va_cpy ((σ 6).2 1) ((σ (7 + i)).2 1) (0 : Int32).toNatClampNeg ((σ (7 + i)).1 0).toNatClampNeg ((σ 6).1 0).toNatClampNeg)) 6).1 0))) 6).1 0)) (7 + i)).1 1) + 1)) else none) else none) else some σ))

set_option maxHeartbeats 4000000 in
set_option maxRecDepth 100000 in
theorem c_T_append (l : Launch) (dC : Nat → ClassId) (dI : Nat → Nat → Nat) (ad : Nat → Nat → Nat) (cs : Nat → ClassId) (sz N : Nat) (σ : SX) (i : Nat) (hi : i < 4) {σ0 : SX} (hM : m_T_append N σ i = some σ0) : Met l y_T_append (wd y_T_append b_T_append 2 none) ({ frames := 1, cells := 0, slots := 0, locals := 60 }) (va_Pc [.ref (ad (7 + i) 0), .ref (ad 6 0)] (preX dC dI ad cs sz σ)) (va_Qv (fun (u : SX) => u = σ0) (atX dC dI ad cs (va_A (wX ad cs σ) sz)) (va_A (wX ad cs σ) sz)) 0 0 (va_A (wX ad cs σ) sz) := by
  refine Met.ofW (cc := b_T_append) (maxL := 2) (ret := none) (by decide) rfl ?_
  intro p e s m args below meth c s₁ B hml hv
  obtain ⟨rfl, hsz, hP, hK, hD0, hN⟩ := hv
  have hx := B.exec
  have hb := B.bytes
  have hr := B.returns
  have hts := atoms_spec (ws := (wd y_T_append b_T_append 2 none)) B.pre
  have htb : ∀ w ∈ tb, w.before _ s = true := fun w h => hts w (List.mem_cons_of_mem _ h)
  have hown : s.vm.findClass R_T = some m.cls := findClass_of_methodNamed B.named
  have hlocks := B.notSynchronized
  subst hsz
  have hD := hD0.self (sz := s.heap.size)
  generalize hAe : va_A (wX ad cs σ) s.heap.size = A at hD ⊢
  have hA : ∀ q : Nat, s.heap.size ≤ q → A q := fun q h => by rw [← hAe]; exact Or.inr h
  have hS : va_S A s.heap s.heap [] := va_S.rf
  have hP : va_P (dC, dI) classes (wX ad cs σ) s.heap := hP
  have hl := lv_entry ([.ref (ad (7 + i) 0), .ref (ad 6 0)]) (n := 2) (Nat.le_of_ble_eq_true rfl)
  rw [lg_entry_eq]
  generalize (lg_sl ([.ref (ad (7 + i) 0), .ref (ad 6 0)]) ++ List.replicate (2 - (lg_sl ([.ref (ad (7 + i) 0), .ref (ad 6 0)])).length) Slot.unset).toArray = ls at hl ⊢
  have hl : lv_has ls 2 [(0, .ref (ad (7 + i) 0)), (1, .ref (ad 6 0))] := hl
  rw [m_T_append] at hM
  refine lv_aload_n hx hb d_T_append_0 rfl (lv_at hl 0 rfl) ?_
  refine va_get (D := (dC, dI)) (ci := 6) (v := .int ((σ (7 + i)).1 1)) (C := R_T) (T := F_T) (N := 6) hx hb htb in_T hown hK hP (19 + 3 * i) (g_T hi) rfl 3 (by decide) (htb _ k_132) (fun _ h9 => h9) rfl d_T_append_1 ?_
  refine lv_sipush (v := 150) hx hb d_T_append_4 (by decide) ?_
  refine lv_icmp_ge (tgt := 25) hx hb d_T_append_7 (by decide) (fun h7 => ?_) (fun h7 => ?_)
  · rw [if_pos h7] at hM
    have e9 := Option.some.inj hM
    exact W.vret hx hb hr (fun t ht hW => ⟨⟨σ, rfl, e9, by rw [ht]; exact hP, va_K.moved hW.alike hK, hD⟩, hS.F ht⟩) hS.2.2 d_T_append_25
  · rw [if_neg h7] at hM
    refine lv_aload_n hx hb d_T_append_10 rfl (lv_at hl 1 rfl) ?_
    refine va_getN (D := (dC, dI)) (ci := 5) (v := .int ((σ 6).1 0)) (C := R_R) (T := F_R) (N := 2) hx hb htb in_R hown hK hP 16 (g_R) rfl 1 (by decide) (va_Nw.use rfl hN.2.2.2.2.2.1) (fun _ h9 => h9) rfl d_T_append_11 ?_
    refine lv_sipush (v := 150) hx hb d_T_append_14 (by decide) ?_
    refine lv_aload_n hx hb d_T_append_17 rfl (lv_at hl 0 rfl) ?_
    refine va_get (D := (dC, dI)) (ci := 6) (v := .int ((σ (7 + i)).1 0)) (C := R_T) (T := F_T) (N := 6) hx hb htb in_T hown hK hP (19 + 3 * i) (g_T hi) rfl 2 (by decide) (htb _ k_131) (fun _ h9 => h9) rfl d_T_append_18 ?_
    refine lv_isub hx hb d_T_append_21 ?_
    refine lv_icmp_le (tgt := 26) hx hb d_T_append_22 (by decide) (fun h22 => ?_) (fun h22 => ?_)
    · rw [if_pos h22] at hM
      refine lv_aload_n hx hb d_T_append_26 rfl (lv_at hl 1 rfl) ?_
      refine va_getN (D := (dC, dI)) (ci := 5) (v := .ref (ad 6 1)) (C := R_R) (T := F_R) (N := 2) hx hb htb in_R hown hK hP 16 (g_R) rfl 0 (by decide) (va_Nw.use rfl hN.2.2.2.2.1) (fun _ h9 => h9) rfl d_T_append_27 ?_
      refine lv_iconst (v := 0) hx hb d_T_append_30 (by decide) ?_
      refine lv_aload_n hx hb d_T_append_31 rfl (lv_at hl 0 rfl) ?_
      refine va_get (D := (dC, dI)) (ci := 6) (v := .ref (ad (7 + i) 1)) (C := R_T) (T := F_T) (N := 6) hx hb htb in_T hown hK hP (19 + 3 * i) (g_T hi) rfl 0 (by decide) (htb _ k_129) (fun _ h9 => h9) rfl d_T_append_32 ?_
      refine lv_aload_n hx hb d_T_append_35 rfl (lv_at hl 0 rfl) ?_
      refine va_get (D := (dC, dI)) (ci := 6) (v := .int ((σ (7 + i)).1 0)) (C := R_T) (T := F_T) (N := 6) hx hb htb in_T hown hK hP (19 + 3 * i) (g_T hi) rfl 2 (by decide) (htb _ k_131) (fun _ h9 => h9) rfl d_T_append_36 ?_
      refine lv_aload_n hx hb d_T_append_39 rfl (lv_at hl 1 rfl) ?_
      refine va_getN (D := (dC, dI)) (ci := 5) (v := .int ((σ 6).1 0)) (C := R_R) (T := F_R) (N := 2) hx hb htb in_R hown hK hP 16 (g_R) rfl 1 (by decide) (va_Nw.use rfl hN.2.2.2.2.2.1) (fun _ h9 => h9) rfl d_T_append_40 ?_
      have hc43 := gd_c hM
      have hM := gd_v hM
      refine va_copyi (own := R_T) (sp := 0) (dp := ((σ (7 + i)).1 0)) (n := ((σ 6).1 0)) hx hb (by rw [hml]; exact hl.1.symm) hown (htb _ k_547) (htb _ k_549) (htb _ k_548) (htb _ k_15) hK hP hD hS 17 (19 + 3 * i + 1) 0 0 (g_R_a1) (g_T_a1 hi) rfl rfl rfl (cpok_1 hc43) (cpok_2 hc43) (cpok_3 hc43) (cpok_4 hc43) (cpok_5 hc43) (fun _ _ => rfl) (Nat.le_of_ble_eq_true rfl) (by decide) d_T_append_43 (fun H locs hP hD hS => ?_)
      have hP := P_eq (u_T_1 hi) hP
      have hD := D_eq (u_T_1 hi) hD
      refine lv_aload_n hx hb d_T_append_46 rfl (lv_at hl 0 rfl) ?_
      refine lv_dup hx hb d_T_append_47 rfl ?_
      refine va_get (D := (dC, dI)) (ci := 6) (v := .int (((w2 σ (7 + i) 1 (va_cpy ((σ 6).2 1) ((σ (7 + i)).2 1) (0 : Int32).toNatClampNeg ((σ (7 + i)).1 0).toNatClampNeg ((σ 6).1 0).toNatClampNeg)) (7 + i)).1 0)) (C := R_T) (T := F_T) (N := 6) hx hb htb in_T hown hK hP (19 + 3 * i) (g_T hi) rfl 2 (by decide) (htb _ k_131) (fun _ h9 => h9) rfl d_T_append_48 ?_
      refine lv_aload_n hx hb d_T_append_51 rfl (lv_at hl 1 rfl) ?_
      refine va_getN (D := (dC, dI)) (ci := 5) (v := .int (((w2 σ (7 + i) 1 (va_cpy ((σ 6).2 1) ((σ (7 + i)).2 1) (0 : Int32).toNatClampNeg ((σ (7 + i)).1 0).toNatClampNeg ((σ 6).1 0).toNatClampNeg)) 6).1 0)) (C := R_R) (T := F_R) (N := 2) hx hb htb in_R hown hK hP 16 (g_R) rfl 1 (by decide) (va_Nw.use rfl hN.2.2.2.2.2.1) (fun _ h9 => h9) rfl d_T_append_52 ?_
      refine lv_iadd hx hb d_T_append_55 ?_
      refine va_put (D := (dC, dI)) (ci := 6) (v := .int ((((w2 σ (7 + i) 1 (va_cpy ((σ 6).2 1) ((σ (7 + i)).2 1) (0 : Int32).toNatClampNeg ((σ (7 + i)).1 0).toNatClampNeg ((σ 6).1 0).toNatClampNeg)) (7 + i)).1 0) + (((w2 σ (7 + i) 1 (va_cpy ((σ 6).2 1) ((σ (7 + i)).2 1) (0 : Int32).toNatClampNeg ((σ (7 + i)).1 0).toNatClampNeg ((σ 6).1 0).toNatClampNeg)) 6).1 0))) (ty := .int) (C := R_T) (T := F_T) (N := 6) hx hb htb in_T ft_T ft_T_ok n_T hown hK hP hD hS (19 + 3 * i) (g_T hi) rfl 2 (by decide) (htb _ k_131) (fun _ h9 => h9) rfl (by decide +kernel) rfl rfl (Nat.le_of_ble_eq_true rfl) d_T_append_56 (fun H locs hP hD hS => ?_)
      have hP := P_eq (s_T_0 hi) hP
      have hD := D_eq (s_T_0 hi) hD
      refine lv_aload_n hx hb d_T_append_59 rfl (lv_at hl 0 rfl) ?_
      refine va_get (D := (dC, dI)) (ci := 6) (v := .ref (ad (7 + i) 2)) (C := R_T) (T := F_T) (N := 6) hx hb htb in_T hown hK hP (19 + 3 * i) (g_T hi) rfl 1 (by decide) (htb _ k_130) (fun _ h9 => h9) rfl d_T_append_60 ?_
      refine lv_aload_n hx hb d_T_append_63 rfl (lv_at hl 0 rfl) ?_
      refine va_get (D := (dC, dI)) (ci := 6) (v := .int (((w1 (w2 σ (7 + i) 1 (va_cpy ((σ 6).2 1) ((σ (7 + i)).2 1) (0 : Int32).toNatClampNeg ((σ (7 + i)).1 0).toNatClampNeg ((σ 6).1 0).toNatClampNeg)) (7 + i) 0 ((((w2 σ (7 + i) 1 (va_cpy ((σ 6).2 1) ((σ (7 + i)).2 1) (0 : Int32).toNatClampNeg ((σ (7 + i)).1 0).toNatClampNeg ((σ 6).1 0).toNatClampNeg)) (7 + i)).1 0) + (((w2 σ (7 + i) 1 (va_cpy ((σ 6).2 1) ((σ (7 + i)).2 1) (0 : Int32).toNatClampNeg ((σ (7 + i)).1 0).toNatClampNeg ((σ 6).1 0).toNatClampNeg)) 6).1 0))) (7 + i)).1 1)) (C := R_T) (T := F_T) (N := 6) hx hb htb in_T hown hK hP (19 + 3 * i) (g_T hi) rfl 3 (by decide) (htb _ k_132) (fun _ h9 => h9) rfl d_T_append_64 ?_
      refine lv_aload_n hx hb d_T_append_67 rfl (lv_at hl 1 rfl) ?_
      refine va_getN (D := (dC, dI)) (ci := 5) (v := .int (((w1 (w2 σ (7 + i) 1 (va_cpy ((σ 6).2 1) ((σ (7 + i)).2 1) (0 : Int32).toNatClampNeg ((σ (7 + i)).1 0).toNatClampNeg ((σ 6).1 0).toNatClampNeg)) (7 + i) 0 ((((w2 σ (7 + i) 1 (va_cpy ((σ 6).2 1) ((σ (7 + i)).2 1) (0 : Int32).toNatClampNeg ((σ (7 + i)).1 0).toNatClampNeg ((σ 6).1 0).toNatClampNeg)) (7 + i)).1 0) + (((w2 σ (7 + i) 1 (va_cpy ((σ 6).2 1) ((σ (7 + i)).2 1) (0 : Int32).toNatClampNeg ((σ (7 + i)).1 0).toNatClampNeg ((σ 6).1 0).toNatClampNeg)) 6).1 0))) 6).1 0)) (C := R_R) (T := F_R) (N := 2) hx hb htb in_R hown hK hP 16 (g_R) rfl 1 (by decide) (va_Nw.use rfl hN.2.2.2.2.2.1) (fun _ h9 => h9) rfl d_T_append_68 ?_
      have hg71 := gd_c hM
      have hM := gd_v hM
      refine va_iast (i := (((w1 (w2 σ (7 + i) 1 (va_cpy ((σ 6).2 1) ((σ (7 + i)).2 1) (0 : Int32).toNatClampNeg ((σ (7 + i)).1 0).toNatClampNeg ((σ 6).1 0).toNatClampNeg)) (7 + i) 0 ((((w2 σ (7 + i) 1 (va_cpy ((σ 6).2 1) ((σ (7 + i)).2 1) (0 : Int32).toNatClampNeg ((σ (7 + i)).1 0).toNatClampNeg ((σ 6).1 0).toNatClampNeg)) (7 + i)).1 0) + (((w2 σ (7 + i) 1 (va_cpy ((σ 6).2 1) ((σ (7 + i)).2 1) (0 : Int32).toNatClampNeg ((σ (7 + i)).1 0).toNatClampNeg ((σ 6).1 0).toNatClampNeg)) 6).1 0))) (7 + i)).1 1)) (x := (((w1 (w2 σ (7 + i) 1 (va_cpy ((σ 6).2 1) ((σ (7 + i)).2 1) (0 : Int32).toNatClampNeg ((σ (7 + i)).1 0).toNatClampNeg ((σ 6).1 0).toNatClampNeg)) (7 + i) 0 ((((w2 σ (7 + i) 1 (va_cpy ((σ 6).2 1) ((σ (7 + i)).2 1) (0 : Int32).toNatClampNeg ((σ (7 + i)).1 0).toNatClampNeg ((σ 6).1 0).toNatClampNeg)) (7 + i)).1 0) + (((w2 σ (7 + i) 1 (va_cpy ((σ 6).2 1) ((σ (7 + i)).2 1) (0 : Int32).toNatClampNeg ((σ (7 + i)).1 0).toNatClampNeg ((σ 6).1 0).toNatClampNeg)) 6).1 0))) 6).1 0)) hx hb hK hP hD hS (19 + 3 * i + 2) 0 (g_T_a2 hi) rfl (inb_in hg71) d_T_append_71 (fun H locs hP hD hS => ?_)
      have hP := P_eq (t_T_2 hi) hP
      have hD := D_eq (t_T_2 hi) hD
      refine lv_aload_n hx hb d_T_append_72 rfl (lv_at hl 0 rfl) ?_
      refine lv_dup hx hb d_T_append_73 rfl ?_
      refine va_get (D := (dC, dI)) (ci := 6) (v := .int (((w3 (w1 (w2 σ (7 + i) 1 (va_cpy ((σ 6).2 1) ((σ (7 + i)).2 1) (0 : Int32).toNatClampNeg ((σ (7 + i)).1 0).toNatClampNeg ((σ 6).1 0).toNatClampNeg)) (7 + i) 0 ((((w2 σ (7 + i) 1 (va_cpy ((σ 6).2 1) ((σ (7 + i)).2 1) (0 : Int32).toNatClampNeg ((σ (7 + i)).1 0).toNatClampNeg ((σ 6).1 0).toNatClampNeg)) (7 + i)).1 0) + (((w2 σ (7 + i) 1 (va_cpy ((σ 6).2 1) ((σ (7 + i)).2 1) (0 : Int32).toNatClampNeg ((σ (7 + i)).1 0).toNatClampNeg ((σ 6).1 0).toNatClampNeg)) 6).1 0))) (7 + i) 2 (((w1 (w2 σ (7 + i) 1 (va_cpy ((σ 6).2 1) ((σ (7 + i)).2 1) (0 : Int32).toNatClampNeg ((σ (7 + i)).1 0).toNatClampNeg ((σ 6).1 0).toNatClampNeg)) (7 + i) 0 ((((w2 σ (7 + i) 1 (va_cpy ((σ 6).2 1) ((σ (7 + i)).2 1) (0 : Int32).toNatClampNeg ((σ (7 + i)).1 0).toNatClampNeg ((σ 6).1 0).toNatClampNeg)) (7 + i)).1 0) + (((w2 σ (7 + i) 1 (va_cpy ((σ 6).2 1) ((σ (7 + i)).2 1) (0 : Int32).toNatClampNeg ((σ (7 + i)).1 0).toNatClampNeg ((σ 6).1 0).toNatClampNeg)) 6).1 0))) (7 + i)).1 1) (((w1 (w2 σ (7 + i) 1 (va_cpy ((σ 6).2 1) ((σ (7 + i)).2 1) (0 : Int32).toNatClampNeg ((σ (7 + i)).1 0).toNatClampNeg ((σ 6).1 0).toNatClampNeg)) (7 + i) 0 ((((w2 σ (7 + i) 1 (va_cpy ((σ 6).2 1) ((σ (7 + i)).2 1) (0 : Int32).toNatClampNeg ((σ (7 + i)).1 0).toNatClampNeg ((σ 6).1 0).toNatClampNeg)) (7 + i)).1 0) + (((w2 σ (7 + i) 1 (va_cpy ((σ 6).2 1) ((σ (7 + i)).2 1) (0 : Int32).toNatClampNeg ((σ (7 + i)).1 0).toNatClampNeg ((σ 6).1 0).toNatClampNeg)) 6).1 0))) 6).1 0)) (7 + i)).1 1)) (C := R_T) (T := F_T) (N := 6) hx hb htb in_T hown hK hP (19 + 3 * i) (g_T hi) rfl 3 (by decide) (htb _ k_132) (fun _ h9 => h9) rfl d_T_append_74 ?_
      refine lv_iconst (v := 1) hx hb d_T_append_77 (by decide) ?_
      refine lv_iadd hx hb d_T_append_78 ?_
      refine va_put (D := (dC, dI)) (ci := 6) (v := .int ((((w3 (w1 (w2 σ (7 + i) 1 (va_cpy ((σ 6).2 1) ((σ (7 + i)).2 1) (0 : Int32).toNatClampNeg ((σ (7 + i)).1 0).toNatClampNeg ((σ 6).1 0).toNatClampNeg)) (7 + i) 0 ((((w2 σ (7 + i) 1 (va_cpy ((σ 6).2 1) ((σ (7 + i)).2 1) (0 : Int32).toNatClampNeg ((σ (7 + i)).1 0).toNatClampNeg ((σ 6).1 0).toNatClampNeg)) (7 + i)).1 0) + (((w2 σ (7 + i) 1 (va_cpy ((σ 6).2 1) ((σ (7 + i)).2 1) (0 : Int32).toNatClampNeg ((σ (7 + i)).1 0).toNatClampNeg ((σ 6).1 0).toNatClampNeg)) 6).1 0))) (7 + i) 2 (((w1 (w2 σ (7 + i) 1 (va_cpy ((σ 6).2 1) ((σ (7 + i)).2 1) (0 : Int32).toNatClampNeg ((σ (7 + i)).1 0).toNatClampNeg ((σ 6).1 0).toNatClampNeg)) (7 + i) 0 ((((w2 σ (7 + i) 1 (va_cpy ((σ 6).2 1) ((σ (7 + i)).2 1) (0 : Int32).toNatClampNeg ((σ (7 + i)).1 0).toNatClampNeg ((σ 6).1 0).toNatClampNeg)) (7 + i)).1 0) + (((w2 σ (7 + i) 1 (va_cpy ((σ 6).2 1) ((σ (7 + i)).2 1) (0 : Int32).toNatClampNeg ((σ (7 + i)).1 0).toNatClampNeg ((σ 6).1 0).toNatClampNeg)) 6).1 0))) (7 + i)).1 1) (((w1 (w2 σ (7 + i) 1 (va_cpy ((σ 6).2 1) ((σ (7 + i)).2 1) (0 : Int32).toNatClampNeg ((σ (7 + i)).1 0).toNatClampNeg ((σ 6).1 0).toNatClampNeg)) (7 + i) 0 ((((w2 σ (7 + i) 1 (va_cpy ((σ 6).2 1) ((σ (7 + i)).2 1) (0 : Int32).toNatClampNeg ((σ (7 + i)).1 0).toNatClampNeg ((σ 6).1 0).toNatClampNeg)) (7 + i)).1 0) + (((w2 σ (7 + i) 1 (va_cpy ((σ 6).2 1) ((σ (7 + i)).2 1) (0 : Int32).toNatClampNeg ((σ (7 + i)).1 0).toNatClampNeg ((σ 6).1 0).toNatClampNeg)) 6).1 0))) 6).1 0)) (7 + i)).1 1) + 1)) (ty := .int) (C := R_T) (T := F_T) (N := 6) hx hb htb in_T ft_T ft_T_ok n_T hown hK hP hD hS (19 + 3 * i) (g_T hi) rfl 3 (by decide) (htb _ k_132) (fun _ h9 => h9) rfl (by decide +kernel) rfl rfl (Nat.le_of_ble_eq_true rfl) d_T_append_79 (fun H locs hP hD hS => ?_)
      have hP := P_eq (s_T_1 hi) hP
      have hD := D_eq (s_T_1 hi) hD
      have e9 := Option.some.inj hM
      exact W.vret hx hb hr (fun t ht hW => ⟨⟨(w1 (w3 (w1 (w2 σ (7 + i) 1 (va_cpy ((σ 6).2 1) ((σ (7 + i)).2 1) (0 : Int32).toNatClampNeg ((σ (7 + i)).1 0).toNatClampNeg ((σ 6).1 0).toNatClampNeg)) (7 + i) 0 ((((w2 σ (7 + i) 1 (va_cpy ((σ 6).2 1) ((σ (7 + i)).2 1) (0 : Int32).toNatClampNeg ((σ (7 + i)).1 0).toNatClampNeg ((σ 6).1 0).toNatClampNeg)) (7 + i)).1 0) + (((w2 σ (7 + i) 1 (va_cpy ((σ 6).2 1) ((σ (7 + i)).2 1) (0 : Int32).toNatClampNeg ((σ (7 + i)).1 0).toNatClampNeg ((σ 6).1 0).toNatClampNeg)) 6).1 0))) (7 + i) 2 (((w1 (w2 σ (7 + i) 1 (va_cpy ((σ 6).2 1) ((σ (7 + i)).2 1) (0 : Int32).toNatClampNeg ((σ (7 + i)).1 0).toNatClampNeg ((σ 6).1 0).toNatClampNeg)) (7 + i) 0 ((((w2 σ (7 + i) 1 (va_cpy ((σ 6).2 1) ((σ (7 + i)).2 1) (0 : Int32).toNatClampNeg ((σ (7 + i)).1 0).toNatClampNeg ((σ 6).1 0).toNatClampNeg)) (7 + i)).1 0) + (((w2 σ (7 + i) 1 (va_cpy ((σ 6).2 1) ((σ (7 + i)).2 1) (0 : Int32).toNatClampNeg ((σ (7 + i)).1 0).toNatClampNeg ((σ 6).1 0).toNatClampNeg)) 6).1 0))) (7 + i)).1 1) (((w1 (w2 σ (7 + i) 1 (va_cpy ((σ 6).2 1) ((σ (7 + i)).2 1) (0 : Int32).toNatClampNeg ((σ (7 + i)).1 0).toNatClampNeg ((σ 6).1 0).toNatClampNeg)) (7 + i) 0 ((((w2 σ (7 + i) 1 (va_cpy ((σ 6).2 1) ((σ (7 + i)).2 1) (0 : Int32).toNatClampNeg ((σ (7 + i)).1 0).toNatClampNeg ((σ 6).1 0).toNatClampNeg)) (7 + i)).1 0) + (((w2 σ (7 + i) 1 (va_cpy ((σ 6).2 1) ((σ (7 + i)).2 1) (0 : Int32).toNatClampNeg ((σ (7 + i)).1 0).toNatClampNeg ((σ 6).1 0).toNatClampNeg)) 6).1 0))) 6).1 0)) (7 + i) 1 ((((w3 (w1 (w2 σ (7 + i) 1 (va_cpy ((σ 6).2 1) ((σ (7 + i)).2 1) (0 : Int32).toNatClampNeg ((σ (7 + i)).1 0).toNatClampNeg ((σ 6).1 0).toNatClampNeg)) (7 + i) 0 ((((w2 σ (7 + i) 1 (va_cpy ((σ 6).2 1) ((σ (7 + i)).2 1) (0 : Int32).toNatClampNeg ((σ (7 + i)).1 0).toNatClampNeg ((σ 6).1 0).toNatClampNeg)) (7 + i)).1 0) + (((w2 σ (7 + i) 1 (va_cpy ((σ 6).2 1) ((σ (7 + i)).2 1) (0 : Int32).toNatClampNeg ((σ (7 + i)).1 0).toNatClampNeg ((σ 6).1 0).toNatClampNeg)) 6).1 0))) (7 + i) 2 (((w1 (w2 σ (7 + i) 1 (va_cpy ((σ 6).2 1) ((σ (7 + i)).2 1) (0 : Int32).toNatClampNeg ((σ (7 + i)).1 0).toNatClampNeg ((σ 6).1 0).toNatClampNeg)) (7 + i) 0 ((((w2 σ (7 + i) 1 (va_cpy ((σ 6).2 1) ((σ (7 + i)).2 1) (0 : Int32).toNatClampNeg ((σ (7 + i)).1 0).toNatClampNeg ((σ 6).1 0).toNatClampNeg)) (7 + i)).1 0) + (((w2 σ (7 + i) 1 (va_cpy ((σ 6).2 1) ((σ (7 + i)).2 1) (0 : Int32).toNatClampNeg ((σ (7 + i)).1 0).toNatClampNeg ((σ 6).1 0).toNatClampNeg)) 6).1 0))) (7 + i)).1 1) (((w1 (w2 σ (7 + i) 1 (va_cpy ((σ 6).2 1) ((σ (7 + i)).2 1) (0 : Int32).toNatClampNeg ((σ (7 + i)).1 0).toNatClampNeg ((σ 6).1 0).toNatClampNeg)) (7 + i) 0 ((((w2 σ (7 + i) 1 (va_cpy ((σ 6).2 1) ((σ (7 + i)).2 1) (0 : Int32).toNatClampNeg ((σ (7 + i)).1 0).toNatClampNeg ((σ 6).1 0).toNatClampNeg)) (7 + i)).1 0) + (((w2 σ (7 + i) 1 (va_cpy ((σ 6).2 1) ((σ (7 + i)).2 1) (0 : Int32).toNatClampNeg ((σ (7 + i)).1 0).toNatClampNeg ((σ 6).1 0).toNatClampNeg)) 6).1 0))) 6).1 0)) (7 + i)).1 1) + 1)), rfl, e9, by rw [ht]; exact hP, va_K.moved hW.alike hK, hD⟩, hS.F ht⟩) hS.2.2 d_T_append_82
    · rw [if_neg h22] at hM
      have e9 := Option.some.inj hM
      exact W.vret hx hb hr (fun t ht hW => ⟨⟨σ, rfl, e9, by rw [ht]; exact hP, va_K.moved hW.alike hK, hD⟩, hS.F ht⟩) hS.2.2 d_T_append_25

theorem d_T_hasDummy_0 : decode b_T_hasDummy 0 = .ok (.aload_n 0, 1) := by decide +kernel
theorem d_T_hasDummy_1 : decode b_T_hasDummy 1 = .ok (.getfield 25, 3) := by decide +kernel
theorem d_T_hasDummy_4 : decode b_T_hasDummy 4 = .ok (.ifCond .le 7, 3) := by decide +kernel
theorem d_T_hasDummy_7 : decode b_T_hasDummy 7 = .ok (.iconst 1, 1) := by decide +kernel
theorem d_T_hasDummy_8 : decode b_T_hasDummy 8 = .ok (.goto 4, 3) := by decide +kernel
theorem d_T_hasDummy_11 : decode b_T_hasDummy 11 = .ok (.iconst 0, 1) := by decide +kernel
theorem d_T_hasDummy_12 : decode b_T_hasDummy 12 = .ok (.ireturn, 1) := by decide +kernel
def m_T_hasDummy (N : Nat) (σ : SX) (i : Nat) : Option (Int32 × SX) :=
  (if ((σ (7 + i)).1 2) ≤ 0 then some (0, σ) else some (1, σ))

set_option maxHeartbeats 4000000 in
set_option maxRecDepth 100000 in
theorem c_T_hasDummy (l : Launch) (dC : Nat → ClassId) (dI : Nat → Nat → Nat) (ad : Nat → Nat → Nat) (cs : Nat → ClassId) (sz N : Nat) (σ : SX) (i : Nat) (hi : i < 4) {r0 : Int32} {σ0 : SX} (hM : m_T_hasDummy N σ i = some (r0, σ0)) : Met l y_T_hasDummy (wd y_T_hasDummy b_T_hasDummy 1 (some .boolean)) ({ frames := 0, cells := 0, slots := 0, locals := 0 }) (va_Pc [.ref (ad (7 + i) 0)] (preX dC dI ad cs sz σ)) (va_Qi (fun (r : Int32) (u : SX) => r = r0 ∧ u = σ0) (atX dC dI ad cs (va_A (wX ad cs σ) sz)) (va_A (wX ad cs σ) sz)) 0 0 (va_A (wX ad cs σ) sz) := by
  refine Met.ofW (cc := b_T_hasDummy) (maxL := 1) (ret := (some .boolean)) (by decide) rfl ?_
  intro p e s m args below meth c s₁ B hml hv
  obtain ⟨rfl, hsz, hP, hK, hD0, hN⟩ := hv
  have hx := B.exec
  have hb := B.bytes
  have hr := B.returns
  have hts := atoms_spec (ws := (wd y_T_hasDummy b_T_hasDummy 1 (some .boolean))) B.pre
  have htb : ∀ w ∈ tb, w.before _ s = true := fun w h => hts w (List.mem_cons_of_mem _ h)
  have hown : s.vm.findClass R_T = some m.cls := findClass_of_methodNamed B.named
  have hlocks := B.notSynchronized
  subst hsz
  have hD := hD0.self (sz := s.heap.size)
  generalize hAe : va_A (wX ad cs σ) s.heap.size = A at hD ⊢
  have hA : ∀ q : Nat, s.heap.size ≤ q → A q := fun q h => by rw [← hAe]; exact Or.inr h
  have hS : va_S A s.heap s.heap [] := va_S.rf
  have hP : va_P (dC, dI) classes (wX ad cs σ) s.heap := hP
  have hl := lv_entry ([.ref (ad (7 + i) 0)]) (n := 1) (Nat.le_of_ble_eq_true rfl)
  rw [lg_entry_eq]
  generalize (lg_sl ([.ref (ad (7 + i) 0)]) ++ List.replicate (1 - (lg_sl ([.ref (ad (7 + i) 0)])).length) Slot.unset).toArray = ls at hl ⊢
  have hl : lv_has ls 1 [(0, .ref (ad (7 + i) 0))] := hl
  rw [m_T_hasDummy] at hM
  refine lv_aload_n hx hb d_T_hasDummy_0 rfl (lv_at hl 0 rfl) ?_
  refine va_get (D := (dC, dI)) (ci := 6) (v := .int ((σ (7 + i)).1 2)) (C := R_T) (T := F_T) (N := 6) hx hb htb in_T hown hK hP (19 + 3 * i) (g_T hi) rfl 4 (by decide) (htb _ k_133) (fun _ h9 => h9) rfl d_T_hasDummy_1 ?_
  refine lv_if_le (tgt := 11) hx hb d_T_hasDummy_4 (by decide) (fun h4 => ?_) (fun h4 => ?_)
  · rw [if_pos h4] at hM
    refine lv_iconst (v := 0) hx hb d_T_hasDummy_11 (by decide) ?_
    have e9 := Prod.mk.inj (Option.some.inj hM)
    exact W.zret (ty := .boolean) (v := 0) hx hb hr rfl (fun t ht hW => ⟨⟨0, σ, rfl, e9, by rw [ht]; exact hP, va_K.moved hW.alike hK, hD⟩, hS.F ht⟩) hS.2.2 d_T_hasDummy_12
  · rw [if_neg h4] at hM
    refine lv_iconst (v := 1) hx hb d_T_hasDummy_7 (by decide) ?_
    refine lv_goto (tgt := 12) hx hb d_T_hasDummy_8 (by decide) ?_
    have e9 := Prod.mk.inj (Option.some.inj hM)
    exact W.zret (ty := .boolean) (v := 1) hx hb hr rfl (fun t ht hW => ⟨⟨1, σ, rfl, e9, by rw [ht]; exact hP, va_K.moved hW.alike hK, hD⟩, hS.F ht⟩) hS.2.2 d_T_hasDummy_12

theorem d_M_thrown_0 : decode b_M_thrown 0 = .ok (.aload_n 0, 1) := by decide +kernel
theorem d_M_thrown_1 : decode b_M_thrown 1 = .ok (.getfield 70, 3) := by decide +kernel
theorem d_M_thrown_4 : decode b_M_thrown 4 = .ok (.ireturn, 1) := by decide +kernel
def m_M_thrown (N : Nat) (σ : SX) : Option (Int32 × SX) :=
  some (((σ 0).1 0), σ)

set_option maxHeartbeats 4000000 in
set_option maxRecDepth 100000 in
theorem c_M_thrown (l : Launch) (dC : Nat → ClassId) (dI : Nat → Nat → Nat) (ad : Nat → Nat → Nat) (cs : Nat → ClassId) (sz N : Nat) (σ : SX) {r0 : Int32} {σ0 : SX} (hM : m_M_thrown N σ = some (r0, σ0)) : Met l y_M_thrown (wd y_M_thrown b_M_thrown 1 (some .int)) ({ frames := 0, cells := 0, slots := 0, locals := 0 }) (va_Pc [.ref (ad 0 0)] (preM dC dI ad cs sz σ)) (va_Qi (fun (r : Int32) (u : SX) => r = r0 ∧ u = σ0) (atM dC dI ad cs (va_A (wM ad cs σ) sz)) (va_A (wM ad cs σ) sz)) 0 0 (va_A (wM ad cs σ) sz) := by
  refine Met.ofW (cc := b_M_thrown) (maxL := 1) (ret := (some .int)) (by decide) rfl ?_
  intro p e s m args below meth c s₁ B hml hv
  obtain ⟨rfl, hsz, hP, hK, hD0, hN⟩ := hv
  have hx := B.exec
  have hb := B.bytes
  have hr := B.returns
  have hts := atoms_spec (ws := (wd y_M_thrown b_M_thrown 1 (some .int))) B.pre
  have htb : ∀ w ∈ tb, w.before _ s = true := fun w h => hts w (List.mem_cons_of_mem _ h)
  have hown : s.vm.findClass R_M = some m.cls := findClass_of_methodNamed B.named
  have hlocks := B.notSynchronized
  subst hsz
  have hD := hD0.self (sz := s.heap.size)
  generalize hAe : va_A (wM ad cs σ) s.heap.size = A at hD ⊢
  have hA : ∀ q : Nat, s.heap.size ≤ q → A q := fun q h => by rw [← hAe]; exact Or.inr h
  have hS : va_S A s.heap s.heap [] := va_S.rf
  have hP : va_P (dC, dI) classes (wM ad cs σ) s.heap := hP
  have hl := lv_entry ([.ref (ad 0 0)]) (n := 1) (Nat.le_of_ble_eq_true rfl)
  rw [lg_entry_eq]
  generalize (lg_sl ([.ref (ad 0 0)]) ++ List.replicate (1 - (lg_sl ([.ref (ad 0 0)])).length) Slot.unset).toArray = ls at hl ⊢
  have hl : lv_has ls 1 [(0, .ref (ad 0 0))] := hl
  rw [m_M_thrown] at hM
  refine lv_aload_n hx hb d_M_thrown_0 rfl (lv_at hl 0 rfl) ?_
  refine va_get (D := (dC, dI)) (ci := 7) (v := .int ((σ 0).1 0)) (C := R_M) (T := F_M) (N := 33) hx hb htb in_M hown hK hP 0 (g_M) rfl 0 (by decide) (htb _ k_619) (fun _ h9 => h9) rfl d_M_thrown_1 ?_
  have e9 := Prod.mk.inj (Option.some.inj hM)
  exact W.iret (v := ((σ 0).1 0)) hx hb hr (fun t ht hW => ⟨⟨((σ 0).1 0), σ, rfl, e9, by rw [ht]; exact hP, va_K.moved hW.alike hK, hD⟩, hS.F ht⟩) hS.2.2 d_M_thrown_4

theorem d_M_standing_0 : decode b_M_standing 0 = .ok (.iload_n 1, 1) := by decide +kernel
theorem d_M_standing_1 : decode b_M_standing 1 = .ok (.ifCond .ne 6, 3) := by decide +kernel
theorem d_M_standing_4 : decode b_M_standing 4 = .ok (.iload_n 0, 1) := by decide +kernel
theorem d_M_standing_5 : decode b_M_standing 5 = .ok (.i2l, 1) := by decide +kernel
theorem d_M_standing_6 : decode b_M_standing 6 = .ok (.lreturn, 1) := by decide +kernel
theorem d_M_standing_7 : decode b_M_standing 7 = .ok (.iload_n 1, 1) := by decide +kernel
theorem d_M_standing_8 : decode b_M_standing 8 = .ok (.iconst 1, 1) := by decide +kernel
theorem d_M_standing_9 : decode b_M_standing 9 = .ok (.if_icmp .ne 7, 3) := by decide +kernel
theorem d_M_standing_12 : decode b_M_standing 12 = .ok (.iload_n 0, 1) := by decide +kernel
theorem d_M_standing_13 : decode b_M_standing 13 = .ok (.i2l, 1) := by decide +kernel
theorem d_M_standing_14 : decode b_M_standing 14 = .ok (.lneg, 1) := by decide +kernel
theorem d_M_standing_15 : decode b_M_standing 15 = .ok (.lreturn, 1) := by decide +kernel
theorem d_M_standing_16 : decode b_M_standing 16 = .ok (.iload_n 1, 1) := by decide +kernel
theorem d_M_standing_17 : decode b_M_standing 17 = .ok (.iconst 2, 1) := by decide +kernel
theorem d_M_standing_18 : decode b_M_standing 18 = .ok (.if_icmp .ne 12, 3) := by decide +kernel
theorem d_M_standing_21 : decode b_M_standing 21 = .ok (.iload_n 0, 1) := by decide +kernel
theorem d_M_standing_22 : decode b_M_standing 22 = .ok (.i2l, 1) := by decide +kernel
theorem d_M_standing_23 : decode b_M_standing 23 = .ok (.ldc2_w 82, 3) := by decide +kernel
theorem d_M_standing_26 : decode b_M_standing 26 = .ok (.land, 1) := by decide +kernel
theorem d_M_standing_27 : decode b_M_standing 27 = .ok (.goto 15, 3) := by decide +kernel
theorem d_M_standing_30 : decode b_M_standing 30 = .ok (.iload_n 0, 1) := by decide +kernel
theorem d_M_standing_31 : decode b_M_standing 31 = .ok (.ifCond .ge 9, 3) := by decide +kernel
theorem d_M_standing_34 : decode b_M_standing 34 = .ok (.iload_n 0, 1) := by decide +kernel
theorem d_M_standing_35 : decode b_M_standing 35 = .ok (.i2l, 1) := by decide +kernel
theorem d_M_standing_36 : decode b_M_standing 36 = .ok (.lneg, 1) := by decide +kernel
theorem d_M_standing_37 : decode b_M_standing 37 = .ok (.goto 5, 3) := by decide +kernel
theorem d_M_standing_40 : decode b_M_standing 40 = .ok (.iload_n 0, 1) := by decide +kernel
theorem d_M_standing_41 : decode b_M_standing 41 = .ok (.i2l, 1) := by decide +kernel
theorem d_M_standing_42 : decode b_M_standing 42 = .ok (.lreturn, 1) := by decide +kernel
def m_M_standing (a0 : Int32) (a1 : Int32) : Option Int64 :=
  (if a1 = 0 then some a0.toInt64 else (if a1 = 1 then some (-a0.toInt64) else (if a1 = 2 then some (a0.toInt64 &&& 4294967295) else (if 0 ≤ a0 then some a0.toInt64 else some (-a0.toInt64)))))

set_option maxHeartbeats 4000000 in
set_option maxRecDepth 100000 in
theorem c_M_standing (l : Launch) (sz : Nat) (a0 : Int32) (a1 : Int32) {r0 : Int64} (hM : m_M_standing a0 a1 = some r0) : Met l y_M_standing (wd y_M_standing b_M_standing 2 (some .long)) ({ frames := 0, cells := 0, slots := 0, locals := 0 }) (va_Pc [.int a0, .int a1] (fun U => U.heap.size = sz)) (va_Ql (fun (r : Int64) (_ : Unit) => r = r0) (fun _ _ => True) (fun q => sz ≤ q)) 0 0 (fun q => sz ≤ q) := by
  refine Met.ofW (cc := b_M_standing) (maxL := 2) (ret := (some .long)) (by decide) rfl ?_
  intro p e s m args below meth c s₁ B hml hv
  obtain ⟨rfl, hsz⟩ := hv
  have hx := B.exec
  have hb := B.bytes
  have hr := B.returns
  have hts := atoms_spec (ws := (wd y_M_standing b_M_standing 2 (some .long))) B.pre
  have htb : ∀ w ∈ tb, w.before _ s = true := fun w h => hts w (List.mem_cons_of_mem _ h)
  have hown : s.vm.findClass R_M = some m.cls := findClass_of_methodNamed B.named
  have hlocks := B.notSynchronized
  subst hsz
  have hS : va_S (fun q => s.heap.size ≤ q) s.heap s.heap [] := va_S.rf
  have hA : ∀ q : Nat, s.heap.size ≤ q → s.heap.size ≤ q := fun q h => h
  have hl := lv_entry ([.int a0, .int a1]) (n := 2) (Nat.le_of_ble_eq_true rfl)
  rw [lg_entry_eq]
  generalize (lg_sl ([.int a0, .int a1]) ++ List.replicate (2 - (lg_sl ([.int a0, .int a1])).length) Slot.unset).toArray = ls at hl ⊢
  have hl : lv_has ls 2 [(0, .int a0), (1, .int a1)] := hl
  rw [m_M_standing] at hM
  refine lv_iload_n hx hb d_M_standing_0 rfl (lv_at hl 1 rfl) ?_
  refine lv_if_ne (tgt := 7) hx hb d_M_standing_1 (by decide) (fun h1 => ?_) (fun h1 => ?_)
  · rw [if_neg h1] at hM
    refine lv_iload_n hx hb d_M_standing_7 rfl (lv_at hl 1 rfl) ?_
    refine lv_iconst (v := 1) hx hb d_M_standing_8 (by decide) ?_
    refine lv_icmp_ne (tgt := 16) hx hb d_M_standing_9 (by decide) (fun h9 => ?_) (fun h9 => ?_)
    · rw [if_neg h9] at hM
      refine lv_iload_n hx hb d_M_standing_16 rfl (lv_at hl 1 rfl) ?_
      refine lv_iconst (v := 2) hx hb d_M_standing_17 (by decide) ?_
      refine lv_icmp_ne (tgt := 30) hx hb d_M_standing_18 (by decide) (fun h18 => ?_) (fun h18 => ?_)
      · rw [if_neg h18] at hM
        refine lv_iload_n hx hb d_M_standing_30 rfl (lv_at hl 0 rfl) ?_
        refine lv_if_ge (tgt := 40) hx hb d_M_standing_31 (by decide) (fun h31 => ?_) (fun h31 => ?_)
        · rw [if_pos h31] at hM
          refine lv_iload_n hx hb d_M_standing_40 rfl (lv_at hl 0 rfl) ?_
          refine lv_i2l hx hb d_M_standing_41 rfl ?_
          have e9 := Option.some.inj hM
          exact W.lret (v := a0.toInt64) hx hb hr (fun t ht hW => ⟨⟨a0.toInt64, (), rfl, e9, trivial⟩, hS.F ht⟩) hS.2.2 d_M_standing_42
        · rw [if_neg h31] at hM
          refine lv_iload_n hx hb d_M_standing_34 rfl (lv_at hl 0 rfl) ?_
          refine lv_i2l hx hb d_M_standing_35 rfl ?_
          refine lv_lneg hx hb d_M_standing_36 ?_
          refine lv_goto (tgt := 42) hx hb d_M_standing_37 (by decide) ?_
          have e9 := Option.some.inj hM
          exact W.lret (v := (-a0.toInt64)) hx hb hr (fun t ht hW => ⟨⟨(-a0.toInt64), (), rfl, e9, trivial⟩, hS.F ht⟩) hS.2.2 d_M_standing_42
      · rw [if_pos h18] at hM
        refine lv_iload_n hx hb d_M_standing_21 rfl (lv_at hl 0 rfl) ?_
        refine lv_i2l hx hb d_M_standing_22 rfl ?_
        refine lv_ldc2 (own := R_M) (v := 4294967295) hx hb hown (htb _ k_746) d_M_standing_23 ?_
        refine lv_land hx hb d_M_standing_26 ?_
        refine lv_goto (tgt := 42) hx hb d_M_standing_27 (by decide) ?_
        have e9 := Option.some.inj hM
        exact W.lret (v := (a0.toInt64 &&& 4294967295)) hx hb hr (fun t ht hW => ⟨⟨(a0.toInt64 &&& 4294967295), (), rfl, e9, trivial⟩, hS.F ht⟩) hS.2.2 d_M_standing_42
    · rw [if_pos h9] at hM
      refine lv_iload_n hx hb d_M_standing_12 rfl (lv_at hl 0 rfl) ?_
      refine lv_i2l hx hb d_M_standing_13 rfl ?_
      refine lv_lneg hx hb d_M_standing_14 ?_
      have e9 := Option.some.inj hM
      exact W.lret (v := (-a0.toInt64)) hx hb hr (fun t ht hW => ⟨⟨(-a0.toInt64), (), rfl, e9, trivial⟩, hS.F ht⟩) hS.2.2 d_M_standing_15
  · rw [if_pos h1] at hM
    refine lv_iload_n hx hb d_M_standing_4 rfl (lv_at hl 0 rfl) ?_
    refine lv_i2l hx hb d_M_standing_5 rfl ?_
    have e9 := Option.some.inj hM
    exact W.lret (v := a0.toInt64) hx hb hr (fun t ht hW => ⟨⟨a0.toInt64, (), rfl, e9, trivial⟩, hS.F ht⟩) hS.2.2 d_M_standing_6

theorem d_M_comesFirst_0 : decode b_M_comesFirst 0 = .ok (.iconst 0, 1) := by decide +kernel
theorem d_M_comesFirst_1 : decode b_M_comesFirst 1 = .ok (.istore_n 3, 1) := by decide +kernel
theorem d_M_comesFirst_2 : decode b_M_comesFirst 2 = .ok (.iload_n 3, 1) := by decide +kernel
theorem d_M_comesFirst_3 : decode b_M_comesFirst 3 = .ok (.aload_n 0, 1) := by decide +kernel
theorem d_M_comesFirst_4 : decode b_M_comesFirst 4 = .ok (.getfield 79, 3) := by decide +kernel
theorem d_M_comesFirst_7 : decode b_M_comesFirst 7 = .ok (.if_icmp .ge 83, 3) := by decide +kernel
theorem d_M_comesFirst_10 : decode b_M_comesFirst 10 = .ok (.aload_n 0, 1) := by decide +kernel
theorem d_M_comesFirst_11 : decode b_M_comesFirst 11 = .ok (.getfield 7, 3) := by decide +kernel
theorem d_M_comesFirst_14 : decode b_M_comesFirst 14 = .ok (.iconst 2, 1) := by decide +kernel
theorem d_M_comesFirst_15 : decode b_M_comesFirst 15 = .ok (.iload_n 1, 1) := by decide +kernel
theorem d_M_comesFirst_16 : decode b_M_comesFirst 16 = .ok (.imul, 1) := by decide +kernel
theorem d_M_comesFirst_17 : decode b_M_comesFirst 17 = .ok (.aload_n 0, 1) := by decide +kernel
theorem d_M_comesFirst_18 : decode b_M_comesFirst 18 = .ok (.getfield 13, 3) := by decide +kernel
theorem d_M_comesFirst_21 : decode b_M_comesFirst 21 = .ok (.iload_n 3, 1) := by decide +kernel
theorem d_M_comesFirst_22 : decode b_M_comesFirst 22 = .ok (.iaload, 1) := by decide +kernel
theorem d_M_comesFirst_23 : decode b_M_comesFirst 23 = .ok (.iadd, 1) := by decide +kernel
theorem d_M_comesFirst_24 : decode b_M_comesFirst 24 = .ok (.iaload, 1) := by decide +kernel
theorem d_M_comesFirst_25 : decode b_M_comesFirst 25 = .ok (.aload_n 0, 1) := by decide +kernel
theorem d_M_comesFirst_26 : decode b_M_comesFirst 26 = .ok (.getfield 16, 3) := by decide +kernel
theorem d_M_comesFirst_29 : decode b_M_comesFirst 29 = .ok (.iload_n 3, 1) := by decide +kernel
theorem d_M_comesFirst_30 : decode b_M_comesFirst 30 = .ok (.iaload, 1) := by decide +kernel
theorem d_M_comesFirst_31 : decode b_M_comesFirst 31 = .ok (.invokestatic 84, 3) := by decide +kernel
theorem d_M_comesFirst_34 : decode b_M_comesFirst 34 = .ok (.lstore 4, 2) := by decide +kernel
theorem d_M_comesFirst_36 : decode b_M_comesFirst 36 = .ok (.aload_n 0, 1) := by decide +kernel
theorem d_M_comesFirst_37 : decode b_M_comesFirst 37 = .ok (.getfield 7, 3) := by decide +kernel
theorem d_M_comesFirst_40 : decode b_M_comesFirst 40 = .ok (.iconst 2, 1) := by decide +kernel
theorem d_M_comesFirst_41 : decode b_M_comesFirst 41 = .ok (.iload_n 2, 1) := by decide +kernel
theorem d_M_comesFirst_42 : decode b_M_comesFirst 42 = .ok (.imul, 1) := by decide +kernel
theorem d_M_comesFirst_43 : decode b_M_comesFirst 43 = .ok (.aload_n 0, 1) := by decide +kernel
theorem d_M_comesFirst_44 : decode b_M_comesFirst 44 = .ok (.getfield 13, 3) := by decide +kernel
theorem d_M_comesFirst_47 : decode b_M_comesFirst 47 = .ok (.iload_n 3, 1) := by decide +kernel
theorem d_M_comesFirst_48 : decode b_M_comesFirst 48 = .ok (.iaload, 1) := by decide +kernel
theorem d_M_comesFirst_49 : decode b_M_comesFirst 49 = .ok (.iadd, 1) := by decide +kernel
theorem d_M_comesFirst_50 : decode b_M_comesFirst 50 = .ok (.iaload, 1) := by decide +kernel
theorem d_M_comesFirst_51 : decode b_M_comesFirst 51 = .ok (.aload_n 0, 1) := by decide +kernel
theorem d_M_comesFirst_52 : decode b_M_comesFirst 52 = .ok (.getfield 16, 3) := by decide +kernel
theorem d_M_comesFirst_55 : decode b_M_comesFirst 55 = .ok (.iload_n 3, 1) := by decide +kernel
theorem d_M_comesFirst_56 : decode b_M_comesFirst 56 = .ok (.iaload, 1) := by decide +kernel
theorem d_M_comesFirst_57 : decode b_M_comesFirst 57 = .ok (.invokestatic 84, 3) := by decide +kernel
theorem d_M_comesFirst_60 : decode b_M_comesFirst 60 = .ok (.lstore 6, 2) := by decide +kernel
theorem d_M_comesFirst_62 : decode b_M_comesFirst 62 = .ok (.lload 4, 2) := by decide +kernel
theorem d_M_comesFirst_64 : decode b_M_comesFirst 64 = .ok (.lload 6, 2) := by decide +kernel
theorem d_M_comesFirst_66 : decode b_M_comesFirst 66 = .ok (.lcmp, 1) := by decide +kernel
theorem d_M_comesFirst_67 : decode b_M_comesFirst 67 = .ok (.ifCond .eq 17, 3) := by decide +kernel
theorem d_M_comesFirst_70 : decode b_M_comesFirst 70 = .ok (.lload 4, 2) := by decide +kernel
theorem d_M_comesFirst_72 : decode b_M_comesFirst 72 = .ok (.lload 6, 2) := by decide +kernel
theorem d_M_comesFirst_74 : decode b_M_comesFirst 74 = .ok (.lcmp, 1) := by decide +kernel
theorem d_M_comesFirst_75 : decode b_M_comesFirst 75 = .ok (.ifCond .ge 7, 3) := by decide +kernel
theorem d_M_comesFirst_78 : decode b_M_comesFirst 78 = .ok (.iconst 1, 1) := by decide +kernel
theorem d_M_comesFirst_79 : decode b_M_comesFirst 79 = .ok (.goto 4, 3) := by decide +kernel
theorem d_M_comesFirst_82 : decode b_M_comesFirst 82 = .ok (.iconst 0, 1) := by decide +kernel
theorem d_M_comesFirst_83 : decode b_M_comesFirst 83 = .ok (.ireturn, 1) := by decide +kernel
theorem d_M_comesFirst_84 : decode b_M_comesFirst 84 = .ok (.iinc 3 1, 3) := by decide +kernel
theorem d_M_comesFirst_87 : decode b_M_comesFirst 87 = .ok (.goto (-85), 3) := by decide +kernel
theorem d_M_comesFirst_90 : decode b_M_comesFirst 90 = .ok (.iload_n 1, 1) := by decide +kernel
theorem d_M_comesFirst_91 : decode b_M_comesFirst 91 = .ok (.iload_n 2, 1) := by decide +kernel
theorem d_M_comesFirst_92 : decode b_M_comesFirst 92 = .ok (.if_icmp .ge 7, 3) := by decide +kernel
theorem d_M_comesFirst_95 : decode b_M_comesFirst 95 = .ok (.iconst 1, 1) := by decide +kernel
theorem d_M_comesFirst_96 : decode b_M_comesFirst 96 = .ok (.goto 4, 3) := by decide +kernel
theorem d_M_comesFirst_99 : decode b_M_comesFirst 99 = .ok (.iconst 0, 1) := by decide +kernel
theorem d_M_comesFirst_100 : decode b_M_comesFirst 100 = .ok (.ireturn, 1) := by decide +kernel
def m_M_comesFirst_2 (N : Nat) : Nat → SX → Int32 → Int32 → Int32 → Option (Int32 × SX)
  | 0, _, _, _, _ => none
  | n2 + 1, σ, v1, v2, v3 =>
    (if ((σ 0).1 3) ≤ v3 then (if v2 ≤ v1 then some (0, σ) else some (1, σ)) else (if inb v3 3 = true then (if inb ((2 * v1) + ((σ 0).2 2 v3.toNatClampNeg)) 300 = true then (if inb v3 3 = true then (bL (m_M_standing ((σ 0).2 1 ((2 * v1) + ((σ 0).2 2 v3.toNatClampNeg)).toNatClampNeg) ((σ 0).2 3 v3.toNatClampNeg)) fun r31 => (if inb v3 3 = true then (if inb ((2 * v2) + ((σ 0).2 2 v3.toNatClampNeg)) 300 = true then (if inb v3 3 = true then (bL (m_M_standing ((σ 0).2 1 ((2 * v2) + ((σ 0).2 2 v3.toNatClampNeg)).toNatClampNeg) ((σ 0).2 3 v3.toNatClampNeg)) fun r57 => (if (lg_cmp r31 r57) = 0 then m_M_comesFirst_2 N n2 σ v1 v2 (v3 + 1) else (if 0 ≤ (lg_cmp r31 r57) then some (0, σ) else some (1, σ)))) else none) else none) else none)) else none) else none) else none))

def m_M_comesFirst (N : Nat) (σ : SX) (a1 : Int32) (a2 : Int32) : Option (Int32 × SX) :=
  m_M_comesFirst_2 N N σ a1 a2 0

set_option maxHeartbeats 4000000 in
set_option maxRecDepth 100000 in
theorem c_M_comesFirst (l : Launch) (dC : Nat → ClassId) (dI : Nat → Nat → Nat) (ad : Nat → Nat → Nat) (cs : Nat → ClassId) (sz N : Nat) (σ : SX) (a1 : Int32) (a2 : Int32) {r0 : Int32} {σ0 : SX} (hM : m_M_comesFirst N σ a1 a2 = some (r0, σ0)) : Met l y_M_comesFirst (wd y_M_comesFirst b_M_comesFirst 8 (some .boolean)) ({ frames := 1, cells := 0, slots := 0, locals := 21 }) (va_Pc [.ref (ad 0 0), .int a1, .int a2] (preM dC dI ad cs sz σ)) (va_Qi (fun (r : Int32) (u : SX) => r = r0 ∧ u = σ0) (atM dC dI ad cs (va_A (wM ad cs σ) sz)) (va_A (wM ad cs σ) sz)) 0 0 (va_A (wM ad cs σ) sz) := by
  refine Met.ofW (cc := b_M_comesFirst) (maxL := 8) (ret := (some .boolean)) (by decide) rfl ?_
  intro p e s m args below meth c s₁ B hml hv
  obtain ⟨rfl, hsz, hP, hK, hD0, hN⟩ := hv
  have hx := B.exec
  have hb := B.bytes
  have hr := B.returns
  have hts := atoms_spec (ws := (wd y_M_comesFirst b_M_comesFirst 8 (some .boolean))) B.pre
  have htb : ∀ w ∈ tb, w.before _ s = true := fun w h => hts w (List.mem_cons_of_mem _ h)
  have hown : s.vm.findClass R_M = some m.cls := findClass_of_methodNamed B.named
  have hlocks := B.notSynchronized
  subst hsz
  have hD := hD0.self (sz := s.heap.size)
  generalize hAe : va_A (wM ad cs σ) s.heap.size = A at hD ⊢
  have hA : ∀ q : Nat, s.heap.size ≤ q → A q := fun q h => by rw [← hAe]; exact Or.inr h
  have hS : va_S A s.heap s.heap [] := va_S.rf
  have hP : va_P (dC, dI) classes (wM ad cs σ) s.heap := hP
  have hl := lv_entry ([.ref (ad 0 0), .int a1, .int a2]) (n := 8) (Nat.le_of_ble_eq_true rfl)
  rw [lg_entry_eq]
  generalize (lg_sl ([.ref (ad 0 0), .int a1, .int a2]) ++ List.replicate (8 - (lg_sl ([.ref (ad 0 0), .int a1, .int a2])).length) Slot.unset).toArray = ls at hl ⊢
  have hl : lv_has ls 8 [(0, .ref (ad 0 0)), (1, .int a1), (2, .int a2)] := hl
  rw [m_M_comesFirst] at hM
  refine W_loop (pc := 2) (fun n2 H locs ls st => ∃ (σ : SX) (v1 : Int32) (v2 : Int32) (v3 : Int32), st = [] ∧ m_M_comesFirst_2 N n2 σ v1 v2 v3 = some (r0, σ0) ∧ lv_has ls 8 [(0, .ref (ad 0 0)), (1, .int v1), (2, .int v2), (3, .int v3)] ∧ va_P (dC, dI) classes (wM ad cs σ) H ∧ va_D A (wM ad cs σ) ∧ va_S A s.heap H locs) ?_ ?_ ?_
  · rintro H locs ls st ⟨σ, v1, v2, v3, -, hM, -⟩
    rw [m_M_comesFirst_2] at hM; cases hM
  · intro n2 K2 H locs ls st hI
    obtain ⟨σ, v1, v2, v3, rfl, hM, hl, hP, hD, hS⟩ := hI
    rw [m_M_comesFirst_2] at hM
    refine lv_iload_n hx hb d_M_comesFirst_2 rfl (lv_at hl 3 rfl) ?_
    refine lv_aload_n hx hb d_M_comesFirst_3 rfl (lv_at hl 0 rfl) ?_
    refine va_get (D := (dC, dI)) (ci := 7) (v := .int ((σ 0).1 3)) (C := R_M) (T := F_M) (N := 33) hx hb htb in_M hown hK hP 0 (g_M) rfl 4 (by decide) (htb _ k_623) (fun _ h9 => h9) rfl d_M_comesFirst_4 ?_
    refine lv_icmp_ge (tgt := 90) hx hb d_M_comesFirst_7 (by decide) (fun h7 => ?_) (fun h7 => ?_)
    · rw [if_pos h7] at hM
      refine lv_iload_n hx hb d_M_comesFirst_90 rfl (lv_at hl 1 rfl) ?_
      refine lv_iload_n hx hb d_M_comesFirst_91 rfl (lv_at hl 2 rfl) ?_
      refine lv_icmp_ge (tgt := 99) hx hb d_M_comesFirst_92 (by decide) (fun h92 => ?_) (fun h92 => ?_)
      · rw [if_pos h92] at hM
        refine lv_iconst (v := 0) hx hb d_M_comesFirst_99 (by decide) ?_
        have e9 := Prod.mk.inj (Option.some.inj hM)
        exact W.zret (ty := .boolean) (v := 0) hx hb hr rfl (fun t ht hW => ⟨⟨0, σ, rfl, e9, by rw [ht]; exact hP, va_K.moved hW.alike hK, hD⟩, hS.F ht⟩) hS.2.2 d_M_comesFirst_100
      · rw [if_neg h92] at hM
        refine lv_iconst (v := 1) hx hb d_M_comesFirst_95 (by decide) ?_
        refine lv_goto (tgt := 100) hx hb d_M_comesFirst_96 (by decide) ?_
        have e9 := Prod.mk.inj (Option.some.inj hM)
        exact W.zret (ty := .boolean) (v := 1) hx hb hr rfl (fun t ht hW => ⟨⟨1, σ, rfl, e9, by rw [ht]; exact hP, va_K.moved hW.alike hK, hD⟩, hS.F ht⟩) hS.2.2 d_M_comesFirst_100
    · rw [if_neg h7] at hM
      refine lv_aload_n hx hb d_M_comesFirst_10 rfl (lv_at hl 0 rfl) ?_
      refine va_get (D := (dC, dI)) (ci := 7) (v := .ref (ad 0 1)) (C := R_M) (T := F_M) (N := 33) hx hb htb in_M hown hK hP 0 (g_M) rfl 3 (by decide) (htb _ k_622) (fun _ h9 => h9) rfl d_M_comesFirst_11 ?_
      refine lv_iconst (v := 2) hx hb d_M_comesFirst_14 (by decide) ?_
      refine lv_iload_n hx hb d_M_comesFirst_15 rfl (lv_at hl 1 rfl) ?_
      refine lv_imul hx hb d_M_comesFirst_16 ?_
      refine lv_aload_n hx hb d_M_comesFirst_17 rfl (lv_at hl 0 rfl) ?_
      refine va_get (D := (dC, dI)) (ci := 7) (v := .ref (ad 0 2)) (C := R_M) (T := F_M) (N := 33) hx hb htb in_M hown hK hP 0 (g_M) rfl 5 (by decide) (htb _ k_624) (fun _ h9 => h9) rfl d_M_comesFirst_18 ?_
      refine lv_iload_n hx hb d_M_comesFirst_21 rfl (lv_at hl 3 rfl) ?_
      have hg22 := gd_c hM
      have hM := gd_v hM
      refine va_iald hx hb hK hP 2 0 (g_M_a2) rfl (inb_in hg22) d_M_comesFirst_22 ?_
      refine lv_iadd hx hb d_M_comesFirst_23 ?_
      have hg24 := gd_c hM
      have hM := gd_v hM
      refine va_iald hx hb hK hP 1 0 (g_M_a1) rfl (inb_in hg24) d_M_comesFirst_24 ?_
      refine lv_aload_n hx hb d_M_comesFirst_25 rfl (lv_at hl 0 rfl) ?_
      refine va_get (D := (dC, dI)) (ci := 7) (v := .ref (ad 0 3)) (C := R_M) (T := F_M) (N := 33) hx hb htb in_M hown hK hP 0 (g_M) rfl 6 (by decide) (htb _ k_625) (fun _ h9 => h9) rfl d_M_comesFirst_26 ?_
      refine lv_iload_n hx hb d_M_comesFirst_29 rfl (lv_at hl 3 rfl) ?_
      have hg30 := gd_c hM
      have hM := gd_v hM
      refine va_iald hx hb hK hP 3 0 (g_M_a3) rfl (inb_in hg30) d_M_comesFirst_30 ?_
      obtain ⟨x31, hq31, hM⟩ := bL_some hM
      refine va_calll (va_runS (As := [.int ((σ 0).2 1 ((2 * v1) + ((σ 0).2 2 v3.toNatClampNeg)).toNatClampNeg), .int ((σ 0).2 3 v3.toNatClampNeg)]) (rest := []) ⟨hx, hb, hml, hown, hts⟩ (c_M_standing l H.size ((σ 0).2 1 ((2 * v1) + ((σ 0).2 2 v3.toNatClampNeg)).toNatClampNeg) ((σ 0).2 3 v3.toNatClampNeg) hq31) (cwS 2 hts (goodS k_743 k_744 k_8 k_745) rfl rfl rfl ⟨rfl, by decide, by decide, by decide +kernel⟩ ⟨Nat.le_of_ble_eq_true rfl, Nat.le_of_ble_eq_true rfl⟩) ⟨blindS, payS⟩ rfl rfl hl.1 rfl (lv_room (Nat.le_of_ble_eq_true rfl)) d_M_comesFirst_31 ⟨Nat.zero_le _, Nat.zero_le _⟩) hS (fun q h0 h => absurd h0 (Nat.not_lt.mpr h)) (fun q h => hA q (Nat.le_trans hS.1 h)) (fun r31 u t H locs ht hvm hpost hB hz1 hk1 hS => ?_)
      subst hpost
      have hP := keepP hP hk1
      refine lv_lstore hx hb d_M_comesFirst_34 hl (by decide) (lv' := [(4, .long r31), (0, .ref (ad 0 0)), (1, .int v1), (2, .int v2), (3, .int v3)]) rfl (fun ls hl => ?_)
      refine lv_aload_n hx hb d_M_comesFirst_36 rfl (lv_at hl 1 rfl) ?_
      refine va_get (D := (dC, dI)) (ci := 7) (v := .ref (ad 0 1)) (C := R_M) (T := F_M) (N := 33) hx hb htb in_M hown hK hP 0 (g_M) rfl 3 (by decide) (htb _ k_622) (fun _ h9 => h9) rfl d_M_comesFirst_37 ?_
      refine lv_iconst (v := 2) hx hb d_M_comesFirst_40 (by decide) ?_
      refine lv_iload_n hx hb d_M_comesFirst_41 rfl (lv_at hl 3 rfl) ?_
      refine lv_imul hx hb d_M_comesFirst_42 ?_
      refine lv_aload_n hx hb d_M_comesFirst_43 rfl (lv_at hl 1 rfl) ?_
      refine va_get (D := (dC, dI)) (ci := 7) (v := .ref (ad 0 2)) (C := R_M) (T := F_M) (N := 33) hx hb htb in_M hown hK hP 0 (g_M) rfl 5 (by decide) (htb _ k_624) (fun _ h9 => h9) rfl d_M_comesFirst_44 ?_
      refine lv_iload_n hx hb d_M_comesFirst_47 rfl (lv_at hl 4 rfl) ?_
      have hg48 := gd_c hM
      have hM := gd_v hM
      refine va_iald hx hb hK hP 2 0 (g_M_a2) rfl (inb_in hg48) d_M_comesFirst_48 ?_
      refine lv_iadd hx hb d_M_comesFirst_49 ?_
      have hg50 := gd_c hM
      have hM := gd_v hM
      refine va_iald hx hb hK hP 1 0 (g_M_a1) rfl (inb_in hg50) d_M_comesFirst_50 ?_
      refine lv_aload_n hx hb d_M_comesFirst_51 rfl (lv_at hl 1 rfl) ?_
      refine va_get (D := (dC, dI)) (ci := 7) (v := .ref (ad 0 3)) (C := R_M) (T := F_M) (N := 33) hx hb htb in_M hown hK hP 0 (g_M) rfl 6 (by decide) (htb _ k_625) (fun _ h9 => h9) rfl d_M_comesFirst_52 ?_
      refine lv_iload_n hx hb d_M_comesFirst_55 rfl (lv_at hl 4 rfl) ?_
      have hg56 := gd_c hM
      have hM := gd_v hM
      refine va_iald hx hb hK hP 3 0 (g_M_a3) rfl (inb_in hg56) d_M_comesFirst_56 ?_
      obtain ⟨x57, hq57, hM⟩ := bL_some hM
      refine va_calll (va_runS (As := [.int ((σ 0).2 1 ((2 * v2) + ((σ 0).2 2 v3.toNatClampNeg)).toNatClampNeg), .int ((σ 0).2 3 v3.toNatClampNeg)]) (rest := []) ⟨hx, hb, hml, hown, hts⟩ (c_M_standing l H.size ((σ 0).2 1 ((2 * v2) + ((σ 0).2 2 v3.toNatClampNeg)).toNatClampNeg) ((σ 0).2 3 v3.toNatClampNeg) hq57) (cwS 2 hts (goodS k_743 k_744 k_8 k_745) rfl rfl rfl ⟨rfl, by decide, by decide, by decide +kernel⟩ ⟨Nat.le_of_ble_eq_true rfl, Nat.le_of_ble_eq_true rfl⟩) ⟨blindS, payS⟩ rfl rfl hl.1 rfl (lv_room (Nat.le_of_ble_eq_true rfl)) d_M_comesFirst_57 ⟨Nat.zero_le _, Nat.zero_le _⟩) hS (fun q h0 h => absurd h0 (Nat.not_lt.mpr h)) (fun q h => hA q (Nat.le_trans hS.1 h)) (fun r57 u t H locs ht hvm hpost hB hz1 hk1 hS => ?_)
      subst hpost
      have hP := keepP hP hk1
      refine lv_lstore hx hb d_M_comesFirst_60 hl (by decide) (lv' := [(6, .long r57), (4, .long r31), (0, .ref (ad 0 0)), (1, .int v1), (2, .int v2), (3, .int v3)]) rfl (fun ls hl => ?_)
      refine lv_lload hx hb d_M_comesFirst_62 (lv_at hl 1 rfl) ?_
      refine lv_lload hx hb d_M_comesFirst_64 (lv_at hl 0 rfl) ?_
      refine W.lcmp hx hb d_M_comesFirst_66 ?_
      refine lv_if_eq (tgt := 84) hx hb d_M_comesFirst_67 (by decide) (fun h67 => ?_) (fun h67 => ?_)
      · rw [if_pos h67] at hM
        refine lv_iinc (k := 5) (v := (v3 + 1)) hx hb d_M_comesFirst_84 hl rfl rfl (by decide) (lv' := [(3, .int (v3 + 1)), (6, .long r57), (4, .long r31), (0, .ref (ad 0 0)), (1, .int v1), (2, .int v2)]) rfl (fun ls hl => ?_)
        refine lv_goto (tgt := 2) hx hb d_M_comesFirst_87 (by decide) ?_
        exact K2 _ _ _ _ ⟨σ, v1, v2, (v3 + 1), rfl, hM, lv_sub hl [3, 4, 5, 0] rfl, hP, hD, hS⟩
      · rw [if_neg h67] at hM
        refine lv_lload hx hb d_M_comesFirst_70 (lv_at hl 1 rfl) ?_
        refine lv_lload hx hb d_M_comesFirst_72 (lv_at hl 0 rfl) ?_
        refine W.lcmp hx hb d_M_comesFirst_74 ?_
        refine lv_if_ge (tgt := 82) hx hb d_M_comesFirst_75 (by decide) (fun h75 => ?_) (fun h75 => ?_)
        · rw [if_pos h75] at hM
          refine lv_iconst (v := 0) hx hb d_M_comesFirst_82 (by decide) ?_
          have e9 := Prod.mk.inj (Option.some.inj hM)
          exact W.zret (ty := .boolean) (v := 0) hx hb hr rfl (fun t ht hW => ⟨⟨0, σ, rfl, e9, by rw [ht]; exact hP, va_K.moved hW.alike hK, hD⟩, hS.F ht⟩) hS.2.2 d_M_comesFirst_83
        · rw [if_neg h75] at hM
          refine lv_iconst (v := 1) hx hb d_M_comesFirst_78 (by decide) ?_
          refine lv_goto (tgt := 83) hx hb d_M_comesFirst_79 (by decide) ?_
          have e9 := Prod.mk.inj (Option.some.inj hM)
          exact W.zret (ty := .boolean) (v := 1) hx hb hr rfl (fun t ht hW => ⟨⟨1, σ, rfl, e9, by rw [ht]; exact hP, va_K.moved hW.alike hK, hD⟩, hS.F ht⟩) hS.2.2 d_M_comesFirst_83
  intro K2
  refine lv_iconst (v := 0) hx hb d_M_comesFirst_0 (by decide) ?_
  refine lv_istore_n hx hb d_M_comesFirst_1 rfl hl (by decide) (lv' := [(3, .int 0), (0, .ref (ad 0 0)), (1, .int a1), (2, .int a2)]) rfl (fun ls hl => ?_)
  exact K2 N _ _ _ _ ⟨σ, a1, a2, 0, rfl, hM, lv_sub hl [1, 2, 3, 0] rfl, hP, hD, hS⟩

theorem d_M_write_0 : decode b_M_write 0 = .ok (.aload_n 0, 1) := by decide +kernel
theorem d_M_write_1 : decode b_M_write 1 = .ok (.getfield 23, 3) := by decide +kernel
theorem d_M_write_4 : decode b_M_write 4 = .ok (.ifCond .ne 15, 3) := by decide +kernel
theorem d_M_write_7 : decode b_M_write 7 = .ok (.aload_n 0, 1) := by decide +kernel
theorem d_M_write_8 : decode b_M_write 8 = .ok (.iconst 0, 1) := by decide +kernel
theorem d_M_write_9 : decode b_M_write 9 = .ok (.putfield 19, 3) := by decide +kernel
theorem d_M_write_12 : decode b_M_write 12 = .ok (.aload_n 0, 1) := by decide +kernel
theorem d_M_write_13 : decode b_M_write 13 = .ok (.iconst (-1), 1) := by decide +kernel
theorem d_M_write_14 : decode b_M_write 14 = .ok (.putfield 23, 3) := by decide +kernel
theorem d_M_write_17 : decode b_M_write 17 = .ok (.iconst 0, 1) := by decide +kernel
theorem d_M_write_18 : decode b_M_write 18 = .ok (.ireturn, 1) := by decide +kernel
theorem d_M_write_19 : decode b_M_write 19 = .ok (.aload_n 0, 1) := by decide +kernel
theorem d_M_write_20 : decode b_M_write 20 = .ok (.aload_n 0, 1) := by decide +kernel
theorem d_M_write_21 : decode b_M_write 21 = .ok (.getfield 23, 3) := by decide +kernel
theorem d_M_write_24 : decode b_M_write 24 = .ok (.ifCond .le 12, 3) := by decide +kernel
theorem d_M_write_27 : decode b_M_write 27 = .ok (.aload_n 0, 1) := by decide +kernel
theorem d_M_write_28 : decode b_M_write 28 = .ok (.getfield 23, 3) := by decide +kernel
theorem d_M_write_31 : decode b_M_write 31 = .ok (.iconst 1, 1) := by decide +kernel
theorem d_M_write_32 : decode b_M_write 32 = .ok (.isub, 1) := by decide +kernel
theorem d_M_write_33 : decode b_M_write 33 = .ok (.goto 7, 3) := by decide +kernel
theorem d_M_write_36 : decode b_M_write 36 = .ok (.aload_n 0, 1) := by decide +kernel
theorem d_M_write_37 : decode b_M_write 37 = .ok (.getfield 23, 3) := by decide +kernel
theorem d_M_write_40 : decode b_M_write 40 = .ok (.putfield 23, 3) := by decide +kernel
theorem d_M_write_43 : decode b_M_write 43 = .ok (.aload_n 0, 1) := by decide +kernel
theorem d_M_write_44 : decode b_M_write 44 = .ok (.aload_n 0, 1) := by decide +kernel
theorem d_M_write_45 : decode b_M_write 45 = .ok (.getfield 114, 3) := by decide +kernel
theorem d_M_write_48 : decode b_M_write 48 = .ok (.iconst 1, 1) := by decide +kernel
theorem d_M_write_49 : decode b_M_write 49 = .ok (.iadd, 1) := by decide +kernel
theorem d_M_write_50 : decode b_M_write 50 = .ok (.putfield 114, 3) := by decide +kernel
theorem d_M_write_53 : decode b_M_write 53 = .ok (.aload_n 0, 1) := by decide +kernel
theorem d_M_write_54 : decode b_M_write 54 = .ok (.getfield 61, 3) := by decide +kernel
theorem d_M_write_57 : decode b_M_write 57 = .ok (.aload_n 0, 1) := by decide +kernel
theorem d_M_write_58 : decode b_M_write 58 = .ok (.getfield 120, 3) := by decide +kernel
theorem d_M_write_61 : decode b_M_write 61 = .ok (.iload_n 1, 1) := by decide +kernel
theorem d_M_write_62 : decode b_M_write 62 = .ok (.iastore, 1) := by decide +kernel
theorem d_M_write_63 : decode b_M_write 63 = .ok (.aload_n 0, 1) := by decide +kernel
theorem d_M_write_64 : decode b_M_write 64 = .ok (.aload_n 0, 1) := by decide +kernel
theorem d_M_write_65 : decode b_M_write 65 = .ok (.getfield 120, 3) := by decide +kernel
theorem d_M_write_68 : decode b_M_write 68 = .ok (.iconst 1, 1) := by decide +kernel
theorem d_M_write_69 : decode b_M_write 69 = .ok (.iadd, 1) := by decide +kernel
theorem d_M_write_70 : decode b_M_write 70 = .ok (.putfield 120, 3) := by decide +kernel
theorem d_M_write_73 : decode b_M_write 73 = .ok (.iconst 1, 1) := by decide +kernel
theorem d_M_write_74 : decode b_M_write 74 = .ok (.ireturn, 1) := by decide +kernel
def m_M_write_40 (N : Nat) (σ : SX) (v1 : Int32) (s0 : Int32) : Option (Int32 × SX) :=
    (if inb (((w1 (w1 σ 0 6 s0) 0 7 ((((w1 σ 0 6 s0) 0).1 7) + 1)) 0).1 16) 150 = true then some (1, (w1 (w3 (w1 (w1 σ 0 6 s0) 0 7 ((((w1 σ 0 6 s0) 0).1 7) + 1)) 0 15 (((w1 (w1 σ 0 6 s0) 0 7 ((((w1 σ 0 6 s0) 0).1 7) + 1)) 0).1 16) v1) 0 16 ((((w3 (w1 (w1 σ 0 6 s0) 0 7 ((((w1 σ 0 6 s0) 0).1 7) + 1)) 0 15 (((w1 (w1 σ 0 6 s0) 0 7 ((((w1 σ 0 6 s0) 0).1 7) + 1)) 0).1 16) v1) 0).1 16) + 1))) else none)

def m_M_write (N : Nat) (σ : SX) (a1 : Int32) : Option (Int32 × SX) :=
  (if ((σ 0).1 6) = 0 then some (0, (w1 (w1 σ 0 5 0) 0 6 (-1))) else (if ((σ 0).1 6) ≤ 0 then m_M_write_40 N σ a1 ((σ 0).1 6) else m_M_write_40 N σ a1 (((σ 0).1 6) - 1)))

set_option maxHeartbeats 4000000 in
set_option maxRecDepth 100000 in
theorem c_M_write (l : Launch) (dC : Nat → ClassId) (dI : Nat → Nat → Nat) (ad : Nat → Nat → Nat) (cs : Nat → ClassId) (sz N : Nat) (σ : SX) (a1 : Int32) {r0 : Int32} {σ0 : SX} (hM : m_M_write N σ a1 = some (r0, σ0)) : Met l y_M_write (wd y_M_write b_M_write 2 (some .boolean)) ({ frames := 0, cells := 0, slots := 0, locals := 0 }) (va_Pc [.ref (ad 0 0), .int a1] (preM dC dI ad cs sz σ)) (va_Qi (fun (r : Int32) (u : SX) => r = r0 ∧ u = σ0) (atM dC dI ad cs (va_A (wM ad cs σ) sz)) (va_A (wM ad cs σ) sz)) 0 0 (va_A (wM ad cs σ) sz) := by
  refine Met.ofW (cc := b_M_write) (maxL := 2) (ret := (some .boolean)) (by decide) rfl ?_
  intro p e s m args below meth c s₁ B hml hv
  obtain ⟨rfl, hsz, hP, hK, hD0, hN⟩ := hv
  have hx := B.exec
  have hb := B.bytes
  have hr := B.returns
  have hts := atoms_spec (ws := (wd y_M_write b_M_write 2 (some .boolean))) B.pre
  have htb : ∀ w ∈ tb, w.before _ s = true := fun w h => hts w (List.mem_cons_of_mem _ h)
  have hown : s.vm.findClass R_M = some m.cls := findClass_of_methodNamed B.named
  have hlocks := B.notSynchronized
  subst hsz
  have hD := hD0.self (sz := s.heap.size)
  generalize hAe : va_A (wM ad cs σ) s.heap.size = A at hD ⊢
  have hA : ∀ q : Nat, s.heap.size ≤ q → A q := fun q h => by rw [← hAe]; exact Or.inr h
  have hS : va_S A s.heap s.heap [] := va_S.rf
  have hP : va_P (dC, dI) classes (wM ad cs σ) s.heap := hP
  have hl := lv_entry ([.ref (ad 0 0), .int a1]) (n := 2) (Nat.le_of_ble_eq_true rfl)
  rw [lg_entry_eq]
  generalize (lg_sl ([.ref (ad 0 0), .int a1]) ++ List.replicate (2 - (lg_sl ([.ref (ad 0 0), .int a1])).length) Slot.unset).toArray = ls at hl ⊢
  have hl : lv_has ls 2 [(0, .ref (ad 0 0)), (1, .int a1)] := hl
  rw [m_M_write] at hM
  refine W_cut (pc := 40) (fun H locs ls st => ∃ (σ : SX) (v1 : Int32) (s0 : Int32), st = [.int s0, .ref (ad 0 0)] ∧ m_M_write_40 N σ v1 s0 = some (r0, σ0) ∧ lv_has ls 2 [(0, .ref (ad 0 0)), (1, .int v1)] ∧ va_P (dC, dI) classes (wM ad cs σ) H ∧ va_D A (wM ad cs σ) ∧ va_S A s.heap H locs) ?_ ?_
  · intro H locs ls st hI
    obtain ⟨σ, v1, s0, rfl, hM, hl, hP, hD, hS⟩ := hI
    rw [m_M_write_40] at hM
    refine va_put (D := (dC, dI)) (ci := 7) (v := .int s0) (ty := .int) (C := R_M) (T := F_M) (N := 33) hx hb htb in_M ft_M ft_M_ok n_M hown hK hP hD hS 0 (g_M) rfl 9 (by decide) (htb _ k_628) (fun _ h9 => h9) rfl (by decide +kernel) rfl rfl (Nat.le_of_ble_eq_true rfl) d_M_write_40 (fun H locs hP hD hS => ?_)
    have hP := P_eq (s_M_6) hP
    have hD := D_eq (s_M_6) hD
    refine lv_aload_n hx hb d_M_write_43 rfl (lv_at hl 0 rfl) ?_
    refine lv_aload_n hx hb d_M_write_44 rfl (lv_at hl 0 rfl) ?_
    refine va_get (D := (dC, dI)) (ci := 7) (v := .int (((w1 σ 0 6 s0) 0).1 7)) (C := R_M) (T := F_M) (N := 33) hx hb htb in_M hown hK hP 0 (g_M) rfl 10 (by decide) (htb _ k_629) (fun _ h9 => h9) rfl d_M_write_45 ?_
    refine lv_iconst (v := 1) hx hb d_M_write_48 (by decide) ?_
    refine lv_iadd hx hb d_M_write_49 ?_
    refine va_put (D := (dC, dI)) (ci := 7) (v := .int ((((w1 σ 0 6 s0) 0).1 7) + 1)) (ty := .int) (C := R_M) (T := F_M) (N := 33) hx hb htb in_M ft_M ft_M_ok n_M hown hK hP hD hS 0 (g_M) rfl 10 (by decide) (htb _ k_629) (fun _ h9 => h9) rfl (by decide +kernel) rfl rfl (Nat.le_of_ble_eq_true rfl) d_M_write_50 (fun H locs hP hD hS => ?_)
    have hP := P_eq (s_M_7) hP
    have hD := D_eq (s_M_7) hD
    refine lv_aload_n hx hb d_M_write_53 rfl (lv_at hl 0 rfl) ?_
    refine va_get (D := (dC, dI)) (ci := 7) (v := .ref (ad 0 15)) (C := R_M) (T := F_M) (N := 33) hx hb htb in_M hown hK hP 0 (g_M) rfl 31 (by decide) (htb _ k_650) (fun _ h9 => h9) rfl d_M_write_54 ?_
    refine lv_aload_n hx hb d_M_write_57 rfl (lv_at hl 0 rfl) ?_
    refine va_get (D := (dC, dI)) (ci := 7) (v := .int (((w1 (w1 σ 0 6 s0) 0 7 ((((w1 σ 0 6 s0) 0).1 7) + 1)) 0).1 16)) (C := R_M) (T := F_M) (N := 33) hx hb htb in_M hown hK hP 0 (g_M) rfl 30 (by decide) (htb _ k_649) (fun _ h9 => h9) rfl d_M_write_58 ?_
    refine lv_iload_n hx hb d_M_write_61 rfl (lv_at hl 1 rfl) ?_
    have hg62 := gd_c hM
    have hM := gd_v hM
    refine va_iast (i := (((w1 (w1 σ 0 6 s0) 0 7 ((((w1 σ 0 6 s0) 0).1 7) + 1)) 0).1 16)) (x := v1) hx hb hK hP hD hS 15 0 (g_M_a15) rfl (inb_in hg62) d_M_write_62 (fun H locs hP hD hS => ?_)
    have hP := P_eq (t_M_15) hP
    have hD := D_eq (t_M_15) hD
    refine lv_aload_n hx hb d_M_write_63 rfl (lv_at hl 0 rfl) ?_
    refine lv_aload_n hx hb d_M_write_64 rfl (lv_at hl 0 rfl) ?_
    refine va_get (D := (dC, dI)) (ci := 7) (v := .int (((w3 (w1 (w1 σ 0 6 s0) 0 7 ((((w1 σ 0 6 s0) 0).1 7) + 1)) 0 15 (((w1 (w1 σ 0 6 s0) 0 7 ((((w1 σ 0 6 s0) 0).1 7) + 1)) 0).1 16) v1) 0).1 16)) (C := R_M) (T := F_M) (N := 33) hx hb htb in_M hown hK hP 0 (g_M) rfl 30 (by decide) (htb _ k_649) (fun _ h9 => h9) rfl d_M_write_65 ?_
    refine lv_iconst (v := 1) hx hb d_M_write_68 (by decide) ?_
    refine lv_iadd hx hb d_M_write_69 ?_
    refine va_put (D := (dC, dI)) (ci := 7) (v := .int ((((w3 (w1 (w1 σ 0 6 s0) 0 7 ((((w1 σ 0 6 s0) 0).1 7) + 1)) 0 15 (((w1 (w1 σ 0 6 s0) 0 7 ((((w1 σ 0 6 s0) 0).1 7) + 1)) 0).1 16) v1) 0).1 16) + 1)) (ty := .int) (C := R_M) (T := F_M) (N := 33) hx hb htb in_M ft_M ft_M_ok n_M hown hK hP hD hS 0 (g_M) rfl 30 (by decide) (htb _ k_649) (fun _ h9 => h9) rfl (by decide +kernel) rfl rfl (Nat.le_of_ble_eq_true rfl) d_M_write_70 (fun H locs hP hD hS => ?_)
    have hP := P_eq (s_M_16) hP
    have hD := D_eq (s_M_16) hD
    refine lv_iconst (v := 1) hx hb d_M_write_73 (by decide) ?_
    have e9 := Prod.mk.inj (Option.some.inj hM)
    exact W.zret (ty := .boolean) (v := 1) hx hb hr rfl (fun t ht hW => ⟨⟨1, (w1 (w3 (w1 (w1 σ 0 6 s0) 0 7 ((((w1 σ 0 6 s0) 0).1 7) + 1)) 0 15 (((w1 (w1 σ 0 6 s0) 0 7 ((((w1 σ 0 6 s0) 0).1 7) + 1)) 0).1 16) v1) 0 16 ((((w3 (w1 (w1 σ 0 6 s0) 0 7 ((((w1 σ 0 6 s0) 0).1 7) + 1)) 0 15 (((w1 (w1 σ 0 6 s0) 0 7 ((((w1 σ 0 6 s0) 0).1 7) + 1)) 0).1 16) v1) 0).1 16) + 1)), rfl, e9, by rw [ht]; exact hP, va_K.moved hW.alike hK, hD⟩, hS.F ht⟩) hS.2.2 d_M_write_74
  intro K40
  refine lv_aload_n hx hb d_M_write_0 rfl (lv_at hl 0 rfl) ?_
  refine va_get (D := (dC, dI)) (ci := 7) (v := .int ((σ 0).1 6)) (C := R_M) (T := F_M) (N := 33) hx hb htb in_M hown hK hP 0 (g_M) rfl 9 (by decide) (htb _ k_628) (fun _ h9 => h9) rfl d_M_write_1 ?_
  refine lv_if_ne (tgt := 19) hx hb d_M_write_4 (by decide) (fun h4 => ?_) (fun h4 => ?_)
  · rw [if_neg h4] at hM
    refine lv_aload_n hx hb d_M_write_19 rfl (lv_at hl 0 rfl) ?_
    refine lv_aload_n hx hb d_M_write_20 rfl (lv_at hl 0 rfl) ?_
    refine va_get (D := (dC, dI)) (ci := 7) (v := .int ((σ 0).1 6)) (C := R_M) (T := F_M) (N := 33) hx hb htb in_M hown hK hP 0 (g_M) rfl 9 (by decide) (htb _ k_628) (fun _ h9 => h9) rfl d_M_write_21 ?_
    refine lv_if_le (tgt := 36) hx hb d_M_write_24 (by decide) (fun h24 => ?_) (fun h24 => ?_)
    · rw [if_pos h24] at hM
      refine lv_aload_n hx hb d_M_write_36 rfl (lv_at hl 0 rfl) ?_
      refine va_get (D := (dC, dI)) (ci := 7) (v := .int ((σ 0).1 6)) (C := R_M) (T := F_M) (N := 33) hx hb htb in_M hown hK hP 0 (g_M) rfl 9 (by decide) (htb _ k_628) (fun _ h9 => h9) rfl d_M_write_37 ?_
      exact K40 _ _ _ _ ⟨σ, a1, ((σ 0).1 6), rfl, hM, lv_sub hl [0, 1] rfl, hP, hD, hS⟩
    · rw [if_neg h24] at hM
      refine lv_aload_n hx hb d_M_write_27 rfl (lv_at hl 0 rfl) ?_
      refine va_get (D := (dC, dI)) (ci := 7) (v := .int ((σ 0).1 6)) (C := R_M) (T := F_M) (N := 33) hx hb htb in_M hown hK hP 0 (g_M) rfl 9 (by decide) (htb _ k_628) (fun _ h9 => h9) rfl d_M_write_28 ?_
      refine lv_iconst (v := 1) hx hb d_M_write_31 (by decide) ?_
      refine lv_isub hx hb d_M_write_32 ?_
      refine lv_goto (tgt := 40) hx hb d_M_write_33 (by decide) ?_
      exact K40 _ _ _ _ ⟨σ, a1, (((σ 0).1 6) - 1), rfl, hM, lv_sub hl [0, 1] rfl, hP, hD, hS⟩
  · rw [if_pos h4] at hM
    refine lv_aload_n hx hb d_M_write_7 rfl (lv_at hl 0 rfl) ?_
    refine lv_iconst (v := 0) hx hb d_M_write_8 (by decide) ?_
    refine va_put (D := (dC, dI)) (ci := 7) (v := .int 0) (ty := .boolean) (C := R_M) (T := F_M) (N := 33) hx hb htb in_M ft_M ft_M_ok n_M hown hK hP hD hS 0 (g_M) rfl 8 (by decide) (htb _ k_627) (fun _ h9 => h9) rfl (by decide +kernel) rfl rfl (Nat.le_of_ble_eq_true rfl) d_M_write_9 (fun H locs hP hD hS => ?_)
    have hP := P_eq (s_M_5) hP
    have hD := D_eq (s_M_5) hD
    refine lv_aload_n hx hb d_M_write_12 rfl (lv_at hl 0 rfl) ?_
    refine lv_iconst (v := (-1)) hx hb d_M_write_13 (by decide) ?_
    refine va_put (D := (dC, dI)) (ci := 7) (v := .int (-1)) (ty := .int) (C := R_M) (T := F_M) (N := 33) hx hb htb in_M ft_M ft_M_ok n_M hown hK hP hD hS 0 (g_M) rfl 9 (by decide) (htb _ k_628) (fun _ h9 => h9) rfl (by decide +kernel) rfl rfl (Nat.le_of_ble_eq_true rfl) d_M_write_14 (fun H locs hP hD hS => ?_)
    have hP := P_eq (s_M_6) hP
    have hD := D_eq (s_M_6) hD
    refine lv_iconst (v := 0) hx hb d_M_write_17 (by decide) ?_
    have e9 := Prod.mk.inj (Option.some.inj hM)
    exact W.zret (ty := .boolean) (v := 0) hx hb hr rfl (fun t ht hW => ⟨⟨0, (w1 (w1 σ 0 5 0) 0 6 (-1)), rfl, e9, by rw [ht]; exact hP, va_K.moved hW.alike hK, hD⟩, hS.F ht⟩) hS.2.2 d_M_write_18
