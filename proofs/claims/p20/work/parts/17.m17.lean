theorem d_V_hasPower_0 : decode b_V_hasPower 0 = .ok (.aload_n 0, 1) := by decide +kernel
theorem d_V_hasPower_1 : decode b_V_hasPower 1 = .ok (.getfield 13, 3) := by decide +kernel
theorem d_V_hasPower_4 : decode b_V_hasPower 4 = .ok (.ireturn, 1) := by decide +kernel
def m_V_hasPower (N : Nat) (σ : SX) : Option (Int32 × SX) :=
  (if isB ((σ 5).1 1) = true then some (((σ 5).1 1), σ) else none)

set_option maxHeartbeats 4000000 in
set_option maxRecDepth 100000 in
theorem c_V_hasPower (l : Launch) (dC : Nat → ClassId) (dI : Nat → Nat → Nat) (ad : Nat → Nat → Nat) (cs : Nat → ClassId) (sz N : Nat) (σ : SX) {r0 : Int32} {σ0 : SX} (hM : m_V_hasPower N σ = some (r0, σ0)) : Met l y_V_hasPower (wd y_V_hasPower b_V_hasPower 1 (some .boolean)) ({ frames := 0, cells := 0, slots := 0, locals := 0 }) (va_Pc [.ref (ad 5 0)] (preX dC dI ad cs sz σ)) (va_Qi (fun (r : Int32) (_ : Unit) => r = r0 ∧ σ = σ0) (fun _ _ => True) (fun q => sz ≤ q)) 0 0 (fun q => sz ≤ q) := by
  refine Met.ofW (cc := b_V_hasPower) (maxL := 1) (ret := (some .boolean)) (by decide) rfl ?_
  intro p e s m args below meth c s₁ B hml hv
  obtain ⟨rfl, hsz, hP, hK, hD0, hN⟩ := hv
  have hx := B.exec
  have hb := B.bytes
  have hr := B.returns
  have hts := atoms_spec (ws := (wd y_V_hasPower b_V_hasPower 1 (some .boolean))) B.pre
  have htb : ∀ w ∈ tb, w.before _ s = true := fun w h => hts w (List.mem_cons_of_mem _ h)
  have hown : s.vm.findClass R_V = some m.cls := findClass_of_methodNamed B.named
  have hlocks := B.notSynchronized
  subst hsz
  have hD := hD0
  have hA : ∀ q : Nat, s.heap.size ≤ q → s.heap.size ≤ q := fun q h => h
  have hS : va_S (fun q => s.heap.size ≤ q) s.heap s.heap [] := va_S.rf
  have hP : va_P (dC, dI) classes (wX ad cs σ) s.heap := hP
  have hl := lv_entry ([.ref (ad 5 0)]) (n := 1) (Nat.le_of_ble_eq_true rfl)
  rw [lg_entry_eq]
  generalize (lg_sl ([.ref (ad 5 0)]) ++ List.replicate (1 - (lg_sl ([.ref (ad 5 0)])).length) Slot.unset).toArray = ls at hl ⊢
  have hl : lv_has ls 1 [(0, .ref (ad 5 0))] := hl
  rw [m_V_hasPower] at hM
  refine lv_aload_n hx hb d_V_hasPower_0 rfl (lv_at hl 0 rfl) ?_
  refine va_get (D := (dC, dI)) (ci := 4) (v := .int ((σ 5).1 1)) (C := R_V) (T := F_V) (N := 4) hx hb htb in_V hown hK hP 15 (g_V) rfl 1 (by decide) (htb _ k_72) (fun _ h9 => h9) rfl d_V_hasPower_1 ?_
  have hz4 := gd_c hM
  have hM := gd_v hM
  have e9 := Prod.mk.inj (Option.some.inj hM)
  exact W.zret (ty := .boolean) (v := ((σ 5).1 1)) hx hb hr (isB_n hz4) (fun t ht hW => ⟨⟨((σ 5).1 1), (), rfl, e9, trivial⟩, hS.F ht⟩) hS.2.2 d_V_hasPower_4

theorem d_O_step_0 : decode b_O_step 0 = .ok (.iload_n 1, 1) := by decide +kernel
theorem d_O_step_1 : decode b_O_step 1 = .ok (.iconst 1, 1) := by decide +kernel
theorem d_O_step_2 : decode b_O_step 2 = .ok (.if_icmp .lt 10, 3) := by decide +kernel
theorem d_O_step_5 : decode b_O_step 5 = .ok (.iload_n 1, 1) := by decide +kernel
theorem d_O_step_6 : decode b_O_step 6 = .ok (.sipush 300, 3) := by decide +kernel
theorem d_O_step_9 : decode b_O_step 9 = .ok (.if_icmp .le 11, 3) := by decide +kernel
theorem d_O_step_12 : decode b_O_step 12 = .ok (.new 88, 3) := by decide +kernel
theorem d_O_step_15 : decode b_O_step 15 = .ok (.dup, 1) := by decide +kernel
theorem d_O_step_16 : decode b_O_step 16 = .ok (.invokespecial 90, 3) := by decide +kernel
theorem d_O_step_19 : decode b_O_step 19 = .ok (.athrow, 1) := by decide +kernel
theorem d_O_step_20 : decode b_O_step 20 = .ok (.aload_n 0, 1) := by decide +kernel
theorem d_O_step_21 : decode b_O_step 21 = .ok (.getfield 53, 3) := by decide +kernel
theorem d_O_step_24 : decode b_O_step 24 = .ok (.ifCond .eq 13, 3) := by decide +kernel
theorem d_O_step_27 : decode b_O_step 27 = .ok (.aload_n 0, 1) := by decide +kernel
theorem d_O_step_28 : decode b_O_step 28 = .ok (.getfield 26, 3) := by decide +kernel
theorem d_O_step_31 : decode b_O_step 31 = .ok (.invokevirtual 118, 3) := by decide +kernel
theorem d_O_step_34 : decode b_O_step 34 = .ok (.ifCond .ne 11, 3) := by decide +kernel
theorem d_O_step_37 : decode b_O_step 37 = .ok (.new 77, 3) := by decide +kernel
theorem d_O_step_40 : decode b_O_step 40 = .ok (.dup, 1) := by decide +kernel
theorem d_O_step_41 : decode b_O_step 41 = .ok (.invokespecial 79, 3) := by decide +kernel
theorem d_O_step_44 : decode b_O_step 44 = .ok (.athrow, 1) := by decide +kernel
theorem d_O_step_45 : decode b_O_step 45 = .ok (.iconst 0, 1) := by decide +kernel
theorem d_O_step_46 : decode b_O_step 46 = .ok (.istore_n 2, 1) := by decide +kernel
theorem d_O_step_47 : decode b_O_step 47 = .ok (.iload_n 2, 1) := by decide +kernel
theorem d_O_step_48 : decode b_O_step 48 = .ok (.iload_n 1, 1) := by decide +kernel
theorem d_O_step_49 : decode b_O_step 49 = .ok (.if_icmp .ge 55, 3) := by decide +kernel
theorem d_O_step_52 : decode b_O_step 52 = .ok (.aload_n 0, 1) := by decide +kernel
theorem d_O_step_53 : decode b_O_step 53 = .ok (.getfield 53, 3) := by decide +kernel
theorem d_O_step_56 : decode b_O_step 56 = .ok (.iconst 3, 1) := by decide +kernel
theorem d_O_step_57 : decode b_O_step 57 = .ok (.if_icmp .ne 5, 3) := by decide +kernel
theorem d_O_step_60 : decode b_O_step 60 = .ok (.iload_n 2, 1) := by decide +kernel
theorem d_O_step_61 : decode b_O_step 61 = .ok (.ireturn, 1) := by decide +kernel
theorem d_O_step_62 : decode b_O_step 62 = .ok (.aload_n 0, 1) := by decide +kernel
theorem d_O_step_63 : decode b_O_step 63 = .ok (.getfield 53, 3) := by decide +kernel
theorem d_O_step_66 : decode b_O_step 66 = .ok (.iconst 1, 1) := by decide +kernel
theorem d_O_step_67 : decode b_O_step 67 = .ok (.if_icmp .ne 10, 3) := by decide +kernel
theorem d_O_step_70 : decode b_O_step 70 = .ok (.aload_n 0, 1) := by decide +kernel
theorem d_O_step_71 : decode b_O_step 71 = .ok (.invokevirtual 121, 3) := by decide +kernel
theorem d_O_step_74 : decode b_O_step 74 = .ok (.goto 7, 3) := by decide +kernel
theorem d_O_step_77 : decode b_O_step 77 = .ok (.aload_n 0, 1) := by decide +kernel
theorem d_O_step_78 : decode b_O_step 78 = .ok (.invokevirtual 124, 3) := by decide +kernel
theorem d_O_step_81 : decode b_O_step 81 = .ok (.istore_n 3, 1) := by decide +kernel
theorem d_O_step_82 : decode b_O_step 82 = .ok (.iload_n 3, 1) := by decide +kernel
theorem d_O_step_83 : decode b_O_step 83 = .ok (.ifCond .ne 15, 3) := by decide +kernel
theorem d_O_step_86 : decode b_O_step 86 = .ok (.aload_n 0, 1) := by decide +kernel
theorem d_O_step_87 : decode b_O_step 87 = .ok (.dup, 1) := by decide +kernel
theorem d_O_step_88 : decode b_O_step 88 = .ok (.getfield 57, 3) := by decide +kernel
theorem d_O_step_91 : decode b_O_step 91 = .ok (.iconst 1, 1) := by decide +kernel
theorem d_O_step_92 : decode b_O_step 92 = .ok (.iadd, 1) := by decide +kernel
theorem d_O_step_93 : decode b_O_step 93 = .ok (.putfield 57, 3) := by decide +kernel
theorem d_O_step_96 : decode b_O_step 96 = .ok (.iload_n 2, 1) := by decide +kernel
theorem d_O_step_97 : decode b_O_step 97 = .ok (.ireturn, 1) := by decide +kernel
theorem d_O_step_98 : decode b_O_step 98 = .ok (.iinc 2 1, 3) := by decide +kernel
theorem d_O_step_101 : decode b_O_step 101 = .ok (.goto (-54), 3) := by decide +kernel
theorem d_O_step_104 : decode b_O_step 104 = .ok (.iload_n 1, 1) := by decide +kernel
theorem d_O_step_105 : decode b_O_step 105 = .ok (.ireturn, 1) := by decide +kernel
def m_O_step_81 (N : Nat) (k47 : SX → Int32 → Int32 → Option (Int32 × SX)) (σ : SX) (v1 : Int32) (v2 : Int32) (s0 : Int32) : Option (Int32 × SX) :=
    (if s0 = 0 then some (v2, (w1 σ 0 1 (((σ 0).1 1) + 1))) else k47 σ v1 (v2 + 1))

def m_O_step_47 (N : Nat) : Nat → SX → Int32 → Int32 → Option (Int32 × SX)
  | 0, _, _, _ => none
  | n47 + 1, σ, v1, v2 =>
    (if v1 ≤ v2 then some (v1, σ) else (if ((σ 0).1 0) = 3 then some (v2, σ) else (if ((σ 0).1 0) = 1 then (bI (m_O_layRun N σ) fun r71 σ71 => m_O_step_81 N (m_O_step_47 N n47) σ71 v1 v2 r71) else (bI (m_O_mergeRuns N σ) fun r78 σ78 => m_O_step_81 N (m_O_step_47 N n47) σ78 v1 v2 r78))))

def m_O_step (N : Nat) (σ : SX) (a1 : Int32) : Option (Int32 × SX) :=
  (if a1 < 1 then none else (if a1 ≤ 300 then (if ((σ 0).1 0) = 0 then none else (bI (m_V_hasPower N σ) fun r31 σ31 => (if r31 = 0 then none else m_O_step_47 N N σ a1 0))) else none))

set_option maxHeartbeats 4000000 in
set_option maxRecDepth 100000 in
theorem c_O_step (l : Launch) (dC : Nat → ClassId) (dI : Nat → Nat → Nat) (ad : Nat → Nat → Nat) (cs : Nat → ClassId) (sz N : Nat) (σ : SX) (a1 : Int32) {r0 : Int32} {σ0 : SX} (hM : m_O_step N σ a1 = some (r0, σ0)) : Met l y_O_step (wd y_O_step b_O_step 4 (some .int)) ({ frames := 6, cells := 0, slots := 0, locals := 136 }) (va_Pc [.ref (ad 0 0), .int a1] (preX dC dI ad cs sz σ)) (va_Qi (fun (r : Int32) (u : SX) => r = r0 ∧ u = σ0) (atX dC dI ad cs (va_A (wX ad cs σ) sz)) (va_A (wX ad cs σ) sz)) 0 0 (va_A (wX ad cs σ) sz) := by
  refine Met.ofW (cc := b_O_step) (maxL := 4) (ret := (some .int)) (by decide) rfl ?_
  intro p e s m args below meth c s₁ B hml hv
  obtain ⟨rfl, hsz, hP, hK, hD0, hN⟩ := hv
  have hx := B.exec
  have hb := B.bytes
  have hr := B.returns
  have hts := atoms_spec (ws := (wd y_O_step b_O_step 4 (some .int))) B.pre
  have htb : ∀ w ∈ tb, w.before _ s = true := fun w h => hts w (List.mem_cons_of_mem _ h)
  have hown : s.vm.findClass R_O = some m.cls := findClass_of_methodNamed B.named
  have hlocks := B.notSynchronized
  subst hsz
  have hD := hD0.self (sz := s.heap.size)
  generalize hAe : va_A (wX ad cs σ) s.heap.size = A at hD ⊢
  have hA : ∀ q : Nat, s.heap.size ≤ q → A q := fun q h => by rw [← hAe]; exact Or.inr h
  have hS : va_S A s.heap s.heap [] := va_S.rf
  have hP : va_P (dC, dI) classes (wX ad cs σ) s.heap := hP
  have hl := lv_entry ([.ref (ad 0 0), .int a1]) (n := 4) (Nat.le_of_ble_eq_true rfl)
  rw [lg_entry_eq]
  generalize (lg_sl ([.ref (ad 0 0), .int a1]) ++ List.replicate (4 - (lg_sl ([.ref (ad 0 0), .int a1])).length) Slot.unset).toArray = ls at hl ⊢
  have hl : lv_has ls 4 [(0, .ref (ad 0 0)), (1, .int a1)] := hl
  rw [m_O_step] at hM
  refine W_loop (pc := 47) (fun n47 H locs ls st => ∃ (σ : SX) (v1 : Int32) (v2 : Int32), st = [] ∧ m_O_step_47 N n47 σ v1 v2 = some (r0, σ0) ∧ lv_has ls 4 [(0, .ref (ad 0 0)), (1, .int v1), (2, .int v2)] ∧ va_P (dC, dI) classes (wX ad cs σ) H ∧ va_D A (wX ad cs σ) ∧ va_S A s.heap H locs) ?_ ?_ ?_
  · rintro H locs ls st ⟨σ, v1, v2, -, hM, -⟩
    rw [m_O_step_47] at hM; cases hM
  · intro n47 K47 H locs ls st hI
    obtain ⟨σ, v1, v2, rfl, hM, hl, hP, hD, hS⟩ := hI
    rw [m_O_step_47] at hM
    refine W_cut (pc := 81) (fun H locs ls st => ∃ (σ : SX) (v1 : Int32) (v2 : Int32) (s0 : Int32), st = [.int s0] ∧ m_O_step_81 N (m_O_step_47 N n47) σ v1 v2 s0 = some (r0, σ0) ∧ lv_has ls 4 [(0, .ref (ad 0 0)), (1, .int v1), (2, .int v2)] ∧ va_P (dC, dI) classes (wX ad cs σ) H ∧ va_D A (wX ad cs σ) ∧ va_S A s.heap H locs) ?_ ?_
    · intro H locs ls st hI
      obtain ⟨σ, v1, v2, s0, rfl, hM, hl, hP, hD, hS⟩ := hI
      rw [m_O_step_81] at hM
      refine lv_istore_n hx hb d_O_step_81 rfl hl (by decide) (lv' := [(3, .int s0), (0, .ref (ad 0 0)), (1, .int v1), (2, .int v2)]) rfl (fun ls hl => ?_)
      refine lv_iload_n hx hb d_O_step_82 rfl (lv_at hl 0 rfl) ?_
      refine lv_if_ne (tgt := 98) hx hb d_O_step_83 (by decide) (fun h83 => ?_) (fun h83 => ?_)
      · rw [if_neg h83] at hM
        refine lv_iinc (k := 3) (v := (v2 + 1)) hx hb d_O_step_98 hl rfl rfl (by decide) (lv' := [(2, .int (v2 + 1)), (3, .int s0), (0, .ref (ad 0 0)), (1, .int v1)]) rfl (fun ls hl => ?_)
        refine lv_goto (tgt := 47) hx hb d_O_step_101 (by decide) ?_
        exact K47 _ _ _ _ ⟨σ, v1, (v2 + 1), rfl, hM, lv_sub hl [2, 3, 0] rfl, hP, hD, hS⟩
      · rw [if_pos h83] at hM
        refine lv_aload_n hx hb d_O_step_86 rfl (lv_at hl 1 rfl) ?_
        refine lv_dup hx hb d_O_step_87 rfl ?_
        refine va_get (D := (dC, dI)) (ci := 0) (v := .int ((σ 0).1 1)) (C := R_O) (T := F_O) (N := 12) hx hb htb in_O hown hK hP 0 (g_O) rfl 11 (by decide) (htb _ k_159) (fun _ h9 => h9) rfl d_O_step_88 ?_
        refine lv_iconst (v := 1) hx hb d_O_step_91 (by decide) ?_
        refine lv_iadd hx hb d_O_step_92 ?_
        refine va_put (D := (dC, dI)) (ci := 0) (v := .int (((σ 0).1 1) + 1)) (ty := .int) (C := R_O) (T := F_O) (N := 12) hx hb htb in_O ft_O ft_O_ok n_O hown hK hP hD hS 0 (g_O) rfl 11 (by decide) (htb _ k_159) (fun _ h9 => h9) rfl (by decide +kernel) rfl rfl (Nat.le_of_ble_eq_true rfl) d_O_step_93 (fun H locs hP hD hS => ?_)
        have hP := P_eq (s_O_1) hP
        have hD := D_eq (s_O_1) hD
        refine lv_iload_n hx hb d_O_step_96 rfl (lv_at hl 3 rfl) ?_
        have e9 := Prod.mk.inj (Option.some.inj hM)
        exact W.iret (v := v2) hx hb hr (fun t ht hW => ⟨⟨v2, (w1 σ 0 1 (((σ 0).1 1) + 1)), rfl, e9, by rw [ht]; exact hP, va_K.moved hW.alike hK, hD⟩, hS.F ht⟩) hS.2.2 d_O_step_97
    intro K81
    refine lv_iload_n hx hb d_O_step_47 rfl (lv_at hl 2 rfl) ?_
    refine lv_iload_n hx hb d_O_step_48 rfl (lv_at hl 1 rfl) ?_
    refine lv_icmp_ge (tgt := 104) hx hb d_O_step_49 (by decide) (fun h49 => ?_) (fun h49 => ?_)
    · rw [if_pos h49] at hM
      refine lv_iload_n hx hb d_O_step_104 rfl (lv_at hl 1 rfl) ?_
      have e9 := Prod.mk.inj (Option.some.inj hM)
      exact W.iret (v := v1) hx hb hr (fun t ht hW => ⟨⟨v1, σ, rfl, e9, by rw [ht]; exact hP, va_K.moved hW.alike hK, hD⟩, hS.F ht⟩) hS.2.2 d_O_step_105
    · rw [if_neg h49] at hM
      refine lv_aload_n hx hb d_O_step_52 rfl (lv_at hl 0 rfl) ?_
      refine va_get (D := (dC, dI)) (ci := 0) (v := .int ((σ 0).1 0)) (C := R_O) (T := F_O) (N := 12) hx hb htb in_O hown hK hP 0 (g_O) rfl 10 (by decide) (htb _ k_158) (fun _ h9 => h9) rfl d_O_step_53 ?_
      refine lv_iconst (v := 3) hx hb d_O_step_56 (by decide) ?_
      refine lv_icmp_ne (tgt := 62) hx hb d_O_step_57 (by decide) (fun h57 => ?_) (fun h57 => ?_)
      · rw [if_neg h57] at hM
        refine lv_aload_n hx hb d_O_step_62 rfl (lv_at hl 0 rfl) ?_
        refine va_get (D := (dC, dI)) (ci := 0) (v := .int ((σ 0).1 0)) (C := R_O) (T := F_O) (N := 12) hx hb htb in_O hown hK hP 0 (g_O) rfl 10 (by decide) (htb _ k_158) (fun _ h9 => h9) rfl d_O_step_63 ?_
        refine lv_iconst (v := 1) hx hb d_O_step_66 (by decide) ?_
        refine lv_icmp_ne (tgt := 77) hx hb d_O_step_67 (by decide) (fun h67 => ?_) (fun h67 => ?_)
        · rw [if_neg h67] at hM
          refine lv_aload_n hx hb d_O_step_77 rfl (lv_at hl 0 rfl) ?_
          have hF1 := free_all hD hS hA
          obtain ⟨x78, y78, hq78, hM⟩ := bI_some hM
          refine va_calli (va_runV (As := []) (rest := []) ⟨hx, hb, hml, hown, hts⟩ (c_O_mergeRuns l dC dI ad cs _ N σ hq78) (cwV 0 hts (goodV k_550 k_552 ks_O_mergeRuns k_1 k_553) rfl rfl rfl ⟨rfl, by decide, by decide, by decide +kernel⟩ ⟨Nat.le_of_ble_eq_true rfl, Nat.le_of_ble_eq_true rfl⟩) ⟨blindX, va_recv hK hP rfl (g_O), payX hP hK hD hN⟩ rfl rfl hl.1 rfl (lv_room (Nat.le_of_ble_eq_true rfl)) d_O_step_78 ⟨Nat.zero_le _, Nat.zero_le _⟩) hS (fun q _ h => hF1 q h) hF1 (fun r78 σ78 t H locs ht hvm hpost hB hz1 hk1 hS => ?_)
          obtain ⟨e1, e2⟩ := hpost
          subst e1
          subst e2
          obtain ⟨hP1, hK1, hD1⟩ := hB
          rw [ht] at hP1
          have hP := hP1
          have hD := hD1.weaken (fun _ _ _ h => hF1 _ h)
          exact K81 _ _ _ _ ⟨σ78, v1, v2, r78, rfl, hM, lv_sub hl [0, 1, 2] rfl, hP, hD, hS⟩
        · rw [if_pos h67] at hM
          refine lv_aload_n hx hb d_O_step_70 rfl (lv_at hl 0 rfl) ?_
          have hF1 := free_all hD hS hA
          obtain ⟨x71, y71, hq71, hM⟩ := bI_some hM
          refine va_calli (va_runV (As := []) (rest := []) ⟨hx, hb, hml, hown, hts⟩ (c_O_layRun l dC dI ad cs _ N σ hq71) (cwV 0 hts (goodV k_487 k_489 ks_O_layRun k_1 k_490) rfl rfl rfl ⟨rfl, by decide, by decide, by decide +kernel⟩ ⟨Nat.le_of_ble_eq_true rfl, Nat.le_of_ble_eq_true rfl⟩) ⟨blindX, va_recv hK hP rfl (g_O), payX hP hK hD hN⟩ rfl rfl hl.1 rfl (lv_room (Nat.le_of_ble_eq_true rfl)) d_O_step_71 ⟨Nat.zero_le _, Nat.zero_le _⟩) hS (fun q _ h => hF1 q h) hF1 (fun r71 σ71 t H locs ht hvm hpost hB hz1 hk1 hS => ?_)
          obtain ⟨e1, e2⟩ := hpost
          subst e1
          subst e2
          obtain ⟨hP1, hK1, hD1⟩ := hB
          rw [ht] at hP1
          have hP := hP1
          have hD := hD1.weaken (fun _ _ _ h => hF1 _ h)
          refine lv_goto (tgt := 81) hx hb d_O_step_74 (by decide) ?_
          exact K81 _ _ _ _ ⟨σ71, v1, v2, r71, rfl, hM, lv_sub hl [0, 1, 2] rfl, hP, hD, hS⟩
      · rw [if_pos h57] at hM
        refine lv_iload_n hx hb d_O_step_60 rfl (lv_at hl 2 rfl) ?_
        have e9 := Prod.mk.inj (Option.some.inj hM)
        exact W.iret (v := v2) hx hb hr (fun t ht hW => ⟨⟨v2, σ, rfl, e9, by rw [ht]; exact hP, va_K.moved hW.alike hK, hD⟩, hS.F ht⟩) hS.2.2 d_O_step_61
  intro K47
  refine lv_iload_n hx hb d_O_step_0 rfl (lv_at hl 1 rfl) ?_
  refine lv_iconst (v := 1) hx hb d_O_step_1 (by decide) ?_
  refine lv_icmp_lt (tgt := 12) hx hb d_O_step_2 (by decide) (fun h2 => ?_) (fun h2 => ?_)
  · rw [if_pos h2] at hM
    cases hM
  · rw [if_neg h2] at hM
    refine lv_iload_n hx hb d_O_step_5 rfl (lv_at hl 1 rfl) ?_
    refine lv_sipush (v := 300) hx hb d_O_step_6 (by decide) ?_
    refine lv_icmp_le (tgt := 20) hx hb d_O_step_9 (by decide) (fun h9 => ?_) (fun h9 => ?_)
    · rw [if_pos h9] at hM
      refine lv_aload_n hx hb d_O_step_20 rfl (lv_at hl 0 rfl) ?_
      refine va_get (D := (dC, dI)) (ci := 0) (v := .int ((σ 0).1 0)) (C := R_O) (T := F_O) (N := 12) hx hb htb in_O hown hK hP 0 (g_O) rfl 10 (by decide) (htb _ k_158) (fun _ h9 => h9) rfl d_O_step_21 ?_
      refine lv_if_eq (tgt := 37) hx hb d_O_step_24 (by decide) (fun h24 => ?_) (fun h24 => ?_)
      · rw [if_pos h24] at hM
        cases hM
      · rw [if_neg h24] at hM
        refine lv_aload_n hx hb d_O_step_27 rfl (lv_at hl 0 rfl) ?_
        refine va_get (D := (dC, dI)) (ci := 0) (v := .ref (ad 5 0)) (C := R_O) (T := F_O) (N := 12) hx hb htb in_O hown hK hP 0 (g_O) rfl 4 (by decide) (htb _ k_152) (fun _ h9 => h9) rfl d_O_step_28 ?_
        obtain ⟨x31, y31, hq31, hM⟩ := bI_some hM
        refine va_calli (va_runV (As := []) (rest := []) ⟨hx, hb, hml, hown, hts⟩ (c_V_hasPower l dC dI ad cs _ N σ hq31) (cwV 0 hts (goodV k_213 k_214 k_215 k_4 k_216) rfl rfl rfl ⟨rfl, by decide, by decide, by decide +kernel⟩ ⟨Nat.le_of_ble_eq_true rfl, Nat.le_of_ble_eq_true rfl⟩) ⟨blindX, va_recv hK hP rfl (g_V), payX hP hK hD hN⟩ rfl rfl hl.1 rfl (lv_room (Nat.le_of_ble_eq_true rfl)) d_O_step_31 ⟨Nat.zero_le _, Nat.zero_le _⟩) hS (fun q h0 h => absurd h0 (Nat.not_lt.mpr h)) (fun q h => hA q (Nat.le_trans hS.1 h)) (fun r31 u t H locs ht hvm hpost hB hz1 hk1 hS => ?_)
        obtain ⟨e1, e2⟩ := hpost
        subst e1
        subst e2
        have hP := keepP hP hk1
        refine lv_if_ne (tgt := 45) hx hb d_O_step_34 (by decide) (fun h34 => ?_) (fun h34 => ?_)
        · rw [if_neg h34] at hM
          refine lv_iconst (v := 0) hx hb d_O_step_45 (by decide) ?_
          refine lv_istore_n hx hb d_O_step_46 rfl hl (by decide) (lv' := [(2, .int 0), (0, .ref (ad 0 0)), (1, .int a1)]) rfl (fun ls hl => ?_)
          exact K47 N _ _ _ _ ⟨σ, a1, 0, rfl, hM, lv_sub hl [1, 2, 0] rfl, hP, hD, hS⟩
        · rw [if_pos h34] at hM
          cases hM
    · rw [if_neg h9] at hM
      cases hM

theorem d_O_isTape_0 : decode b_O_isTape 0 = .ok (.iload_n 0, 1) := by decide +kernel
theorem d_O_isTape_1 : decode b_O_isTape 1 = .ok (.ifCond .lt 12, 3) := by decide +kernel
theorem d_O_isTape_4 : decode b_O_isTape 4 = .ok (.iload_n 0, 1) := by decide +kernel
theorem d_O_isTape_5 : decode b_O_isTape 5 = .ok (.iconst 4, 1) := by decide +kernel
theorem d_O_isTape_6 : decode b_O_isTape 6 = .ok (.if_icmp .ge 7, 3) := by decide +kernel
theorem d_O_isTape_9 : decode b_O_isTape 9 = .ok (.iconst 1, 1) := by decide +kernel
theorem d_O_isTape_10 : decode b_O_isTape 10 = .ok (.goto 4, 3) := by decide +kernel
theorem d_O_isTape_13 : decode b_O_isTape 13 = .ok (.iconst 0, 1) := by decide +kernel
theorem d_O_isTape_14 : decode b_O_isTape 14 = .ok (.ireturn, 1) := by decide +kernel
def m_O_isTape (a0 : Int32) : Option Int32 :=
  (if a0 < 0 then some 0 else (if 4 ≤ a0 then some 0 else some 1))

set_option maxHeartbeats 4000000 in
set_option maxRecDepth 100000 in
theorem c_O_isTape (l : Launch) (sz : Nat) (a0 : Int32) {r0 : Int32} (hM : m_O_isTape a0 = some r0) : Met l y_O_isTape (wd y_O_isTape b_O_isTape 1 (some .boolean)) ({ frames := 0, cells := 0, slots := 0, locals := 0 }) (va_Pc [.int a0] (fun U => U.heap.size = sz)) (va_Qi (fun (r : Int32) (_ : Unit) => r = r0) (fun _ _ => True) (fun q => sz ≤ q)) 0 0 (fun q => sz ≤ q) := by
  refine Met.ofW (cc := b_O_isTape) (maxL := 1) (ret := (some .boolean)) (by decide) rfl ?_
  intro p e s m args below meth c s₁ B hml hv
  obtain ⟨rfl, hsz⟩ := hv
  have hx := B.exec
  have hb := B.bytes
  have hr := B.returns
  have hts := atoms_spec (ws := (wd y_O_isTape b_O_isTape 1 (some .boolean))) B.pre
  have htb : ∀ w ∈ tb, w.before _ s = true := fun w h => hts w (List.mem_cons_of_mem _ h)
  have hown : s.vm.findClass R_O = some m.cls := findClass_of_methodNamed B.named
  have hlocks := B.notSynchronized
  subst hsz
  have hS : va_S (fun q => s.heap.size ≤ q) s.heap s.heap [] := va_S.rf
  have hA : ∀ q : Nat, s.heap.size ≤ q → s.heap.size ≤ q := fun q h => h
  have hl := lv_entry ([.int a0]) (n := 1) (Nat.le_of_ble_eq_true rfl)
  rw [lg_entry_eq]
  generalize (lg_sl ([.int a0]) ++ List.replicate (1 - (lg_sl ([.int a0])).length) Slot.unset).toArray = ls at hl ⊢
  have hl : lv_has ls 1 [(0, .int a0)] := hl
  rw [m_O_isTape] at hM
  refine lv_iload_n hx hb d_O_isTape_0 rfl (lv_at hl 0 rfl) ?_
  refine lv_if_lt (tgt := 13) hx hb d_O_isTape_1 (by decide) (fun h1 => ?_) (fun h1 => ?_)
  · rw [if_pos h1] at hM
    refine lv_iconst (v := 0) hx hb d_O_isTape_13 (by decide) ?_
    have e9 := Option.some.inj hM
    exact W.zret (ty := .boolean) (v := 0) hx hb hr rfl (fun t ht hW => ⟨⟨0, (), rfl, e9, trivial⟩, hS.F ht⟩) hS.2.2 d_O_isTape_14
  · rw [if_neg h1] at hM
    refine lv_iload_n hx hb d_O_isTape_4 rfl (lv_at hl 0 rfl) ?_
    refine lv_iconst (v := 4) hx hb d_O_isTape_5 (by decide) ?_
    refine lv_icmp_ge (tgt := 13) hx hb d_O_isTape_6 (by decide) (fun h6 => ?_) (fun h6 => ?_)
    · rw [if_pos h6] at hM
      refine lv_iconst (v := 0) hx hb d_O_isTape_13 (by decide) ?_
      have e9 := Option.some.inj hM
      exact W.zret (ty := .boolean) (v := 0) hx hb hr rfl (fun t ht hW => ⟨⟨0, (), rfl, e9, trivial⟩, hS.F ht⟩) hS.2.2 d_O_isTape_14
    · rw [if_neg h6] at hM
      refine lv_iconst (v := 1) hx hb d_O_isTape_9 (by decide) ?_
      refine lv_goto (tgt := 14) hx hb d_O_isTape_10 (by decide) ?_
      have e9 := Option.some.inj hM
      exact W.zret (ty := .boolean) (v := 1) hx hb hr rfl (fun t ht hW => ⟨⟨1, (), rfl, e9, trivial⟩, hS.F ht⟩) hS.2.2 d_O_isTape_14

theorem d_T_replaceFaults_0 : decode b_T_replaceFaults 0 = .ok (.aload_n 0, 1) := by decide +kernel
theorem d_T_replaceFaults_1 : decode b_T_replaceFaults 1 = .ok (.getfield 28, 3) := by decide +kernel
theorem d_T_replaceFaults_4 : decode b_T_replaceFaults 4 = .ok (.istore_n 2, 1) := by decide +kernel
theorem d_T_replaceFaults_5 : decode b_T_replaceFaults 5 = .ok (.aload_n 0, 1) := by decide +kernel
theorem d_T_replaceFaults_6 : decode b_T_replaceFaults 6 = .ok (.iload_n 1, 1) := by decide +kernel
theorem d_T_replaceFaults_7 : decode b_T_replaceFaults 7 = .ok (.putfield 28, 3) := by decide +kernel
theorem d_T_replaceFaults_10 : decode b_T_replaceFaults 10 = .ok (.iload_n 2, 1) := by decide +kernel
theorem d_T_replaceFaults_11 : decode b_T_replaceFaults 11 = .ok (.ireturn, 1) := by decide +kernel
def m_T_replaceFaults (N : Nat) (σ : SX) (i : Nat) (a1 : Int32) : Option (Int32 × SX) :=
  some (((σ (7 + i)).1 3), (w1 σ (7 + i) 3 a1))

set_option maxHeartbeats 4000000 in
set_option maxRecDepth 100000 in
theorem c_T_replaceFaults (l : Launch) (dC : Nat → ClassId) (dI : Nat → Nat → Nat) (ad : Nat → Nat → Nat) (cs : Nat → ClassId) (sz N : Nat) (σ : SX) (i : Nat) (hi : i < 4) (a1 : Int32) {r0 : Int32} {σ0 : SX} (hM : m_T_replaceFaults N σ i a1 = some (r0, σ0)) : Met l y_T_replaceFaults (wd y_T_replaceFaults b_T_replaceFaults 3 (some .int)) ({ frames := 0, cells := 0, slots := 0, locals := 0 }) (va_Pc [.ref (ad (7 + i) 0), .int a1] (preX dC dI ad cs sz σ)) (va_Qi (fun (r : Int32) (u : SX) => r = r0 ∧ u = σ0) (atX dC dI ad cs (va_A (wX ad cs σ) sz)) (va_A (wX ad cs σ) sz)) 0 0 (va_A (wX ad cs σ) sz) := by
  refine Met.ofW (cc := b_T_replaceFaults) (maxL := 3) (ret := (some .int)) (by decide) rfl ?_
  intro p e s m args below meth c s₁ B hml hv
  obtain ⟨rfl, hsz, hP, hK, hD0, hN⟩ := hv
  have hx := B.exec
  have hb := B.bytes
  have hr := B.returns
  have hts := atoms_spec (ws := (wd y_T_replaceFaults b_T_replaceFaults 3 (some .int))) B.pre
  have htb : ∀ w ∈ tb, w.before _ s = true := fun w h => hts w (List.mem_cons_of_mem _ h)
  have hown : s.vm.findClass R_T = some m.cls := findClass_of_methodNamed B.named
  have hlocks := B.notSynchronized
  subst hsz
  have hD := hD0.self (sz := s.heap.size)
  generalize hAe : va_A (wX ad cs σ) s.heap.size = A at hD ⊢
  have hA : ∀ q : Nat, s.heap.size ≤ q → A q := fun q h => by rw [← hAe]; exact Or.inr h
  have hS : va_S A s.heap s.heap [] := va_S.rf
  have hP : va_P (dC, dI) classes (wX ad cs σ) s.heap := hP
  have hl := lv_entry ([.ref (ad (7 + i) 0), .int a1]) (n := 3) (Nat.le_of_ble_eq_true rfl)
  rw [lg_entry_eq]
  generalize (lg_sl ([.ref (ad (7 + i) 0), .int a1]) ++ List.replicate (3 - (lg_sl ([.ref (ad (7 + i) 0), .int a1])).length) Slot.unset).toArray = ls at hl ⊢
  have hl : lv_has ls 3 [(0, .ref (ad (7 + i) 0)), (1, .int a1)] := hl
  rw [m_T_replaceFaults] at hM
  refine lv_aload_n hx hb d_T_replaceFaults_0 rfl (lv_at hl 0 rfl) ?_
  refine va_get (D := (dC, dI)) (ci := 6) (v := .int ((σ (7 + i)).1 3)) (C := R_T) (T := F_T) (N := 6) hx hb htb in_T hown hK hP (19 + 3 * i) (g_T hi) rfl 5 (by decide) (htb _ k_134) (fun _ h9 => h9) rfl d_T_replaceFaults_1 ?_
  refine lv_istore_n hx hb d_T_replaceFaults_4 rfl hl (by decide) (lv' := [(2, .int ((σ (7 + i)).1 3)), (0, .ref (ad (7 + i) 0)), (1, .int a1)]) rfl (fun ls hl => ?_)
  refine lv_aload_n hx hb d_T_replaceFaults_5 rfl (lv_at hl 1 rfl) ?_
  refine lv_iload_n hx hb d_T_replaceFaults_6 rfl (lv_at hl 2 rfl) ?_
  refine va_put (D := (dC, dI)) (ci := 6) (v := .int a1) (ty := .int) (C := R_T) (T := F_T) (N := 6) hx hb htb in_T ft_T ft_T_ok n_T hown hK hP hD hS (19 + 3 * i) (g_T hi) rfl 5 (by decide) (htb _ k_134) (fun _ h9 => h9) rfl (by decide +kernel) rfl rfl (Nat.le_of_ble_eq_true rfl) d_T_replaceFaults_7 (fun H locs hP hD hS => ?_)
  have hP := P_eq (s_T_3 hi) hP
  have hD := D_eq (s_T_3 hi) hD
  refine lv_iload_n hx hb d_T_replaceFaults_10 rfl (lv_at hl 0 rfl) ?_
  have e9 := Prod.mk.inj (Option.some.inj hM)
  exact W.iret (v := ((σ (7 + i)).1 3)) hx hb hr (fun t ht hW => ⟨⟨((σ (7 + i)).1 3), (w1 σ (7 + i) 3 a1), rfl, e9, by rw [ht]; exact hP, va_K.moved hW.alike hK, hD⟩, hS.F ht⟩) hS.2.2 d_T_replaceFaults_11

theorem d_O_fault_0 : decode b_O_fault 0 = .ok (.iload_n 1, 1) := by decide +kernel
theorem d_O_fault_1 : decode b_O_fault 1 = .ok (.invokestatic 127, 3) := by decide +kernel
theorem d_O_fault_4 : decode b_O_fault 4 = .ok (.ifCond .eq 13, 3) := by decide +kernel
theorem d_O_fault_7 : decode b_O_fault 7 = .ok (.iload_n 2, 1) := by decide +kernel
theorem d_O_fault_8 : decode b_O_fault 8 = .ok (.ifCond .lt 9, 3) := by decide +kernel
theorem d_O_fault_11 : decode b_O_fault 11 = .ok (.iload_n 2, 1) := by decide +kernel
theorem d_O_fault_12 : decode b_O_fault 12 = .ok (.bipush 20, 2) := by decide +kernel
theorem d_O_fault_14 : decode b_O_fault 14 = .ok (.if_icmp .le 11, 3) := by decide +kernel
theorem d_O_fault_17 : decode b_O_fault 17 = .ok (.new 88, 3) := by decide +kernel
theorem d_O_fault_20 : decode b_O_fault 20 = .ok (.dup, 1) := by decide +kernel
theorem d_O_fault_21 : decode b_O_fault 21 = .ok (.invokespecial 90, 3) := by decide +kernel
theorem d_O_fault_24 : decode b_O_fault 24 = .ok (.athrow, 1) := by decide +kernel
theorem d_O_fault_25 : decode b_O_fault 25 = .ok (.aload_n 0, 1) := by decide +kernel
theorem d_O_fault_26 : decode b_O_fault 26 = .ok (.getfield 39, 3) := by decide +kernel
theorem d_O_fault_29 : decode b_O_fault 29 = .ok (.iload_n 1, 1) := by decide +kernel
theorem d_O_fault_30 : decode b_O_fault 30 = .ok (.aaload, 1) := by decide +kernel
theorem d_O_fault_31 : decode b_O_fault 31 = .ok (.iload_n 2, 1) := by decide +kernel
theorem d_O_fault_32 : decode b_O_fault 32 = .ok (.invokevirtual 130, 3) := by decide +kernel
theorem d_O_fault_35 : decode b_O_fault 35 = .ok (.ireturn, 1) := by decide +kernel
def m_O_fault (N : Nat) (σ : SX) (a1 : Int32) (a2 : Int32) : Option (Int32 × SX) :=
  (bP (m_O_isTape a1) fun r1 => (if r1 = 0 then none else (if a2 < 0 then none else (if a2 ≤ 20 then (if inb a1 4 = true then (bI (m_T_replaceFaults N σ a1.toNatClampNeg a2) fun r32 σ32 => some (r32, σ32)) else none) else none))))

set_option maxHeartbeats 4000000 in
set_option maxRecDepth 100000 in
theorem c_O_fault (l : Launch) (dC : Nat → ClassId) (dI : Nat → Nat → Nat) (ad : Nat → Nat → Nat) (cs : Nat → ClassId) (sz N : Nat) (σ : SX) (a1 : Int32) (a2 : Int32) {r0 : Int32} {σ0 : SX} (hM : m_O_fault N σ a1 a2 = some (r0, σ0)) : Met l y_O_fault (wd y_O_fault b_O_fault 3 (some .int)) ({ frames := 1, cells := 0, slots := 0, locals := 22 }) (va_Pc [.ref (ad 0 0), .int a1, .int a2] (preX dC dI ad cs sz σ)) (va_Qi (fun (r : Int32) (u : SX) => r = r0 ∧ u = σ0) (atX dC dI ad cs (va_A (wX ad cs σ) sz)) (va_A (wX ad cs σ) sz)) 0 0 (va_A (wX ad cs σ) sz) := by
  refine Met.ofW (cc := b_O_fault) (maxL := 3) (ret := (some .int)) (by decide) rfl ?_
  intro p e s m args below meth c s₁ B hml hv
  obtain ⟨rfl, hsz, hP, hK, hD0, hN⟩ := hv
  have hx := B.exec
  have hb := B.bytes
  have hr := B.returns
  have hts := atoms_spec (ws := (wd y_O_fault b_O_fault 3 (some .int))) B.pre
  have htb : ∀ w ∈ tb, w.before _ s = true := fun w h => hts w (List.mem_cons_of_mem _ h)
  have hown : s.vm.findClass R_O = some m.cls := findClass_of_methodNamed B.named
  have hlocks := B.notSynchronized
  subst hsz
  have hD := hD0.self (sz := s.heap.size)
  generalize hAe : va_A (wX ad cs σ) s.heap.size = A at hD ⊢
  have hA : ∀ q : Nat, s.heap.size ≤ q → A q := fun q h => by rw [← hAe]; exact Or.inr h
  have hS : va_S A s.heap s.heap [] := va_S.rf
  have hP : va_P (dC, dI) classes (wX ad cs σ) s.heap := hP
  have hl := lv_entry ([.ref (ad 0 0), .int a1, .int a2]) (n := 3) (Nat.le_of_ble_eq_true rfl)
  rw [lg_entry_eq]
  generalize (lg_sl ([.ref (ad 0 0), .int a1, .int a2]) ++ List.replicate (3 - (lg_sl ([.ref (ad 0 0), .int a1, .int a2])).length) Slot.unset).toArray = ls at hl ⊢
  have hl : lv_has ls 3 [(0, .ref (ad 0 0)), (1, .int a1), (2, .int a2)] := hl
  rw [m_O_fault] at hM
  refine lv_iload_n hx hb d_O_fault_0 rfl (lv_at hl 1 rfl) ?_
  obtain ⟨x1, hq1, hM⟩ := bP_some hM
  refine va_calli (va_runS (As := [.int a1]) (rest := []) ⟨hx, hb, hml, hown, hts⟩ (c_O_isTape l _ a1 hq1) (cwS 1 hts (goodS k_245 k_246 k_1 k_247) rfl rfl rfl ⟨rfl, by decide, by decide, by decide +kernel⟩ ⟨Nat.le_of_ble_eq_true rfl, Nat.le_of_ble_eq_true rfl⟩) ⟨blindS, payS⟩ rfl rfl hl.1 rfl (lv_room (Nat.le_of_ble_eq_true rfl)) d_O_fault_1 ⟨Nat.zero_le _, Nat.zero_le _⟩) hS (fun q h0 h => absurd h0 (Nat.not_lt.mpr h)) (fun q h => hA q (Nat.le_trans hS.1 h)) (fun r1 u t H locs ht hvm hpost hB hz1 hk1 hS => ?_)
  subst hpost
  have hP := keepP hP hk1
  refine lv_if_eq (tgt := 17) hx hb d_O_fault_4 (by decide) (fun h4 => ?_) (fun h4 => ?_)
  · rw [if_pos h4] at hM
    cases hM
  · rw [if_neg h4] at hM
    refine lv_iload_n hx hb d_O_fault_7 rfl (lv_at hl 2 rfl) ?_
    refine lv_if_lt (tgt := 17) hx hb d_O_fault_8 (by decide) (fun h8 => ?_) (fun h8 => ?_)
    · rw [if_pos h8] at hM
      cases hM
    · rw [if_neg h8] at hM
      refine lv_iload_n hx hb d_O_fault_11 rfl (lv_at hl 2 rfl) ?_
      refine lv_bipush (v := 20) hx hb d_O_fault_12 (by decide) ?_
      refine lv_icmp_le (tgt := 25) hx hb d_O_fault_14 (by decide) (fun h14 => ?_) (fun h14 => ?_)
      · rw [if_pos h14] at hM
        refine lv_aload_n hx hb d_O_fault_25 rfl (lv_at hl 0 rfl) ?_
        refine va_get (D := (dC, dI)) (ci := 0) (v := .ref (ad 0 9)) (C := R_O) (T := F_O) (N := 12) hx hb htb in_O hown hK hP 0 (g_O) rfl 6 (by decide) (htb _ k_154) (fun _ h9 => h9) rfl d_O_fault_26 ?_
        refine lv_iload_n hx hb d_O_fault_29 rfl (lv_at hl 1 rfl) ?_
        have hg30 := gd_c hM
        have hM := gd_v hM
        refine va_aldq hx hb hK hP 18 2 (f := fun i => some (ad (7 + i) 0)) g_tapes rfl (inb_in hg30) d_O_fault_30 ?_
        refine W.eq (g2 := F0 m 31 ls [.ref (ad (7 + a1.toNatClampNeg) 0)]) rfl ?_
        refine lv_iload_n hx hb d_O_fault_31 rfl (lv_at hl 2 rfl) ?_
        have hF1 := free_all hD hS hA
        obtain ⟨x32, y32, hq32, hM⟩ := bI_some hM
        refine va_calli (va_runV (As := [.int a2]) (rest := []) ⟨hx, hb, hml, hown, hts⟩ (c_T_replaceFaults l dC dI ad cs _ N σ a1.toNatClampNeg (inb_lt hg30) a2 hq32) (cwV 1 hts (goodV k_609 k_610 k_611 k_7 k_612) rfl rfl rfl ⟨rfl, by decide, by decide, by decide +kernel⟩ ⟨Nat.le_of_ble_eq_true rfl, Nat.le_of_ble_eq_true rfl⟩) ⟨blindX, va_recv hK hP rfl (g_T (inb_lt hg30)), payX hP hK hD hN⟩ rfl rfl hl.1 rfl (lv_room (Nat.le_of_ble_eq_true rfl)) d_O_fault_32 ⟨Nat.zero_le _, Nat.zero_le _⟩) hS (fun q _ h => hF1 q h) hF1 (fun r32 σ32 t H locs ht hvm hpost hB hz1 hk1 hS => ?_)
        obtain ⟨e1, e2⟩ := hpost
        subst e1
        subst e2
        obtain ⟨hP1, hK1, hD1⟩ := hB
        rw [ht] at hP1
        have hP := hP1
        have hD := hD1.weaken (fun _ _ _ h => hF1 _ h)
        have e9 := Prod.mk.inj (Option.some.inj hM)
        exact W.iret (v := r32) hx hb hr (fun t ht hW => ⟨⟨r32, σ32, rfl, e9, by rw [ht]; exact hP, va_K.moved hW.alike hK, hD⟩, hS.F ht⟩) hS.2.2 d_O_fault_35
      · rw [if_neg h14] at hM
        cases hM

theorem d_V_planCut_0 : decode b_V_planCut 0 = .ok (.aload_n 0, 1) := by decide +kernel
theorem d_V_planCut_1 : decode b_V_planCut 1 = .ok (.iconst 1, 1) := by decide +kernel
theorem d_V_planCut_2 : decode b_V_planCut 2 = .ok (.putfield 17, 3) := by decide +kernel
theorem d_V_planCut_5 : decode b_V_planCut 5 = .ok (.aload_n 0, 1) := by decide +kernel
theorem d_V_planCut_6 : decode b_V_planCut 6 = .ok (.iload_n 1, 1) := by decide +kernel
theorem d_V_planCut_7 : decode b_V_planCut 7 = .ok (.putfield 20, 3) := by decide +kernel
theorem d_V_planCut_10 : decode b_V_planCut 10 = .ok (.return_, 1) := by decide +kernel
def m_V_planCut (N : Nat) (σ : SX) (a1 : Int32) : Option (SX) :=
  some (w1 (w1 σ 5 2 1) 5 3 a1)

set_option maxHeartbeats 4000000 in
set_option maxRecDepth 100000 in
theorem c_V_planCut (l : Launch) (dC : Nat → ClassId) (dI : Nat → Nat → Nat) (ad : Nat → Nat → Nat) (cs : Nat → ClassId) (sz N : Nat) (σ : SX) (a1 : Int32) {σ0 : SX} (hM : m_V_planCut N σ a1 = some σ0) : Met l y_V_planCut (wd y_V_planCut b_V_planCut 2 none) ({ frames := 0, cells := 0, slots := 0, locals := 0 }) (va_Pc [.ref (ad 5 0), .int a1] (preX dC dI ad cs sz σ)) (va_Qv (fun (u : SX) => u = σ0) (atX dC dI ad cs (va_A (wX ad cs σ) sz)) (va_A (wX ad cs σ) sz)) 0 0 (va_A (wX ad cs σ) sz) := by
  refine Met.ofW (cc := b_V_planCut) (maxL := 2) (ret := none) (by decide) rfl ?_
  intro p e s m args below meth c s₁ B hml hv
  obtain ⟨rfl, hsz, hP, hK, hD0, hN⟩ := hv
  have hx := B.exec
  have hb := B.bytes
  have hr := B.returns
  have hts := atoms_spec (ws := (wd y_V_planCut b_V_planCut 2 none)) B.pre
  have htb : ∀ w ∈ tb, w.before _ s = true := fun w h => hts w (List.mem_cons_of_mem _ h)
  have hown : s.vm.findClass R_V = some m.cls := findClass_of_methodNamed B.named
  have hlocks := B.notSynchronized
  subst hsz
  have hD := hD0.self (sz := s.heap.size)
  generalize hAe : va_A (wX ad cs σ) s.heap.size = A at hD ⊢
  have hA : ∀ q : Nat, s.heap.size ≤ q → A q := fun q h => by rw [← hAe]; exact Or.inr h
  have hS : va_S A s.heap s.heap [] := va_S.rf
  have hP : va_P (dC, dI) classes (wX ad cs σ) s.heap := hP
  have hl := lv_entry ([.ref (ad 5 0), .int a1]) (n := 2) (Nat.le_of_ble_eq_true rfl)
  rw [lg_entry_eq]
  generalize (lg_sl ([.ref (ad 5 0), .int a1]) ++ List.replicate (2 - (lg_sl ([.ref (ad 5 0), .int a1])).length) Slot.unset).toArray = ls at hl ⊢
  have hl : lv_has ls 2 [(0, .ref (ad 5 0)), (1, .int a1)] := hl
  rw [m_V_planCut] at hM
  refine lv_aload_n hx hb d_V_planCut_0 rfl (lv_at hl 0 rfl) ?_
  refine lv_iconst (v := 1) hx hb d_V_planCut_1 (by decide) ?_
  refine va_put (D := (dC, dI)) (ci := 4) (v := .int 1) (ty := .boolean) (C := R_V) (T := F_V) (N := 4) hx hb htb in_V ft_V ft_V_ok n_V hown hK hP hD hS 15 (g_V) rfl 2 (by decide) (htb _ k_73) (fun _ h9 => h9) rfl (by decide +kernel) rfl rfl (Nat.le_of_ble_eq_true rfl) d_V_planCut_2 (fun H locs hP hD hS => ?_)
  have hP := P_eq (s_V_2) hP
  have hD := D_eq (s_V_2) hD
  refine lv_aload_n hx hb d_V_planCut_5 rfl (lv_at hl 0 rfl) ?_
  refine lv_iload_n hx hb d_V_planCut_6 rfl (lv_at hl 1 rfl) ?_
  refine va_put (D := (dC, dI)) (ci := 4) (v := .int a1) (ty := .int) (C := R_V) (T := F_V) (N := 4) hx hb htb in_V ft_V ft_V_ok n_V hown hK hP hD hS 15 (g_V) rfl 3 (by decide) (htb _ k_74) (fun _ h9 => h9) rfl (by decide +kernel) rfl rfl (Nat.le_of_ble_eq_true rfl) d_V_planCut_7 (fun H locs hP hD hS => ?_)
  have hP := P_eq (s_V_3) hP
  have hD := D_eq (s_V_3) hD
  have e9 := Option.some.inj hM
  exact W.vret hx hb hr (fun t ht hW => ⟨⟨(w1 (w1 σ 5 2 1) 5 3 a1), rfl, e9, by rw [ht]; exact hP, va_K.moved hW.alike hK, hD⟩, hS.F ht⟩) hS.2.2 d_V_planCut_10

theorem d_O_cutAfter_0 : decode b_O_cutAfter 0 = .ok (.iload_n 1, 1) := by decide +kernel
theorem d_O_cutAfter_1 : decode b_O_cutAfter 1 = .ok (.ifCond .lt 20, 3) := by decide +kernel
theorem d_O_cutAfter_4 : decode b_O_cutAfter 4 = .ok (.iload_n 1, 1) := by decide +kernel
theorem d_O_cutAfter_5 : decode b_O_cutAfter 5 = .ok (.sipush 1000, 3) := by decide +kernel
theorem d_O_cutAfter_8 : decode b_O_cutAfter 8 = .ok (.if_icmp .gt 13, 3) := by decide +kernel
theorem d_O_cutAfter_11 : decode b_O_cutAfter 11 = .ok (.aload_n 0, 1) := by decide +kernel
theorem d_O_cutAfter_12 : decode b_O_cutAfter 12 = .ok (.getfield 26, 3) := by decide +kernel
theorem d_O_cutAfter_15 : decode b_O_cutAfter 15 = .ok (.invokevirtual 118, 3) := by decide +kernel
theorem d_O_cutAfter_18 : decode b_O_cutAfter 18 = .ok (.ifCond .ne 5, 3) := by decide +kernel
theorem d_O_cutAfter_21 : decode b_O_cutAfter 21 = .ok (.iconst 0, 1) := by decide +kernel
theorem d_O_cutAfter_22 : decode b_O_cutAfter 22 = .ok (.ireturn, 1) := by decide +kernel
theorem d_O_cutAfter_23 : decode b_O_cutAfter 23 = .ok (.aload_n 0, 1) := by decide +kernel
theorem d_O_cutAfter_24 : decode b_O_cutAfter 24 = .ok (.getfield 26, 3) := by decide +kernel
theorem d_O_cutAfter_27 : decode b_O_cutAfter 27 = .ok (.iload_n 1, 1) := by decide +kernel
theorem d_O_cutAfter_28 : decode b_O_cutAfter 28 = .ok (.invokevirtual 134, 3) := by decide +kernel
theorem d_O_cutAfter_31 : decode b_O_cutAfter 31 = .ok (.iconst 1, 1) := by decide +kernel
theorem d_O_cutAfter_32 : decode b_O_cutAfter 32 = .ok (.ireturn, 1) := by decide +kernel
def m_O_cutAfter (N : Nat) (σ : SX) (a1 : Int32) : Option (Int32 × SX) :=
  (if a1 < 0 then some (0, σ) else (if 1000 < a1 then some (0, σ) else (bI (m_V_hasPower N σ) fun r15 σ15 => (if r15 = 0 then some (0, σ) else (bV (m_V_planCut N σ a1) fun σ28 => some (1, σ28))))))

set_option maxHeartbeats 4000000 in
set_option maxRecDepth 100000 in
theorem c_O_cutAfter (l : Launch) (dC : Nat → ClassId) (dI : Nat → Nat → Nat) (ad : Nat → Nat → Nat) (cs : Nat → ClassId) (sz N : Nat) (σ : SX) (a1 : Int32) {r0 : Int32} {σ0 : SX} (hM : m_O_cutAfter N σ a1 = some (r0, σ0)) : Met l y_O_cutAfter (wd y_O_cutAfter b_O_cutAfter 2 (some .boolean)) ({ frames := 1, cells := 0, slots := 0, locals := 21 }) (va_Pc [.ref (ad 0 0), .int a1] (preX dC dI ad cs sz σ)) (va_Qi (fun (r : Int32) (u : SX) => r = r0 ∧ u = σ0) (atX dC dI ad cs (va_A (wX ad cs σ) sz)) (va_A (wX ad cs σ) sz)) 0 0 (va_A (wX ad cs σ) sz) := by
  refine Met.ofW (cc := b_O_cutAfter) (maxL := 2) (ret := (some .boolean)) (by decide) rfl ?_
  intro p e s m args below meth c s₁ B hml hv
  obtain ⟨rfl, hsz, hP, hK, hD0, hN⟩ := hv
  have hx := B.exec
  have hb := B.bytes
  have hr := B.returns
  have hts := atoms_spec (ws := (wd y_O_cutAfter b_O_cutAfter 2 (some .boolean))) B.pre
  have htb : ∀ w ∈ tb, w.before _ s = true := fun w h => hts w (List.mem_cons_of_mem _ h)
  have hown : s.vm.findClass R_O = some m.cls := findClass_of_methodNamed B.named
  have hlocks := B.notSynchronized
  subst hsz
  have hD := hD0.self (sz := s.heap.size)
  generalize hAe : va_A (wX ad cs σ) s.heap.size = A at hD ⊢
  have hA : ∀ q : Nat, s.heap.size ≤ q → A q := fun q h => by rw [← hAe]; exact Or.inr h
  have hS : va_S A s.heap s.heap [] := va_S.rf
  have hP : va_P (dC, dI) classes (wX ad cs σ) s.heap := hP
  have hl := lv_entry ([.ref (ad 0 0), .int a1]) (n := 2) (Nat.le_of_ble_eq_true rfl)
  rw [lg_entry_eq]
  generalize (lg_sl ([.ref (ad 0 0), .int a1]) ++ List.replicate (2 - (lg_sl ([.ref (ad 0 0), .int a1])).length) Slot.unset).toArray = ls at hl ⊢
  have hl : lv_has ls 2 [(0, .ref (ad 0 0)), (1, .int a1)] := hl
  rw [m_O_cutAfter] at hM
  refine lv_iload_n hx hb d_O_cutAfter_0 rfl (lv_at hl 1 rfl) ?_
  refine lv_if_lt (tgt := 21) hx hb d_O_cutAfter_1 (by decide) (fun h1 => ?_) (fun h1 => ?_)
  · rw [if_pos h1] at hM
    refine lv_iconst (v := 0) hx hb d_O_cutAfter_21 (by decide) ?_
    have e9 := Prod.mk.inj (Option.some.inj hM)
    exact W.zret (ty := .boolean) (v := 0) hx hb hr rfl (fun t ht hW => ⟨⟨0, σ, rfl, e9, by rw [ht]; exact hP, va_K.moved hW.alike hK, hD⟩, hS.F ht⟩) hS.2.2 d_O_cutAfter_22
  · rw [if_neg h1] at hM
    refine lv_iload_n hx hb d_O_cutAfter_4 rfl (lv_at hl 1 rfl) ?_
    refine lv_sipush (v := 1000) hx hb d_O_cutAfter_5 (by decide) ?_
    refine lv_icmp_gt (tgt := 21) hx hb d_O_cutAfter_8 (by decide) (fun h8 => ?_) (fun h8 => ?_)
    · rw [if_pos h8] at hM
      refine lv_iconst (v := 0) hx hb d_O_cutAfter_21 (by decide) ?_
      have e9 := Prod.mk.inj (Option.some.inj hM)
      exact W.zret (ty := .boolean) (v := 0) hx hb hr rfl (fun t ht hW => ⟨⟨0, σ, rfl, e9, by rw [ht]; exact hP, va_K.moved hW.alike hK, hD⟩, hS.F ht⟩) hS.2.2 d_O_cutAfter_22
    · rw [if_neg h8] at hM
      refine lv_aload_n hx hb d_O_cutAfter_11 rfl (lv_at hl 0 rfl) ?_
      refine va_get (D := (dC, dI)) (ci := 0) (v := .ref (ad 5 0)) (C := R_O) (T := F_O) (N := 12) hx hb htb in_O hown hK hP 0 (g_O) rfl 4 (by decide) (htb _ k_152) (fun _ h9 => h9) rfl d_O_cutAfter_12 ?_
      obtain ⟨x15, y15, hq15, hM⟩ := bI_some hM
      refine va_calli (va_runV (As := []) (rest := []) ⟨hx, hb, hml, hown, hts⟩ (c_V_hasPower l dC dI ad cs _ N σ hq15) (cwV 0 hts (goodV k_213 k_214 k_215 k_4 k_216) rfl rfl rfl ⟨rfl, by decide, by decide, by decide +kernel⟩ ⟨Nat.le_of_ble_eq_true rfl, Nat.le_of_ble_eq_true rfl⟩) ⟨blindX, va_recv hK hP rfl (g_V), payX hP hK hD hN⟩ rfl rfl hl.1 rfl (lv_room (Nat.le_of_ble_eq_true rfl)) d_O_cutAfter_15 ⟨Nat.zero_le _, Nat.zero_le _⟩) hS (fun q h0 h => absurd h0 (Nat.not_lt.mpr h)) (fun q h => hA q (Nat.le_trans hS.1 h)) (fun r15 u t H locs ht hvm hpost hB hz1 hk1 hS => ?_)
      obtain ⟨e1, e2⟩ := hpost
      subst e1
      subst e2
      have hP := keepP hP hk1
      refine lv_if_ne (tgt := 23) hx hb d_O_cutAfter_18 (by decide) (fun h18 => ?_) (fun h18 => ?_)
      · rw [if_neg h18] at hM
        refine lv_aload_n hx hb d_O_cutAfter_23 rfl (lv_at hl 0 rfl) ?_
        refine va_get (D := (dC, dI)) (ci := 0) (v := .ref (ad 5 0)) (C := R_O) (T := F_O) (N := 12) hx hb htb in_O hown hK hP 0 (g_O) rfl 4 (by decide) (htb _ k_152) (fun _ h9 => h9) rfl d_O_cutAfter_24 ?_
        refine lv_iload_n hx hb d_O_cutAfter_27 rfl (lv_at hl 1 rfl) ?_
        have hF1 := free_all hD hS hA
        obtain ⟨y28, hq28, hM⟩ := bV_some hM
        refine va_callv (va_runV (As := [.int a1]) (rest := []) ⟨hx, hb, hml, hown, hts⟩ (c_V_planCut l dC dI ad cs _ N σ a1 hq28) (cwV 1 hts (goodV k_217 k_218 k_219 k_4 k_220) rfl rfl rfl ⟨rfl, by decide, by decide, by decide +kernel⟩ ⟨Nat.le_of_ble_eq_true rfl, Nat.le_of_ble_eq_true rfl⟩) ⟨blindX, va_recv hK hP rfl (g_V), payX hP hK hD hN⟩ rfl rfl hl.1 rfl (lv_room (Nat.le_of_ble_eq_true rfl)) d_O_cutAfter_28 ⟨Nat.zero_le _, Nat.zero_le _⟩) hS (fun q _ h => hF1 q h) hF1 (fun σ28 t H locs ht hvm hpost hB hz1 hk1 hS => ?_)
        subst hpost
        obtain ⟨hP1, hK1, hD1⟩ := hB
        rw [ht] at hP1
        have hP := hP1
        have hD := hD1.weaken (fun _ _ _ h => hF1 _ h)
        refine lv_iconst (v := 1) hx hb d_O_cutAfter_31 (by decide) ?_
        have e9 := Prod.mk.inj (Option.some.inj hM)
        exact W.zret (ty := .boolean) (v := 1) hx hb hr rfl (fun t ht hW => ⟨⟨1, σ28, rfl, e9, by rw [ht]; exact hP, va_K.moved hW.alike hK, hD⟩, hS.F ht⟩) hS.2.2 d_O_cutAfter_32
      · rw [if_pos h18] at hM
        refine lv_iconst (v := 0) hx hb d_O_cutAfter_21 (by decide) ?_
        have e9 := Prod.mk.inj (Option.some.inj hM)
        exact W.zret (ty := .boolean) (v := 0) hx hb hr rfl (fun t ht hW => ⟨⟨0, σ, rfl, e9, by rw [ht]; exact hP, va_K.moved hW.alike hK, hD⟩, hS.F ht⟩) hS.2.2 d_O_cutAfter_22

theorem d_V_switchOn_0 : decode b_V_switchOn 0 = .ok (.aload_n 0, 1) := by decide +kernel
theorem d_V_switchOn_1 : decode b_V_switchOn 1 = .ok (.iconst 1, 1) := by decide +kernel
theorem d_V_switchOn_2 : decode b_V_switchOn 2 = .ok (.putfield 13, 3) := by decide +kernel
theorem d_V_switchOn_5 : decode b_V_switchOn 5 = .ok (.return_, 1) := by decide +kernel
def m_V_switchOn (N : Nat) (σ : SX) : Option (SX) :=
  some (w1 σ 5 1 1)

set_option maxHeartbeats 4000000 in
set_option maxRecDepth 100000 in
theorem c_V_switchOn (l : Launch) (dC : Nat → ClassId) (dI : Nat → Nat → Nat) (ad : Nat → Nat → Nat) (cs : Nat → ClassId) (sz N : Nat) (σ : SX) {σ0 : SX} (hM : m_V_switchOn N σ = some σ0) : Met l y_V_switchOn (wd y_V_switchOn b_V_switchOn 1 none) ({ frames := 0, cells := 0, slots := 0, locals := 0 }) (va_Pc [.ref (ad 5 0)] (preX dC dI ad cs sz σ)) (va_Qv (fun (u : SX) => u = σ0) (atX dC dI ad cs (va_A (wX ad cs σ) sz)) (va_A (wX ad cs σ) sz)) 0 0 (va_A (wX ad cs σ) sz) := by
  refine Met.ofW (cc := b_V_switchOn) (maxL := 1) (ret := none) (by decide) rfl ?_
  intro p e s m args below meth c s₁ B hml hv
  obtain ⟨rfl, hsz, hP, hK, hD0, hN⟩ := hv
  have hx := B.exec
  have hb := B.bytes
  have hr := B.returns
  have hts := atoms_spec (ws := (wd y_V_switchOn b_V_switchOn 1 none)) B.pre
  have htb : ∀ w ∈ tb, w.before _ s = true := fun w h => hts w (List.mem_cons_of_mem _ h)
  have hown : s.vm.findClass R_V = some m.cls := findClass_of_methodNamed B.named
  have hlocks := B.notSynchronized
  subst hsz
  have hD := hD0.self (sz := s.heap.size)
  generalize hAe : va_A (wX ad cs σ) s.heap.size = A at hD ⊢
  have hA : ∀ q : Nat, s.heap.size ≤ q → A q := fun q h => by rw [← hAe]; exact Or.inr h
  have hS : va_S A s.heap s.heap [] := va_S.rf
  have hP : va_P (dC, dI) classes (wX ad cs σ) s.heap := hP
  have hl := lv_entry ([.ref (ad 5 0)]) (n := 1) (Nat.le_of_ble_eq_true rfl)
  rw [lg_entry_eq]
  generalize (lg_sl ([.ref (ad 5 0)]) ++ List.replicate (1 - (lg_sl ([.ref (ad 5 0)])).length) Slot.unset).toArray = ls at hl ⊢
  have hl : lv_has ls 1 [(0, .ref (ad 5 0))] := hl
  rw [m_V_switchOn] at hM
  refine lv_aload_n hx hb d_V_switchOn_0 rfl (lv_at hl 0 rfl) ?_
  refine lv_iconst (v := 1) hx hb d_V_switchOn_1 (by decide) ?_
  refine va_put (D := (dC, dI)) (ci := 4) (v := .int 1) (ty := .boolean) (C := R_V) (T := F_V) (N := 4) hx hb htb in_V ft_V ft_V_ok n_V hown hK hP hD hS 15 (g_V) rfl 1 (by decide) (htb _ k_72) (fun _ h9 => h9) rfl (by decide +kernel) rfl rfl (Nat.le_of_ble_eq_true rfl) d_V_switchOn_2 (fun H locs hP hD hS => ?_)
  have hP := P_eq (s_V_1) hP
  have hD := D_eq (s_V_1) hD
  have e9 := Option.some.inj hM
  exact W.vret hx hb hr (fun t ht hW => ⟨⟨(w1 σ 5 1 1), rfl, e9, by rw [ht]; exact hP, va_K.moved hW.alike hK, hD⟩, hS.F ht⟩) hS.2.2 d_V_switchOn_5

theorem d_O_resume_0 : decode b_O_resume 0 = .ok (.aload_n 0, 1) := by decide +kernel
theorem d_O_resume_1 : decode b_O_resume 1 = .ok (.getfield 26, 3) := by decide +kernel
theorem d_O_resume_4 : decode b_O_resume 4 = .ok (.invokevirtual 118, 3) := by decide +kernel
theorem d_O_resume_7 : decode b_O_resume 7 = .ok (.ifCond .eq 5, 3) := by decide +kernel
theorem d_O_resume_10 : decode b_O_resume 10 = .ok (.iconst 0, 1) := by decide +kernel
theorem d_O_resume_11 : decode b_O_resume 11 = .ok (.ireturn, 1) := by decide +kernel
theorem d_O_resume_12 : decode b_O_resume 12 = .ok (.aload_n 0, 1) := by decide +kernel
theorem d_O_resume_13 : decode b_O_resume 13 = .ok (.getfield 26, 3) := by decide +kernel
theorem d_O_resume_16 : decode b_O_resume 16 = .ok (.invokevirtual 137, 3) := by decide +kernel
theorem d_O_resume_19 : decode b_O_resume 19 = .ok (.iconst 1, 1) := by decide +kernel
theorem d_O_resume_20 : decode b_O_resume 20 = .ok (.ireturn, 1) := by decide +kernel
def m_O_resume (N : Nat) (σ : SX) : Option (Int32 × SX) :=
  (bI (m_V_hasPower N σ) fun r4 σ4 => (if r4 = 0 then (bV (m_V_switchOn N σ) fun σ16 => some (1, σ16)) else some (0, σ)))

set_option maxHeartbeats 4000000 in
set_option maxRecDepth 100000 in
theorem c_O_resume (l : Launch) (dC : Nat → ClassId) (dI : Nat → Nat → Nat) (ad : Nat → Nat → Nat) (cs : Nat → ClassId) (sz N : Nat) (σ : SX) {r0 : Int32} {σ0 : SX} (hM : m_O_resume N σ = some (r0, σ0)) : Met l y_O_resume (wd y_O_resume b_O_resume 1 (some .boolean)) ({ frames := 1, cells := 0, slots := 0, locals := 20 }) (va_Pc [.ref (ad 0 0)] (preX dC dI ad cs sz σ)) (va_Qi (fun (r : Int32) (u : SX) => r = r0 ∧ u = σ0) (atX dC dI ad cs (va_A (wX ad cs σ) sz)) (va_A (wX ad cs σ) sz)) 0 0 (va_A (wX ad cs σ) sz) := by
  refine Met.ofW (cc := b_O_resume) (maxL := 1) (ret := (some .boolean)) (by decide) rfl ?_
  intro p e s m args below meth c s₁ B hml hv
  obtain ⟨rfl, hsz, hP, hK, hD0, hN⟩ := hv
  have hx := B.exec
  have hb := B.bytes
  have hr := B.returns
  have hts := atoms_spec (ws := (wd y_O_resume b_O_resume 1 (some .boolean))) B.pre
  have htb : ∀ w ∈ tb, w.before _ s = true := fun w h => hts w (List.mem_cons_of_mem _ h)
  have hown : s.vm.findClass R_O = some m.cls := findClass_of_methodNamed B.named
  have hlocks := B.notSynchronized
  subst hsz
  have hD := hD0.self (sz := s.heap.size)
  generalize hAe : va_A (wX ad cs σ) s.heap.size = A at hD ⊢
  have hA : ∀ q : Nat, s.heap.size ≤ q → A q := fun q h => by rw [← hAe]; exact Or.inr h
  have hS : va_S A s.heap s.heap [] := va_S.rf
  have hP : va_P (dC, dI) classes (wX ad cs σ) s.heap := hP
  have hl := lv_entry ([.ref (ad 0 0)]) (n := 1) (Nat.le_of_ble_eq_true rfl)
  rw [lg_entry_eq]
  generalize (lg_sl ([.ref (ad 0 0)]) ++ List.replicate (1 - (lg_sl ([.ref (ad 0 0)])).length) Slot.unset).toArray = ls at hl ⊢
  have hl : lv_has ls 1 [(0, .ref (ad 0 0))] := hl
  rw [m_O_resume] at hM
  refine lv_aload_n hx hb d_O_resume_0 rfl (lv_at hl 0 rfl) ?_
  refine va_get (D := (dC, dI)) (ci := 0) (v := .ref (ad 5 0)) (C := R_O) (T := F_O) (N := 12) hx hb htb in_O hown hK hP 0 (g_O) rfl 4 (by decide) (htb _ k_152) (fun _ h9 => h9) rfl d_O_resume_1 ?_
  obtain ⟨x4, y4, hq4, hM⟩ := bI_some hM
  refine va_calli (va_runV (As := []) (rest := []) ⟨hx, hb, hml, hown, hts⟩ (c_V_hasPower l dC dI ad cs _ N σ hq4) (cwV 0 hts (goodV k_213 k_214 k_215 k_4 k_216) rfl rfl rfl ⟨rfl, by decide, by decide, by decide +kernel⟩ ⟨Nat.le_of_ble_eq_true rfl, Nat.le_of_ble_eq_true rfl⟩) ⟨blindX, va_recv hK hP rfl (g_V), payX hP hK hD hN⟩ rfl rfl hl.1 rfl (lv_room (Nat.le_of_ble_eq_true rfl)) d_O_resume_4 ⟨Nat.zero_le _, Nat.zero_le _⟩) hS (fun q h0 h => absurd h0 (Nat.not_lt.mpr h)) (fun q h => hA q (Nat.le_trans hS.1 h)) (fun r4 u t H locs ht hvm hpost hB hz1 hk1 hS => ?_)
  obtain ⟨e1, e2⟩ := hpost
  subst e1
  subst e2
  have hP := keepP hP hk1
  refine lv_if_eq (tgt := 12) hx hb d_O_resume_7 (by decide) (fun h7 => ?_) (fun h7 => ?_)
  · rw [if_pos h7] at hM
    refine lv_aload_n hx hb d_O_resume_12 rfl (lv_at hl 0 rfl) ?_
    refine va_get (D := (dC, dI)) (ci := 0) (v := .ref (ad 5 0)) (C := R_O) (T := F_O) (N := 12) hx hb htb in_O hown hK hP 0 (g_O) rfl 4 (by decide) (htb _ k_152) (fun _ h9 => h9) rfl d_O_resume_13 ?_
    have hF1 := free_all hD hS hA
    obtain ⟨y16, hq16, hM⟩ := bV_some hM
    refine va_callv (va_runV (As := []) (rest := []) ⟨hx, hb, hml, hown, hts⟩ (c_V_switchOn l dC dI ad cs _ N σ hq16) (cwV 0 hts (goodV k_225 k_226 k_227 k_4 k_228) rfl rfl rfl ⟨rfl, by decide, by decide, by decide +kernel⟩ ⟨Nat.le_of_ble_eq_true rfl, Nat.le_of_ble_eq_true rfl⟩) ⟨blindX, va_recv hK hP rfl (g_V), payX hP hK hD hN⟩ rfl rfl hl.1 rfl (lv_room (Nat.le_of_ble_eq_true rfl)) d_O_resume_16 ⟨Nat.zero_le _, Nat.zero_le _⟩) hS (fun q _ h => hF1 q h) hF1 (fun σ16 t H locs ht hvm hpost hB hz1 hk1 hS => ?_)
    subst hpost
    obtain ⟨hP1, hK1, hD1⟩ := hB
    rw [ht] at hP1
    have hP := hP1
    have hD := hD1.weaken (fun _ _ _ h => hF1 _ h)
    refine lv_iconst (v := 1) hx hb d_O_resume_19 (by decide) ?_
    have e9 := Prod.mk.inj (Option.some.inj hM)
    exact W.zret (ty := .boolean) (v := 1) hx hb hr rfl (fun t ht hW => ⟨⟨1, σ16, rfl, e9, by rw [ht]; exact hP, va_K.moved hW.alike hK, hD⟩, hS.F ht⟩) hS.2.2 d_O_resume_20
  · rw [if_neg h7] at hM
    refine lv_iconst (v := 0) hx hb d_O_resume_10 (by decide) ?_
    have e9 := Prod.mk.inj (Option.some.inj hM)
    exact W.zret (ty := .boolean) (v := 0) hx hb hr rfl (fun t ht hW => ⟨⟨0, σ, rfl, e9, by rw [ht]; exact hP, va_K.moved hW.alike hK, hD⟩, hS.F ht⟩) hS.2.2 d_O_resume_11

theorem d_O_phase_0 : decode b_O_phase 0 = .ok (.aload_n 0, 1) := by decide +kernel
theorem d_O_phase_1 : decode b_O_phase 1 = .ok (.getfield 26, 3) := by decide +kernel
theorem d_O_phase_4 : decode b_O_phase 4 = .ok (.invokevirtual 118, 3) := by decide +kernel
theorem d_O_phase_7 : decode b_O_phase 7 = .ok (.ifCond .eq 10, 3) := by decide +kernel
theorem d_O_phase_10 : decode b_O_phase 10 = .ok (.aload_n 0, 1) := by decide +kernel
theorem d_O_phase_11 : decode b_O_phase 11 = .ok (.getfield 53, 3) := by decide +kernel
theorem d_O_phase_14 : decode b_O_phase 14 = .ok (.goto 9, 3) := by decide +kernel
theorem d_O_phase_17 : decode b_O_phase 17 = .ok (.aload_n 0, 1) := by decide +kernel
theorem d_O_phase_18 : decode b_O_phase 18 = .ok (.getfield 53, 3) := by decide +kernel
theorem d_O_phase_21 : decode b_O_phase 21 = .ok (.iconst 4, 1) := by decide +kernel
theorem d_O_phase_22 : decode b_O_phase 22 = .ok (.iadd, 1) := by decide +kernel
theorem d_O_phase_23 : decode b_O_phase 23 = .ok (.ireturn, 1) := by decide +kernel
def m_O_phase (N : Nat) (σ : SX) : Option (Int32 × SX) :=
  (bI (m_V_hasPower N σ) fun r4 σ4 => (if r4 = 0 then some ((((σ 0).1 0) + 4), σ) else some (((σ 0).1 0), σ)))

set_option maxHeartbeats 4000000 in
set_option maxRecDepth 100000 in
theorem c_O_phase (l : Launch) (dC : Nat → ClassId) (dI : Nat → Nat → Nat) (ad : Nat → Nat → Nat) (cs : Nat → ClassId) (sz N : Nat) (σ : SX) {r0 : Int32} {σ0 : SX} (hM : m_O_phase N σ = some (r0, σ0)) : Met l y_O_phase (wd y_O_phase b_O_phase 1 (some .int)) ({ frames := 1, cells := 0, slots := 0, locals := 20 }) (va_Pc [.ref (ad 0 0)] (preX dC dI ad cs sz σ)) (va_Qi (fun (r : Int32) (_ : Unit) => r = r0 ∧ σ = σ0) (fun _ _ => True) (fun q => sz ≤ q)) 0 0 (fun q => sz ≤ q) := by
  refine Met.ofW (cc := b_O_phase) (maxL := 1) (ret := (some .int)) (by decide) rfl ?_
  intro p e s m args below meth c s₁ B hml hv
  obtain ⟨rfl, hsz, hP, hK, hD0, hN⟩ := hv
  have hx := B.exec
  have hb := B.bytes
  have hr := B.returns
  have hts := atoms_spec (ws := (wd y_O_phase b_O_phase 1 (some .int))) B.pre
  have htb : ∀ w ∈ tb, w.before _ s = true := fun w h => hts w (List.mem_cons_of_mem _ h)
  have hown : s.vm.findClass R_O = some m.cls := findClass_of_methodNamed B.named
  have hlocks := B.notSynchronized
  subst hsz
  have hD := hD0
  have hA : ∀ q : Nat, s.heap.size ≤ q → s.heap.size ≤ q := fun q h => h
  have hS : va_S (fun q => s.heap.size ≤ q) s.heap s.heap [] := va_S.rf
  have hP : va_P (dC, dI) classes (wX ad cs σ) s.heap := hP
  have hl := lv_entry ([.ref (ad 0 0)]) (n := 1) (Nat.le_of_ble_eq_true rfl)
  rw [lg_entry_eq]
  generalize (lg_sl ([.ref (ad 0 0)]) ++ List.replicate (1 - (lg_sl ([.ref (ad 0 0)])).length) Slot.unset).toArray = ls at hl ⊢
  have hl : lv_has ls 1 [(0, .ref (ad 0 0))] := hl
  rw [m_O_phase] at hM
  refine lv_aload_n hx hb d_O_phase_0 rfl (lv_at hl 0 rfl) ?_
  refine va_get (D := (dC, dI)) (ci := 0) (v := .ref (ad 5 0)) (C := R_O) (T := F_O) (N := 12) hx hb htb in_O hown hK hP 0 (g_O) rfl 4 (by decide) (htb _ k_152) (fun _ h9 => h9) rfl d_O_phase_1 ?_
  obtain ⟨x4, y4, hq4, hM⟩ := bI_some hM
  refine va_calli (va_runV (As := []) (rest := []) ⟨hx, hb, hml, hown, hts⟩ (c_V_hasPower l dC dI ad cs _ N σ hq4) (cwV 0 hts (goodV k_213 k_214 k_215 k_4 k_216) rfl rfl rfl ⟨rfl, by decide, by decide, by decide +kernel⟩ ⟨Nat.le_of_ble_eq_true rfl, Nat.le_of_ble_eq_true rfl⟩) ⟨blindX, va_recv hK hP rfl (g_V), payX hP hK hD hN⟩ rfl rfl hl.1 rfl (lv_room (Nat.le_of_ble_eq_true rfl)) d_O_phase_4 ⟨Nat.zero_le _, Nat.zero_le _⟩) hS (fun q h0 h => absurd h0 (Nat.not_lt.mpr h)) (fun q h => hA q (Nat.le_trans hS.1 h)) (fun r4 u t H locs ht hvm hpost hB hz1 hk1 hS => ?_)
  obtain ⟨e1, e2⟩ := hpost
  subst e1
  subst e2
  have hP := keepP hP hk1
  refine lv_if_eq (tgt := 17) hx hb d_O_phase_7 (by decide) (fun h7 => ?_) (fun h7 => ?_)
  · rw [if_pos h7] at hM
    refine lv_aload_n hx hb d_O_phase_17 rfl (lv_at hl 0 rfl) ?_
    refine va_get (D := (dC, dI)) (ci := 0) (v := .int ((σ 0).1 0)) (C := R_O) (T := F_O) (N := 12) hx hb htb in_O hown hK hP 0 (g_O) rfl 10 (by decide) (htb _ k_158) (fun _ h9 => h9) rfl d_O_phase_18 ?_
    refine lv_iconst (v := 4) hx hb d_O_phase_21 (by decide) ?_
    refine lv_iadd hx hb d_O_phase_22 ?_
    have e9 := Prod.mk.inj (Option.some.inj hM)
    exact W.iret (v := (((σ 0).1 0) + 4)) hx hb hr (fun t ht hW => ⟨⟨(((σ 0).1 0) + 4), (), rfl, e9, trivial⟩, hS.F ht⟩) hS.2.2 d_O_phase_23
  · rw [if_neg h7] at hM
    refine lv_aload_n hx hb d_O_phase_10 rfl (lv_at hl 0 rfl) ?_
    refine va_get (D := (dC, dI)) (ci := 0) (v := .int ((σ 0).1 0)) (C := R_O) (T := F_O) (N := 12) hx hb htb in_O hown hK hP 0 (g_O) rfl 10 (by decide) (htb _ k_158) (fun _ h9 => h9) rfl d_O_phase_11 ?_
    refine lv_goto (tgt := 23) hx hb d_O_phase_14 (by decide) ?_
    have e9 := Prod.mk.inj (Option.some.inj hM)
    exact W.iret (v := ((σ 0).1 0)) hx hb hr (fun t ht hW => ⟨⟨((σ 0).1 0), (), rfl, e9, trivial⟩, hS.F ht⟩) hS.2.2 d_O_phase_23
