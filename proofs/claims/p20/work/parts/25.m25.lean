theorem d_M_isTape_0 : decode b_M_isTape 0 = .ok (.iload_n 0, 1) := by decide +kernel
theorem d_M_isTape_1 : decode b_M_isTape 1 = .ok (.ifCond .lt 12, 3) := by decide +kernel
theorem d_M_isTape_4 : decode b_M_isTape 4 = .ok (.iload_n 0, 1) := by decide +kernel
theorem d_M_isTape_5 : decode b_M_isTape 5 = .ok (.iconst 4, 1) := by decide +kernel
theorem d_M_isTape_6 : decode b_M_isTape 6 = .ok (.if_icmp .ge 7, 3) := by decide +kernel
theorem d_M_isTape_9 : decode b_M_isTape 9 = .ok (.iconst 1, 1) := by decide +kernel
theorem d_M_isTape_10 : decode b_M_isTape 10 = .ok (.goto 4, 3) := by decide +kernel
theorem d_M_isTape_13 : decode b_M_isTape 13 = .ok (.iconst 0, 1) := by decide +kernel
theorem d_M_isTape_14 : decode b_M_isTape 14 = .ok (.ireturn, 1) := by decide +kernel
def m_M_isTape (a0 : Int32) : Option Int32 :=
  (if a0 < 0 then some 0 else (if 4 ≤ a0 then some 0 else some 1))

set_option maxHeartbeats 4000000 in
set_option maxRecDepth 100000 in
theorem c_M_isTape (l : Launch) (sz : Nat) (a0 : Int32) {r0 : Int32} (hM : m_M_isTape a0 = some r0) : Met l y_M_isTape (wd y_M_isTape b_M_isTape 1 (some .boolean)) ({ frames := 0, cells := 0, slots := 0, locals := 0 }) (va_Pc [.int a0] (fun U => U.heap.size = sz)) (va_Qi (fun (r : Int32) (_ : Unit) => r = r0) (fun _ _ => True) (fun q => sz ≤ q)) 0 0 (fun q => sz ≤ q) := by
  refine Met.ofW (cc := b_M_isTape) (maxL := 1) (ret := (some .boolean)) (by decide) rfl ?_
  intro p e s m args below meth c s₁ B hml hv
  obtain ⟨rfl, hsz⟩ := hv
  have hx := B.exec
  have hb := B.bytes
  have hr := B.returns
  have hts := atoms_spec (ws := (wd y_M_isTape b_M_isTape 1 (some .boolean))) B.pre
  have htb : ∀ w ∈ tb, w.before _ s = true := fun w h => hts w (List.mem_cons_of_mem _ h)
  have hown : s.vm.findClass R_M = some m.cls := findClass_of_methodNamed B.named
  have hlocks := B.notSynchronized
  subst hsz
  have hS : va_S (fun q => s.heap.size ≤ q) s.heap s.heap [] := va_S.rf
  have hA : ∀ q : Nat, s.heap.size ≤ q → s.heap.size ≤ q := fun q h => h
  have hl := lv_entry ([.int a0]) (n := 1) (Nat.le_of_ble_eq_true rfl)
  rw [lg_entry_eq]
  generalize (lg_sl ([.int a0]) ++ List.replicate (1 - (lg_sl ([.int a0])).length) Slot.unset).toArray = ls at hl ⊢
  have hl : lv_has ls 1 [(0, .int a0)] := hl
  rw [m_M_isTape] at hM
  refine lv_iload_n hx hb d_M_isTape_0 rfl (lv_at hl 0 rfl) ?_
  refine lv_if_lt (tgt := 13) hx hb d_M_isTape_1 (by decide) (fun h1 => ?_) (fun h1 => ?_)
  · rw [if_pos h1] at hM
    refine lv_iconst (v := 0) hx hb d_M_isTape_13 (by decide) ?_
    have e9 := Option.some.inj hM
    exact W.zret (ty := .boolean) (v := 0) hx hb hr rfl (fun t ht hW => ⟨⟨0, (), rfl, e9, trivial⟩, hS.F ht⟩) hS.2.2 d_M_isTape_14
  · rw [if_neg h1] at hM
    refine lv_iload_n hx hb d_M_isTape_4 rfl (lv_at hl 0 rfl) ?_
    refine lv_iconst (v := 4) hx hb d_M_isTape_5 (by decide) ?_
    refine lv_icmp_ge (tgt := 13) hx hb d_M_isTape_6 (by decide) (fun h6 => ?_) (fun h6 => ?_)
    · rw [if_pos h6] at hM
      refine lv_iconst (v := 0) hx hb d_M_isTape_13 (by decide) ?_
      have e9 := Option.some.inj hM
      exact W.zret (ty := .boolean) (v := 0) hx hb hr rfl (fun t ht hW => ⟨⟨0, (), rfl, e9, trivial⟩, hS.F ht⟩) hS.2.2 d_M_isTape_14
    · rw [if_neg h6] at hM
      refine lv_iconst (v := 1) hx hb d_M_isTape_9 (by decide) ?_
      refine lv_goto (tgt := 14) hx hb d_M_isTape_10 (by decide) ?_
      have e9 := Option.some.inj hM
      exact W.zret (ty := .boolean) (v := 1) hx hb hr rfl (fun t ht hW => ⟨⟨1, (), rfl, e9, trivial⟩, hS.F ht⟩) hS.2.2 d_M_isTape_14

theorem d_M_fault_0 : decode b_M_fault 0 = .ok (.aload_n 0, 1) := by decide +kernel
theorem d_M_fault_1 : decode b_M_fault 1 = .ok (.iload_n 1, 1) := by decide +kernel
theorem d_M_fault_2 : decode b_M_fault 2 = .ok (.invokestatic 175, 3) := by decide +kernel
theorem d_M_fault_5 : decode b_M_fault 5 = .ok (.ifCond .eq 13, 3) := by decide +kernel
theorem d_M_fault_8 : decode b_M_fault 8 = .ok (.iload_n 2, 1) := by decide +kernel
theorem d_M_fault_9 : decode b_M_fault 9 = .ok (.ifCond .lt 9, 3) := by decide +kernel
theorem d_M_fault_12 : decode b_M_fault 12 = .ok (.iload_n 2, 1) := by decide +kernel
theorem d_M_fault_13 : decode b_M_fault 13 = .ok (.bipush 20, 2) := by decide +kernel
theorem d_M_fault_15 : decode b_M_fault 15 = .ok (.if_icmp .le 7, 3) := by decide +kernel
theorem d_M_fault_18 : decode b_M_fault 18 = .ok (.iconst 1, 1) := by decide +kernel
theorem d_M_fault_19 : decode b_M_fault 19 = .ok (.goto 4, 3) := by decide +kernel
theorem d_M_fault_22 : decode b_M_fault 22 = .ok (.iconst 0, 1) := by decide +kernel
theorem d_M_fault_23 : decode b_M_fault 23 = .ok (.putfield 70, 3) := by decide +kernel
theorem d_M_fault_26 : decode b_M_fault 26 = .ok (.aload_n 0, 1) := by decide +kernel
theorem d_M_fault_27 : decode b_M_fault 27 = .ok (.getfield 70, 3) := by decide +kernel
theorem d_M_fault_30 : decode b_M_fault 30 = .ok (.ifCond .le 5, 3) := by decide +kernel
theorem d_M_fault_33 : decode b_M_fault 33 = .ok (.iconst 0, 1) := by decide +kernel
theorem d_M_fault_34 : decode b_M_fault 34 = .ok (.ireturn, 1) := by decide +kernel
theorem d_M_fault_35 : decode b_M_fault 35 = .ok (.aload_n 0, 1) := by decide +kernel
theorem d_M_fault_36 : decode b_M_fault 36 = .ok (.getfield 27, 3) := by decide +kernel
theorem d_M_fault_39 : decode b_M_fault 39 = .ok (.iload_n 1, 1) := by decide +kernel
theorem d_M_fault_40 : decode b_M_fault 40 = .ok (.iaload, 1) := by decide +kernel
theorem d_M_fault_41 : decode b_M_fault 41 = .ok (.istore_n 3, 1) := by decide +kernel
theorem d_M_fault_42 : decode b_M_fault 42 = .ok (.aload_n 0, 1) := by decide +kernel
theorem d_M_fault_43 : decode b_M_fault 43 = .ok (.getfield 27, 3) := by decide +kernel
theorem d_M_fault_46 : decode b_M_fault 46 = .ok (.iload_n 1, 1) := by decide +kernel
theorem d_M_fault_47 : decode b_M_fault 47 = .ok (.iload_n 2, 1) := by decide +kernel
theorem d_M_fault_48 : decode b_M_fault 48 = .ok (.iastore, 1) := by decide +kernel
theorem d_M_fault_49 : decode b_M_fault 49 = .ok (.iload_n 3, 1) := by decide +kernel
theorem d_M_fault_50 : decode b_M_fault 50 = .ok (.ireturn, 1) := by decide +kernel
def m_M_fault_23 (N : Nat) (σ : SX) (v1 : Int32) (v2 : Int32) (s0 : Int32) : Option (Int32 × SX) :=
    (if (((w1 σ 0 0 s0) 0).1 0) ≤ 0 then (if inb v1 4 = true then (if inb v1 4 = true then some ((((w1 σ 0 0 s0) 0).2 4 v1.toNatClampNeg), (w3 (w1 σ 0 0 s0) 0 4 v1 v2)) else none) else none) else some (0, (w1 σ 0 0 s0)))

def m_M_fault_18 (N : Nat) (σ : SX) (v1 : Int32) (v2 : Int32) : Option (Int32 × SX) :=
    m_M_fault_23 N σ v1 v2 1

def m_M_fault (N : Nat) (σ : SX) (a1 : Int32) (a2 : Int32) : Option (Int32 × SX) :=
  (bP (m_M_isTape a1) fun r2 => (if r2 = 0 then m_M_fault_18 N σ a1 a2 else (if a2 < 0 then m_M_fault_18 N σ a1 a2 else (if a2 ≤ 20 then m_M_fault_23 N σ a1 a2 0 else m_M_fault_18 N σ a1 a2))))

set_option maxHeartbeats 4000000 in
set_option maxRecDepth 100000 in
theorem c_M_fault (l : Launch) (dC : Nat → ClassId) (dI : Nat → Nat → Nat) (ad : Nat → Nat → Nat) (cs : Nat → ClassId) (sz N : Nat) (σ : SX) (a1 : Int32) (a2 : Int32) {r0 : Int32} {σ0 : SX} (hM : m_M_fault N σ a1 a2 = some (r0, σ0)) : Met l y_M_fault (wd y_M_fault b_M_fault 4 (some .int)) ({ frames := 1, cells := 0, slots := 0, locals := 20 }) (va_Pc [.ref (ad 0 0), .int a1, .int a2] (preM dC dI ad cs sz σ)) (va_Qi (fun (r : Int32) (u : SX) => r = r0 ∧ u = σ0) (atM dC dI ad cs (va_A (wM ad cs σ) sz)) (va_A (wM ad cs σ) sz)) 0 0 (va_A (wM ad cs σ) sz) := by
  refine Met.ofW (cc := b_M_fault) (maxL := 4) (ret := (some .int)) (by decide) rfl ?_
  intro p e s m args below meth c s₁ B hml hv
  obtain ⟨rfl, hsz, hP, hK, hD0, hN⟩ := hv
  have hx := B.exec
  have hb := B.bytes
  have hr := B.returns
  have hts := atoms_spec (ws := (wd y_M_fault b_M_fault 4 (some .int))) B.pre
  have htb : ∀ w ∈ tb, w.before _ s = true := fun w h => hts w (List.mem_cons_of_mem _ h)
  have hown : s.vm.findClass R_M = some m.cls := findClass_of_methodNamed B.named
  have hlocks := B.notSynchronized
  subst hsz
  have hD := hD0.self (sz := s.heap.size)
  generalize hAe : va_A (wM ad cs σ) s.heap.size = A at hD ⊢
  have hA : ∀ q : Nat, s.heap.size ≤ q → A q := fun q h => by rw [← hAe]; exact Or.inr h
  have hS : va_S A s.heap s.heap [] := va_S.rf
  have hP : va_P (dC, dI) classes (wM ad cs σ) s.heap := hP
  have hl := lv_entry ([.ref (ad 0 0), .int a1, .int a2]) (n := 4) (Nat.le_of_ble_eq_true rfl)
  rw [lg_entry_eq]
  generalize (lg_sl ([.ref (ad 0 0), .int a1, .int a2]) ++ List.replicate (4 - (lg_sl ([.ref (ad 0 0), .int a1, .int a2])).length) Slot.unset).toArray = ls at hl ⊢
  have hl : lv_has ls 4 [(0, .ref (ad 0 0)), (1, .int a1), (2, .int a2)] := hl
  rw [m_M_fault] at hM
  refine W_cut (pc := 23) (fun H locs ls st => ∃ (σ : SX) (v1 : Int32) (v2 : Int32) (s0 : Int32), st = [.int s0, .ref (ad 0 0)] ∧ m_M_fault_23 N σ v1 v2 s0 = some (r0, σ0) ∧ lv_has ls 4 [(0, .ref (ad 0 0)), (1, .int v1), (2, .int v2)] ∧ va_P (dC, dI) classes (wM ad cs σ) H ∧ va_D A (wM ad cs σ) ∧ va_S A s.heap H locs) ?_ ?_
  · intro H locs ls st hI
    obtain ⟨σ, v1, v2, s0, rfl, hM, hl, hP, hD, hS⟩ := hI
    rw [m_M_fault_23] at hM
    refine va_put (D := (dC, dI)) (ci := 7) (v := .int s0) (ty := .int) (C := R_M) (T := F_M) (N := 33) hx hb htb in_M ft_M ft_M_ok n_M hown hK hP hD hS 0 (g_M) rfl 0 (by decide) (htb _ k_619) (fun _ h9 => h9) rfl (by decide +kernel) rfl rfl (Nat.le_of_ble_eq_true rfl) d_M_fault_23 (fun H locs hP hD hS => ?_)
    have hP := P_eq (s_M_0) hP
    have hD := D_eq (s_M_0) hD
    refine lv_aload_n hx hb d_M_fault_26 rfl (lv_at hl 0 rfl) ?_
    refine va_get (D := (dC, dI)) (ci := 7) (v := .int (((w1 σ 0 0 s0) 0).1 0)) (C := R_M) (T := F_M) (N := 33) hx hb htb in_M hown hK hP 0 (g_M) rfl 0 (by decide) (htb _ k_619) (fun _ h9 => h9) rfl d_M_fault_27 ?_
    refine lv_if_le (tgt := 35) hx hb d_M_fault_30 (by decide) (fun h30 => ?_) (fun h30 => ?_)
    · rw [if_pos h30] at hM
      refine lv_aload_n hx hb d_M_fault_35 rfl (lv_at hl 0 rfl) ?_
      refine va_get (D := (dC, dI)) (ci := 7) (v := .ref (ad 0 4)) (C := R_M) (T := F_M) (N := 33) hx hb htb in_M hown hK hP 0 (g_M) rfl 12 (by decide) (htb _ k_631) (fun _ h9 => h9) rfl d_M_fault_36 ?_
      refine lv_iload_n hx hb d_M_fault_39 rfl (lv_at hl 1 rfl) ?_
      have hg40 := gd_c hM
      have hM := gd_v hM
      refine va_iald hx hb hK hP 4 0 (g_M_a4) rfl (inb_in hg40) d_M_fault_40 ?_
      refine lv_istore_n hx hb d_M_fault_41 rfl hl (by decide) (lv' := [(3, .int (((w1 σ 0 0 s0) 0).2 4 v1.toNatClampNeg)), (0, .ref (ad 0 0)), (1, .int v1), (2, .int v2)]) rfl (fun ls hl => ?_)
      refine lv_aload_n hx hb d_M_fault_42 rfl (lv_at hl 1 rfl) ?_
      refine va_get (D := (dC, dI)) (ci := 7) (v := .ref (ad 0 4)) (C := R_M) (T := F_M) (N := 33) hx hb htb in_M hown hK hP 0 (g_M) rfl 12 (by decide) (htb _ k_631) (fun _ h9 => h9) rfl d_M_fault_43 ?_
      refine lv_iload_n hx hb d_M_fault_46 rfl (lv_at hl 2 rfl) ?_
      refine lv_iload_n hx hb d_M_fault_47 rfl (lv_at hl 3 rfl) ?_
      have hg48 := gd_c hM
      have hM := gd_v hM
      refine va_iast (i := v1) (x := v2) hx hb hK hP hD hS 4 0 (g_M_a4) rfl (inb_in hg48) d_M_fault_48 (fun H locs hP hD hS => ?_)
      have hP := P_eq (t_M_4) hP
      have hD := D_eq (t_M_4) hD
      refine lv_iload_n hx hb d_M_fault_49 rfl (lv_at hl 0 rfl) ?_
      have e9 := Prod.mk.inj (Option.some.inj hM)
      exact W.iret (v := (((w1 σ 0 0 s0) 0).2 4 v1.toNatClampNeg)) hx hb hr (fun t ht hW => ⟨⟨(((w1 σ 0 0 s0) 0).2 4 v1.toNatClampNeg), (w3 (w1 σ 0 0 s0) 0 4 v1 v2), rfl, e9, by rw [ht]; exact hP, va_K.moved hW.alike hK, hD⟩, hS.F ht⟩) hS.2.2 d_M_fault_50
    · rw [if_neg h30] at hM
      refine lv_iconst (v := 0) hx hb d_M_fault_33 (by decide) ?_
      have e9 := Prod.mk.inj (Option.some.inj hM)
      exact W.iret (v := 0) hx hb hr (fun t ht hW => ⟨⟨0, (w1 σ 0 0 s0), rfl, e9, by rw [ht]; exact hP, va_K.moved hW.alike hK, hD⟩, hS.F ht⟩) hS.2.2 d_M_fault_34
  intro K23
  refine W_cut (pc := 18) (fun H locs ls st => ∃ (σ : SX) (v1 : Int32) (v2 : Int32), st = [.ref (ad 0 0)] ∧ m_M_fault_18 N σ v1 v2 = some (r0, σ0) ∧ lv_has ls 4 [(0, .ref (ad 0 0)), (1, .int v1), (2, .int v2)] ∧ va_P (dC, dI) classes (wM ad cs σ) H ∧ va_D A (wM ad cs σ) ∧ va_S A s.heap H locs) ?_ ?_
  · intro H locs ls st hI
    obtain ⟨σ, v1, v2, rfl, hM, hl, hP, hD, hS⟩ := hI
    rw [m_M_fault_18] at hM
    refine lv_iconst (v := 1) hx hb d_M_fault_18 (by decide) ?_
    refine lv_goto (tgt := 23) hx hb d_M_fault_19 (by decide) ?_
    exact K23 _ _ _ _ ⟨σ, v1, v2, 1, rfl, hM, lv_sub hl [0, 1, 2] rfl, hP, hD, hS⟩
  intro K18
  refine lv_aload_n hx hb d_M_fault_0 rfl (lv_at hl 0 rfl) ?_
  refine lv_iload_n hx hb d_M_fault_1 rfl (lv_at hl 1 rfl) ?_
  obtain ⟨x2, hq2, hM⟩ := bP_some hM
  refine va_calli (va_runS (As := [.int a1]) (rest := [.ref (ad 0 0)]) ⟨hx, hb, hml, hown, hts⟩ (c_M_isTape l _ a1 hq2) (cwS 1 hts (goodS k_823 k_824 k_8 k_825) rfl rfl rfl ⟨rfl, by decide, by decide, by decide +kernel⟩ ⟨Nat.le_of_ble_eq_true rfl, Nat.le_of_ble_eq_true rfl⟩) ⟨blindS, payS⟩ rfl rfl hl.1 rfl (lv_room (Nat.le_of_ble_eq_true rfl)) d_M_fault_2 ⟨Nat.zero_le _, Nat.zero_le _⟩) hS (fun q h0 h => absurd h0 (Nat.not_lt.mpr h)) (fun q h => hA q (Nat.le_trans hS.1 h)) (fun r2 u t H locs ht hvm hpost hB hz1 hk1 hS => ?_)
  subst hpost
  have hP := keepP hP hk1
  refine lv_if_eq (tgt := 18) hx hb d_M_fault_5 (by decide) (fun h5 => ?_) (fun h5 => ?_)
  · rw [if_pos h5] at hM
    exact K18 _ _ _ _ ⟨σ, a1, a2, rfl, hM, lv_sub hl [0, 1, 2] rfl, hP, hD, hS⟩
  · rw [if_neg h5] at hM
    refine lv_iload_n hx hb d_M_fault_8 rfl (lv_at hl 2 rfl) ?_
    refine lv_if_lt (tgt := 18) hx hb d_M_fault_9 (by decide) (fun h9 => ?_) (fun h9 => ?_)
    · rw [if_pos h9] at hM
      exact K18 _ _ _ _ ⟨σ, a1, a2, rfl, hM, lv_sub hl [0, 1, 2] rfl, hP, hD, hS⟩
    · rw [if_neg h9] at hM
      refine lv_iload_n hx hb d_M_fault_12 rfl (lv_at hl 2 rfl) ?_
      refine lv_bipush (v := 20) hx hb d_M_fault_13 (by decide) ?_
      refine lv_icmp_le (tgt := 22) hx hb d_M_fault_15 (by decide) (fun h15 => ?_) (fun h15 => ?_)
      · rw [if_pos h15] at hM
        refine lv_iconst (v := 0) hx hb d_M_fault_22 (by decide) ?_
        exact K23 _ _ _ _ ⟨σ, a1, a2, 0, rfl, hM, lv_sub hl [0, 1, 2] rfl, hP, hD, hS⟩
      · rw [if_neg h15] at hM
        exact K18 _ _ _ _ ⟨σ, a1, a2, rfl, hM, lv_sub hl [0, 1, 2] rfl, hP, hD, hS⟩

theorem d_M_cutAfter_0 : decode b_M_cutAfter 0 = .ok (.aload_n 0, 1) := by decide +kernel
theorem d_M_cutAfter_1 : decode b_M_cutAfter 1 = .ok (.iconst 0, 1) := by decide +kernel
theorem d_M_cutAfter_2 : decode b_M_cutAfter 2 = .ok (.putfield 70, 3) := by decide +kernel
theorem d_M_cutAfter_5 : decode b_M_cutAfter 5 = .ok (.iload_n 1, 1) := by decide +kernel
theorem d_M_cutAfter_6 : decode b_M_cutAfter 6 = .ok (.ifCond .lt 17, 3) := by decide +kernel
theorem d_M_cutAfter_9 : decode b_M_cutAfter 9 = .ok (.iload_n 1, 1) := by decide +kernel
theorem d_M_cutAfter_10 : decode b_M_cutAfter 10 = .ok (.sipush 1000, 3) := by decide +kernel
theorem d_M_cutAfter_13 : decode b_M_cutAfter 13 = .ok (.if_icmp .gt 10, 3) := by decide +kernel
theorem d_M_cutAfter_16 : decode b_M_cutAfter 16 = .ok (.aload_n 0, 1) := by decide +kernel
theorem d_M_cutAfter_17 : decode b_M_cutAfter 17 = .ok (.getfield 19, 3) := by decide +kernel
theorem d_M_cutAfter_20 : decode b_M_cutAfter 20 = .ok (.ifCond .ne 5, 3) := by decide +kernel
theorem d_M_cutAfter_23 : decode b_M_cutAfter 23 = .ok (.iconst 0, 1) := by decide +kernel
theorem d_M_cutAfter_24 : decode b_M_cutAfter 24 = .ok (.ireturn, 1) := by decide +kernel
theorem d_M_cutAfter_25 : decode b_M_cutAfter 25 = .ok (.aload_n 0, 1) := by decide +kernel
theorem d_M_cutAfter_26 : decode b_M_cutAfter 26 = .ok (.iload_n 1, 1) := by decide +kernel
theorem d_M_cutAfter_27 : decode b_M_cutAfter 27 = .ok (.putfield 23, 3) := by decide +kernel
theorem d_M_cutAfter_30 : decode b_M_cutAfter 30 = .ok (.iconst 1, 1) := by decide +kernel
theorem d_M_cutAfter_31 : decode b_M_cutAfter 31 = .ok (.ireturn, 1) := by decide +kernel
def m_M_cutAfter (N : Nat) (σ : SX) (a1 : Int32) : Option (Int32 × SX) :=
  (if a1 < 0 then some (0, (w1 σ 0 0 0)) else (if 1000 < a1 then some (0, (w1 σ 0 0 0)) else (if (((w1 σ 0 0 0) 0).1 5) = 0 then some (0, (w1 σ 0 0 0)) else some (1, (w1 (w1 σ 0 0 0) 0 6 a1)))))

set_option maxHeartbeats 4000000 in
set_option maxRecDepth 100000 in
theorem c_M_cutAfter (l : Launch) (dC : Nat → ClassId) (dI : Nat → Nat → Nat) (ad : Nat → Nat → Nat) (cs : Nat → ClassId) (sz N : Nat) (σ : SX) (a1 : Int32) {r0 : Int32} {σ0 : SX} (hM : m_M_cutAfter N σ a1 = some (r0, σ0)) : Met l y_M_cutAfter (wd y_M_cutAfter b_M_cutAfter 2 (some .boolean)) ({ frames := 0, cells := 0, slots := 0, locals := 0 }) (va_Pc [.ref (ad 0 0), .int a1] (preM dC dI ad cs sz σ)) (va_Qi (fun (r : Int32) (u : SX) => r = r0 ∧ u = σ0) (atM dC dI ad cs (va_A (wM ad cs σ) sz)) (va_A (wM ad cs σ) sz)) 0 0 (va_A (wM ad cs σ) sz) := by
  refine Met.ofW (cc := b_M_cutAfter) (maxL := 2) (ret := (some .boolean)) (by decide) rfl ?_
  intro p e s m args below meth c s₁ B hml hv
  obtain ⟨rfl, hsz, hP, hK, hD0, hN⟩ := hv
  have hx := B.exec
  have hb := B.bytes
  have hr := B.returns
  have hts := atoms_spec (ws := (wd y_M_cutAfter b_M_cutAfter 2 (some .boolean))) B.pre
  have htb : ∀ w ∈ tb, w.before _ s = true := fun w h => hts w (List.mem_cons_of_mem _ h)
  have hown : s.vm.findClass R_M = some m.cls := findClass_of_methodNamed B.named
  have hlocks := B.notSynchronized
  subst hsz
  have hD := hD0.self (sz := s.heap.size)
  generalize hAe : va_A (wM ad cs σ) s.heap.size = A at hD ⊢
  have hA : ∀ q : Nat, s.heap.size ≤ q → A q := fun q h => by rw [← hAe]; exact Or.inr h
  have hS : va_S A s.heap s.heap [] := va_S.rf
  have hP : va_P (dC, dI) classes (wM ad cs σ) s.heap := hP
  have hl := lv_entry ([.ref (ad 0 0), .int a1]) (n := 2) (Nat.le_of_ble_eq_true rfl)
  rw [lg_entry_eq]
  generalize (lg_sl ([.ref (ad 0 0), .int a1]) ++ List.replicate (2 - (lg_sl ([.ref (ad 0 0), .int a1])).length) Slot.unset).toArray = ls at hl ⊢
  have hl : lv_has ls 2 [(0, .ref (ad 0 0)), (1, .int a1)] := hl
  rw [m_M_cutAfter] at hM
  refine lv_aload_n hx hb d_M_cutAfter_0 rfl (lv_at hl 0 rfl) ?_
  refine lv_iconst (v := 0) hx hb d_M_cutAfter_1 (by decide) ?_
  refine va_put (D := (dC, dI)) (ci := 7) (v := .int 0) (ty := .int) (C := R_M) (T := F_M) (N := 33) hx hb htb in_M ft_M ft_M_ok n_M hown hK hP hD hS 0 (g_M) rfl 0 (by decide) (htb _ k_619) (fun _ h9 => h9) rfl (by decide +kernel) rfl rfl (Nat.le_of_ble_eq_true rfl) d_M_cutAfter_2 (fun H locs hP hD hS => ?_)
  have hP := P_eq (s_M_0) hP
  have hD := D_eq (s_M_0) hD
  refine lv_iload_n hx hb d_M_cutAfter_5 rfl (lv_at hl 1 rfl) ?_
  refine lv_if_lt (tgt := 23) hx hb d_M_cutAfter_6 (by decide) (fun h6 => ?_) (fun h6 => ?_)
  · rw [if_pos h6] at hM
    refine lv_iconst (v := 0) hx hb d_M_cutAfter_23 (by decide) ?_
    have e9 := Prod.mk.inj (Option.some.inj hM)
    exact W.zret (ty := .boolean) (v := 0) hx hb hr rfl (fun t ht hW => ⟨⟨0, (w1 σ 0 0 0), rfl, e9, by rw [ht]; exact hP, va_K.moved hW.alike hK, hD⟩, hS.F ht⟩) hS.2.2 d_M_cutAfter_24
  · rw [if_neg h6] at hM
    refine lv_iload_n hx hb d_M_cutAfter_9 rfl (lv_at hl 1 rfl) ?_
    refine lv_sipush (v := 1000) hx hb d_M_cutAfter_10 (by decide) ?_
    refine lv_icmp_gt (tgt := 23) hx hb d_M_cutAfter_13 (by decide) (fun h13 => ?_) (fun h13 => ?_)
    · rw [if_pos h13] at hM
      refine lv_iconst (v := 0) hx hb d_M_cutAfter_23 (by decide) ?_
      have e9 := Prod.mk.inj (Option.some.inj hM)
      exact W.zret (ty := .boolean) (v := 0) hx hb hr rfl (fun t ht hW => ⟨⟨0, (w1 σ 0 0 0), rfl, e9, by rw [ht]; exact hP, va_K.moved hW.alike hK, hD⟩, hS.F ht⟩) hS.2.2 d_M_cutAfter_24
    · rw [if_neg h13] at hM
      refine lv_aload_n hx hb d_M_cutAfter_16 rfl (lv_at hl 0 rfl) ?_
      refine va_get (D := (dC, dI)) (ci := 7) (v := .int (((w1 σ 0 0 0) 0).1 5)) (C := R_M) (T := F_M) (N := 33) hx hb htb in_M hown hK hP 0 (g_M) rfl 8 (by decide) (htb _ k_627) (fun _ h9 => h9) rfl d_M_cutAfter_17 ?_
      refine lv_if_ne (tgt := 25) hx hb d_M_cutAfter_20 (by decide) (fun h20 => ?_) (fun h20 => ?_)
      · rw [if_neg h20] at hM
        refine lv_aload_n hx hb d_M_cutAfter_25 rfl (lv_at hl 0 rfl) ?_
        refine lv_iload_n hx hb d_M_cutAfter_26 rfl (lv_at hl 1 rfl) ?_
        refine va_put (D := (dC, dI)) (ci := 7) (v := .int a1) (ty := .int) (C := R_M) (T := F_M) (N := 33) hx hb htb in_M ft_M ft_M_ok n_M hown hK hP hD hS 0 (g_M) rfl 9 (by decide) (htb _ k_628) (fun _ h9 => h9) rfl (by decide +kernel) rfl rfl (Nat.le_of_ble_eq_true rfl) d_M_cutAfter_27 (fun H locs hP hD hS => ?_)
        have hP := P_eq (s_M_6) hP
        have hD := D_eq (s_M_6) hD
        refine lv_iconst (v := 1) hx hb d_M_cutAfter_30 (by decide) ?_
        have e9 := Prod.mk.inj (Option.some.inj hM)
        exact W.zret (ty := .boolean) (v := 1) hx hb hr rfl (fun t ht hW => ⟨⟨1, (w1 (w1 σ 0 0 0) 0 6 a1), rfl, e9, by rw [ht]; exact hP, va_K.moved hW.alike hK, hD⟩, hS.F ht⟩) hS.2.2 d_M_cutAfter_31
      · rw [if_pos h20] at hM
        refine lv_iconst (v := 0) hx hb d_M_cutAfter_23 (by decide) ?_
        have e9 := Prod.mk.inj (Option.some.inj hM)
        exact W.zret (ty := .boolean) (v := 0) hx hb hr rfl (fun t ht hW => ⟨⟨0, (w1 σ 0 0 0), rfl, e9, by rw [ht]; exact hP, va_K.moved hW.alike hK, hD⟩, hS.F ht⟩) hS.2.2 d_M_cutAfter_24

theorem d_M_resume_0 : decode b_M_resume 0 = .ok (.aload_n 0, 1) := by decide +kernel
theorem d_M_resume_1 : decode b_M_resume 1 = .ok (.iconst 0, 1) := by decide +kernel
theorem d_M_resume_2 : decode b_M_resume 2 = .ok (.putfield 70, 3) := by decide +kernel
theorem d_M_resume_5 : decode b_M_resume 5 = .ok (.aload_n 0, 1) := by decide +kernel
theorem d_M_resume_6 : decode b_M_resume 6 = .ok (.getfield 19, 3) := by decide +kernel
theorem d_M_resume_9 : decode b_M_resume 9 = .ok (.ifCond .eq 5, 3) := by decide +kernel
theorem d_M_resume_12 : decode b_M_resume 12 = .ok (.iconst 0, 1) := by decide +kernel
theorem d_M_resume_13 : decode b_M_resume 13 = .ok (.ireturn, 1) := by decide +kernel
theorem d_M_resume_14 : decode b_M_resume 14 = .ok (.aload_n 0, 1) := by decide +kernel
theorem d_M_resume_15 : decode b_M_resume 15 = .ok (.iconst 1, 1) := by decide +kernel
theorem d_M_resume_16 : decode b_M_resume 16 = .ok (.putfield 19, 3) := by decide +kernel
theorem d_M_resume_19 : decode b_M_resume 19 = .ok (.iconst 1, 1) := by decide +kernel
theorem d_M_resume_20 : decode b_M_resume 20 = .ok (.ireturn, 1) := by decide +kernel
def m_M_resume (N : Nat) (σ : SX) : Option (Int32 × SX) :=
  (if (((w1 σ 0 0 0) 0).1 5) = 0 then some (1, (w1 (w1 σ 0 0 0) 0 5 1)) else some (0, (w1 σ 0 0 0)))

set_option maxHeartbeats 4000000 in
set_option maxRecDepth 100000 in
theorem c_M_resume (l : Launch) (dC : Nat → ClassId) (dI : Nat → Nat → Nat) (ad : Nat → Nat → Nat) (cs : Nat → ClassId) (sz N : Nat) (σ : SX) {r0 : Int32} {σ0 : SX} (hM : m_M_resume N σ = some (r0, σ0)) : Met l y_M_resume (wd y_M_resume b_M_resume 1 (some .boolean)) ({ frames := 0, cells := 0, slots := 0, locals := 0 }) (va_Pc [.ref (ad 0 0)] (preM dC dI ad cs sz σ)) (va_Qi (fun (r : Int32) (u : SX) => r = r0 ∧ u = σ0) (atM dC dI ad cs (va_A (wM ad cs σ) sz)) (va_A (wM ad cs σ) sz)) 0 0 (va_A (wM ad cs σ) sz) := by
  refine Met.ofW (cc := b_M_resume) (maxL := 1) (ret := (some .boolean)) (by decide) rfl ?_
  intro p e s m args below meth c s₁ B hml hv
  obtain ⟨rfl, hsz, hP, hK, hD0, hN⟩ := hv
  have hx := B.exec
  have hb := B.bytes
  have hr := B.returns
  have hts := atoms_spec (ws := (wd y_M_resume b_M_resume 1 (some .boolean))) B.pre
  have htb : ∀ w ∈ tb, w.before _ s = true := fun w h => hts w (List.mem_cons_of_mem _ h)
  have hown : s.vm.findClass R_M = some m.cls := findClass_of_methodNamed B.named
  have hlocks := B.notSynchronized
  subst hsz
  have hD := hD0.self (sz := s.heap.size)
  generalize hAe : va_A (wM ad cs σ) s.heap.size = A at hD ⊢
  have hA : ∀ q : Nat, s.heap.size ≤ q → A q := fun q h => by rw [← hAe]; exact Or.inr h
  have hS : va_S A s.heap s.heap [] := va_S.rf
  have hP : va_P (dC, dI) classes (wM ad cs σ) s.heap := hP
  have hl := lv_entry ([.ref (ad 0 0)]) (n := 1) (Nat.le_of_ble_eq_true rfl)
  rw [lg_entry_eq]
  generalize (lg_sl ([.ref (ad 0 0)]) ++ List.replicate (1 - (lg_sl ([.ref (ad 0 0)])).length) Slot.unset).toArray = ls at hl ⊢
  have hl : lv_has ls 1 [(0, .ref (ad 0 0))] := hl
  rw [m_M_resume] at hM
  refine lv_aload_n hx hb d_M_resume_0 rfl (lv_at hl 0 rfl) ?_
  refine lv_iconst (v := 0) hx hb d_M_resume_1 (by decide) ?_
  refine va_put (D := (dC, dI)) (ci := 7) (v := .int 0) (ty := .int) (C := R_M) (T := F_M) (N := 33) hx hb htb in_M ft_M ft_M_ok n_M hown hK hP hD hS 0 (g_M) rfl 0 (by decide) (htb _ k_619) (fun _ h9 => h9) rfl (by decide +kernel) rfl rfl (Nat.le_of_ble_eq_true rfl) d_M_resume_2 (fun H locs hP hD hS => ?_)
  have hP := P_eq (s_M_0) hP
  have hD := D_eq (s_M_0) hD
  refine lv_aload_n hx hb d_M_resume_5 rfl (lv_at hl 0 rfl) ?_
  refine va_get (D := (dC, dI)) (ci := 7) (v := .int (((w1 σ 0 0 0) 0).1 5)) (C := R_M) (T := F_M) (N := 33) hx hb htb in_M hown hK hP 0 (g_M) rfl 8 (by decide) (htb _ k_627) (fun _ h9 => h9) rfl d_M_resume_6 ?_
  refine lv_if_eq (tgt := 14) hx hb d_M_resume_9 (by decide) (fun h9 => ?_) (fun h9 => ?_)
  · rw [if_pos h9] at hM
    refine lv_aload_n hx hb d_M_resume_14 rfl (lv_at hl 0 rfl) ?_
    refine lv_iconst (v := 1) hx hb d_M_resume_15 (by decide) ?_
    refine va_put (D := (dC, dI)) (ci := 7) (v := .int 1) (ty := .boolean) (C := R_M) (T := F_M) (N := 33) hx hb htb in_M ft_M ft_M_ok n_M hown hK hP hD hS 0 (g_M) rfl 8 (by decide) (htb _ k_627) (fun _ h9 => h9) rfl (by decide +kernel) rfl rfl (Nat.le_of_ble_eq_true rfl) d_M_resume_16 (fun H locs hP hD hS => ?_)
    have hP := P_eq (s_M_5) hP
    have hD := D_eq (s_M_5) hD
    refine lv_iconst (v := 1) hx hb d_M_resume_19 (by decide) ?_
    have e9 := Prod.mk.inj (Option.some.inj hM)
    exact W.zret (ty := .boolean) (v := 1) hx hb hr rfl (fun t ht hW => ⟨⟨1, (w1 (w1 σ 0 0 0) 0 5 1), rfl, e9, by rw [ht]; exact hP, va_K.moved hW.alike hK, hD⟩, hS.F ht⟩) hS.2.2 d_M_resume_20
  · rw [if_neg h9] at hM
    refine lv_iconst (v := 0) hx hb d_M_resume_12 (by decide) ?_
    have e9 := Prod.mk.inj (Option.some.inj hM)
    exact W.zret (ty := .boolean) (v := 0) hx hb hr rfl (fun t ht hW => ⟨⟨0, (w1 σ 0 0 0), rfl, e9, by rw [ht]; exact hP, va_K.moved hW.alike hK, hD⟩, hS.F ht⟩) hS.2.2 d_M_resume_13

theorem d_M_phase_0 : decode b_M_phase 0 = .ok (.aload_n 0, 1) := by decide +kernel
theorem d_M_phase_1 : decode b_M_phase 1 = .ok (.iconst 0, 1) := by decide +kernel
theorem d_M_phase_2 : decode b_M_phase 2 = .ok (.putfield 70, 3) := by decide +kernel
theorem d_M_phase_5 : decode b_M_phase 5 = .ok (.aload_n 0, 1) := by decide +kernel
theorem d_M_phase_6 : decode b_M_phase 6 = .ok (.getfield 19, 3) := by decide +kernel
theorem d_M_phase_9 : decode b_M_phase 9 = .ok (.ifCond .eq 10, 3) := by decide +kernel
theorem d_M_phase_12 : decode b_M_phase 12 = .ok (.aload_n 0, 1) := by decide +kernel
theorem d_M_phase_13 : decode b_M_phase 13 = .ok (.getfield 73, 3) := by decide +kernel
theorem d_M_phase_16 : decode b_M_phase 16 = .ok (.goto 9, 3) := by decide +kernel
theorem d_M_phase_19 : decode b_M_phase 19 = .ok (.aload_n 0, 1) := by decide +kernel
theorem d_M_phase_20 : decode b_M_phase 20 = .ok (.getfield 73, 3) := by decide +kernel
theorem d_M_phase_23 : decode b_M_phase 23 = .ok (.iconst 4, 1) := by decide +kernel
theorem d_M_phase_24 : decode b_M_phase 24 = .ok (.iadd, 1) := by decide +kernel
theorem d_M_phase_25 : decode b_M_phase 25 = .ok (.ireturn, 1) := by decide +kernel
def m_M_phase (N : Nat) (σ : SX) : Option (Int32 × SX) :=
  (if (((w1 σ 0 0 0) 0).1 5) = 0 then some (((((w1 σ 0 0 0) 0).1 4) + 4), (w1 σ 0 0 0)) else some ((((w1 σ 0 0 0) 0).1 4), (w1 σ 0 0 0)))

set_option maxHeartbeats 4000000 in
set_option maxRecDepth 100000 in
theorem c_M_phase (l : Launch) (dC : Nat → ClassId) (dI : Nat → Nat → Nat) (ad : Nat → Nat → Nat) (cs : Nat → ClassId) (sz N : Nat) (σ : SX) {r0 : Int32} {σ0 : SX} (hM : m_M_phase N σ = some (r0, σ0)) : Met l y_M_phase (wd y_M_phase b_M_phase 1 (some .int)) ({ frames := 0, cells := 0, slots := 0, locals := 0 }) (va_Pc [.ref (ad 0 0)] (preM dC dI ad cs sz σ)) (va_Qi (fun (r : Int32) (u : SX) => r = r0 ∧ u = σ0) (atM dC dI ad cs (va_A (wM ad cs σ) sz)) (va_A (wM ad cs σ) sz)) 0 0 (va_A (wM ad cs σ) sz) := by
  refine Met.ofW (cc := b_M_phase) (maxL := 1) (ret := (some .int)) (by decide) rfl ?_
  intro p e s m args below meth c s₁ B hml hv
  obtain ⟨rfl, hsz, hP, hK, hD0, hN⟩ := hv
  have hx := B.exec
  have hb := B.bytes
  have hr := B.returns
  have hts := atoms_spec (ws := (wd y_M_phase b_M_phase 1 (some .int))) B.pre
  have htb : ∀ w ∈ tb, w.before _ s = true := fun w h => hts w (List.mem_cons_of_mem _ h)
  have hown : s.vm.findClass R_M = some m.cls := findClass_of_methodNamed B.named
  have hlocks := B.notSynchronized
  subst hsz
  have hD := hD0.self (sz := s.heap.size)
  generalize hAe : va_A (wM ad cs σ) s.heap.size = A at hD ⊢
  have hA : ∀ q : Nat, s.heap.size ≤ q → A q := fun q h => by rw [← hAe]; exact Or.inr h
  have hS : va_S A s.heap s.heap [] := va_S.rf
  have hP : va_P (dC, dI) classes (wM ad cs σ) s.heap := hP
  have hl := lv_entry ([.ref (ad 0 0)]) (n := 1) (Nat.le_of_ble_eq_true rfl)
  rw [lg_entry_eq]
  generalize (lg_sl ([.ref (ad 0 0)]) ++ List.replicate (1 - (lg_sl ([.ref (ad 0 0)])).length) Slot.unset).toArray = ls at hl ⊢
  have hl : lv_has ls 1 [(0, .ref (ad 0 0))] := hl
  rw [m_M_phase] at hM
  refine lv_aload_n hx hb d_M_phase_0 rfl (lv_at hl 0 rfl) ?_
  refine lv_iconst (v := 0) hx hb d_M_phase_1 (by decide) ?_
  refine va_put (D := (dC, dI)) (ci := 7) (v := .int 0) (ty := .int) (C := R_M) (T := F_M) (N := 33) hx hb htb in_M ft_M ft_M_ok n_M hown hK hP hD hS 0 (g_M) rfl 0 (by decide) (htb _ k_619) (fun _ h9 => h9) rfl (by decide +kernel) rfl rfl (Nat.le_of_ble_eq_true rfl) d_M_phase_2 (fun H locs hP hD hS => ?_)
  have hP := P_eq (s_M_0) hP
  have hD := D_eq (s_M_0) hD
  refine lv_aload_n hx hb d_M_phase_5 rfl (lv_at hl 0 rfl) ?_
  refine va_get (D := (dC, dI)) (ci := 7) (v := .int (((w1 σ 0 0 0) 0).1 5)) (C := R_M) (T := F_M) (N := 33) hx hb htb in_M hown hK hP 0 (g_M) rfl 8 (by decide) (htb _ k_627) (fun _ h9 => h9) rfl d_M_phase_6 ?_
  refine lv_if_eq (tgt := 19) hx hb d_M_phase_9 (by decide) (fun h9 => ?_) (fun h9 => ?_)
  · rw [if_pos h9] at hM
    refine lv_aload_n hx hb d_M_phase_19 rfl (lv_at hl 0 rfl) ?_
    refine va_get (D := (dC, dI)) (ci := 7) (v := .int (((w1 σ 0 0 0) 0).1 4)) (C := R_M) (T := F_M) (N := 33) hx hb htb in_M hown hK hP 0 (g_M) rfl 7 (by decide) (htb _ k_626) (fun _ h9 => h9) rfl d_M_phase_20 ?_
    refine lv_iconst (v := 4) hx hb d_M_phase_23 (by decide) ?_
    refine lv_iadd hx hb d_M_phase_24 ?_
    have e9 := Prod.mk.inj (Option.some.inj hM)
    exact W.iret (v := ((((w1 σ 0 0 0) 0).1 4) + 4)) hx hb hr (fun t ht hW => ⟨⟨((((w1 σ 0 0 0) 0).1 4) + 4), (w1 σ 0 0 0), rfl, e9, by rw [ht]; exact hP, va_K.moved hW.alike hK, hD⟩, hS.F ht⟩) hS.2.2 d_M_phase_25
  · rw [if_neg h9] at hM
    refine lv_aload_n hx hb d_M_phase_12 rfl (lv_at hl 0 rfl) ?_
    refine va_get (D := (dC, dI)) (ci := 7) (v := .int (((w1 σ 0 0 0) 0).1 4)) (C := R_M) (T := F_M) (N := 33) hx hb htb in_M hown hK hP 0 (g_M) rfl 7 (by decide) (htb _ k_626) (fun _ h9 => h9) rfl d_M_phase_13 ?_
    refine lv_goto (tgt := 25) hx hb d_M_phase_16 (by decide) ?_
    have e9 := Prod.mk.inj (Option.some.inj hM)
    exact W.iret (v := (((w1 σ 0 0 0) 0).1 4)) hx hb hr (fun t ht hW => ⟨⟨(((w1 σ 0 0 0) 0).1 4), (w1 σ 0 0 0), rfl, e9, by rw [ht]; exact hP, va_K.moved hW.alike hK, hD⟩, hS.F ht⟩) hS.2.2 d_M_phase_25

theorem d_M_level_0 : decode b_M_level 0 = .ok (.aload_n 0, 1) := by decide +kernel
theorem d_M_level_1 : decode b_M_level 1 = .ok (.iconst 0, 1) := by decide +kernel
theorem d_M_level_2 : decode b_M_level 2 = .ok (.putfield 70, 3) := by decide +kernel
theorem d_M_level_5 : decode b_M_level 5 = .ok (.aload_n 0, 1) := by decide +kernel
theorem d_M_level_6 : decode b_M_level 6 = .ok (.getfield 105, 3) := by decide +kernel
theorem d_M_level_9 : decode b_M_level 9 = .ok (.ireturn, 1) := by decide +kernel
def m_M_level (N : Nat) (σ : SX) : Option (Int32 × SX) :=
  some ((((w1 σ 0 0 0) 0).1 12), (w1 σ 0 0 0))

set_option maxHeartbeats 4000000 in
set_option maxRecDepth 100000 in
theorem c_M_level (l : Launch) (dC : Nat → ClassId) (dI : Nat → Nat → Nat) (ad : Nat → Nat → Nat) (cs : Nat → ClassId) (sz N : Nat) (σ : SX) {r0 : Int32} {σ0 : SX} (hM : m_M_level N σ = some (r0, σ0)) : Met l y_M_level (wd y_M_level b_M_level 1 (some .int)) ({ frames := 0, cells := 0, slots := 0, locals := 0 }) (va_Pc [.ref (ad 0 0)] (preM dC dI ad cs sz σ)) (va_Qi (fun (r : Int32) (u : SX) => r = r0 ∧ u = σ0) (atM dC dI ad cs (va_A (wM ad cs σ) sz)) (va_A (wM ad cs σ) sz)) 0 0 (va_A (wM ad cs σ) sz) := by
  refine Met.ofW (cc := b_M_level) (maxL := 1) (ret := (some .int)) (by decide) rfl ?_
  intro p e s m args below meth c s₁ B hml hv
  obtain ⟨rfl, hsz, hP, hK, hD0, hN⟩ := hv
  have hx := B.exec
  have hb := B.bytes
  have hr := B.returns
  have hts := atoms_spec (ws := (wd y_M_level b_M_level 1 (some .int))) B.pre
  have htb : ∀ w ∈ tb, w.before _ s = true := fun w h => hts w (List.mem_cons_of_mem _ h)
  have hown : s.vm.findClass R_M = some m.cls := findClass_of_methodNamed B.named
  have hlocks := B.notSynchronized
  subst hsz
  have hD := hD0.self (sz := s.heap.size)
  generalize hAe : va_A (wM ad cs σ) s.heap.size = A at hD ⊢
  have hA : ∀ q : Nat, s.heap.size ≤ q → A q := fun q h => by rw [← hAe]; exact Or.inr h
  have hS : va_S A s.heap s.heap [] := va_S.rf
  have hP : va_P (dC, dI) classes (wM ad cs σ) s.heap := hP
  have hl := lv_entry ([.ref (ad 0 0)]) (n := 1) (Nat.le_of_ble_eq_true rfl)
  rw [lg_entry_eq]
  generalize (lg_sl ([.ref (ad 0 0)]) ++ List.replicate (1 - (lg_sl ([.ref (ad 0 0)])).length) Slot.unset).toArray = ls at hl ⊢
  have hl : lv_has ls 1 [(0, .ref (ad 0 0))] := hl
  rw [m_M_level] at hM
  refine lv_aload_n hx hb d_M_level_0 rfl (lv_at hl 0 rfl) ?_
  refine lv_iconst (v := 0) hx hb d_M_level_1 (by decide) ?_
  refine va_put (D := (dC, dI)) (ci := 7) (v := .int 0) (ty := .int) (C := R_M) (T := F_M) (N := 33) hx hb htb in_M ft_M ft_M_ok n_M hown hK hP hD hS 0 (g_M) rfl 0 (by decide) (htb _ k_619) (fun _ h9 => h9) rfl (by decide +kernel) rfl rfl (Nat.le_of_ble_eq_true rfl) d_M_level_2 (fun H locs hP hD hS => ?_)
  have hP := P_eq (s_M_0) hP
  have hD := D_eq (s_M_0) hD
  refine lv_aload_n hx hb d_M_level_5 rfl (lv_at hl 0 rfl) ?_
  refine va_get (D := (dC, dI)) (ci := 7) (v := .int (((w1 σ 0 0 0) 0).1 12)) (C := R_M) (T := F_M) (N := 33) hx hb htb in_M hown hK hP 0 (g_M) rfl 19 (by decide) (htb _ k_638) (fun _ h9 => h9) rfl d_M_level_6 ?_
  have e9 := Prod.mk.inj (Option.some.inj hM)
  exact W.iret (v := (((w1 σ 0 0 0) 0).1 12)) hx hb hr (fun t ht hW => ⟨⟨(((w1 σ 0 0 0) 0).1 12), (w1 σ 0 0 0), rfl, e9, by rw [ht]; exact hP, va_K.moved hW.alike hK, hD⟩, hS.F ht⟩) hS.2.2 d_M_level_9

theorem d_M_runs_0 : decode b_M_runs 0 = .ok (.aload_n 0, 1) := by decide +kernel
theorem d_M_runs_1 : decode b_M_runs 1 = .ok (.iconst 0, 1) := by decide +kernel
theorem d_M_runs_2 : decode b_M_runs 2 = .ok (.putfield 70, 3) := by decide +kernel
theorem d_M_runs_5 : decode b_M_runs 5 = .ok (.iload_n 1, 1) := by decide +kernel
theorem d_M_runs_6 : decode b_M_runs 6 = .ok (.invokestatic 175, 3) := by decide +kernel
theorem d_M_runs_9 : decode b_M_runs 9 = .ok (.ifCond .eq 12, 3) := by decide +kernel
theorem d_M_runs_12 : decode b_M_runs 12 = .ok (.aload_n 0, 1) := by decide +kernel
theorem d_M_runs_13 : decode b_M_runs 13 = .ok (.getfield 46, 3) := by decide +kernel
theorem d_M_runs_16 : decode b_M_runs 16 = .ok (.iload_n 1, 1) := by decide +kernel
theorem d_M_runs_17 : decode b_M_runs 17 = .ok (.iaload, 1) := by decide +kernel
theorem d_M_runs_18 : decode b_M_runs 18 = .ok (.goto 4, 3) := by decide +kernel
theorem d_M_runs_21 : decode b_M_runs 21 = .ok (.iconst (-1), 1) := by decide +kernel
theorem d_M_runs_22 : decode b_M_runs 22 = .ok (.ireturn, 1) := by decide +kernel
def m_M_runs (N : Nat) (σ : SX) (a1 : Int32) : Option (Int32 × SX) :=
  (bP (m_M_isTape a1) fun r6 => (if r6 = 0 then some ((-1), (w1 σ 0 0 0)) else (if inb a1 4 = true then some ((((w1 σ 0 0 0) 0).2 10 a1.toNatClampNeg), (w1 σ 0 0 0)) else none)))

set_option maxHeartbeats 4000000 in
set_option maxRecDepth 100000 in
theorem c_M_runs (l : Launch) (dC : Nat → ClassId) (dI : Nat → Nat → Nat) (ad : Nat → Nat → Nat) (cs : Nat → ClassId) (sz N : Nat) (σ : SX) (a1 : Int32) {r0 : Int32} {σ0 : SX} (hM : m_M_runs N σ a1 = some (r0, σ0)) : Met l y_M_runs (wd y_M_runs b_M_runs 2 (some .int)) ({ frames := 1, cells := 0, slots := 0, locals := 20 }) (va_Pc [.ref (ad 0 0), .int a1] (preM dC dI ad cs sz σ)) (va_Qi (fun (r : Int32) (u : SX) => r = r0 ∧ u = σ0) (atM dC dI ad cs (va_A (wM ad cs σ) sz)) (va_A (wM ad cs σ) sz)) 0 0 (va_A (wM ad cs σ) sz) := by
  refine Met.ofW (cc := b_M_runs) (maxL := 2) (ret := (some .int)) (by decide) rfl ?_
  intro p e s m args below meth c s₁ B hml hv
  obtain ⟨rfl, hsz, hP, hK, hD0, hN⟩ := hv
  have hx := B.exec
  have hb := B.bytes
  have hr := B.returns
  have hts := atoms_spec (ws := (wd y_M_runs b_M_runs 2 (some .int))) B.pre
  have htb : ∀ w ∈ tb, w.before _ s = true := fun w h => hts w (List.mem_cons_of_mem _ h)
  have hown : s.vm.findClass R_M = some m.cls := findClass_of_methodNamed B.named
  have hlocks := B.notSynchronized
  subst hsz
  have hD := hD0.self (sz := s.heap.size)
  generalize hAe : va_A (wM ad cs σ) s.heap.size = A at hD ⊢
  have hA : ∀ q : Nat, s.heap.size ≤ q → A q := fun q h => by rw [← hAe]; exact Or.inr h
  have hS : va_S A s.heap s.heap [] := va_S.rf
  have hP : va_P (dC, dI) classes (wM ad cs σ) s.heap := hP
  have hl := lv_entry ([.ref (ad 0 0), .int a1]) (n := 2) (Nat.le_of_ble_eq_true rfl)
  rw [lg_entry_eq]
  generalize (lg_sl ([.ref (ad 0 0), .int a1]) ++ List.replicate (2 - (lg_sl ([.ref (ad 0 0), .int a1])).length) Slot.unset).toArray = ls at hl ⊢
  have hl : lv_has ls 2 [(0, .ref (ad 0 0)), (1, .int a1)] := hl
  rw [m_M_runs] at hM
  refine lv_aload_n hx hb d_M_runs_0 rfl (lv_at hl 0 rfl) ?_
  refine lv_iconst (v := 0) hx hb d_M_runs_1 (by decide) ?_
  refine va_put (D := (dC, dI)) (ci := 7) (v := .int 0) (ty := .int) (C := R_M) (T := F_M) (N := 33) hx hb htb in_M ft_M ft_M_ok n_M hown hK hP hD hS 0 (g_M) rfl 0 (by decide) (htb _ k_619) (fun _ h9 => h9) rfl (by decide +kernel) rfl rfl (Nat.le_of_ble_eq_true rfl) d_M_runs_2 (fun H locs hP hD hS => ?_)
  have hP := P_eq (s_M_0) hP
  have hD := D_eq (s_M_0) hD
  refine lv_iload_n hx hb d_M_runs_5 rfl (lv_at hl 1 rfl) ?_
  obtain ⟨x6, hq6, hM⟩ := bP_some hM
  refine va_calli (va_runS (As := [.int a1]) (rest := []) ⟨hx, hb, hml, hown, hts⟩ (c_M_isTape l _ a1 hq6) (cwS 1 hts (goodS k_823 k_824 k_8 k_825) rfl rfl rfl ⟨rfl, by decide, by decide, by decide +kernel⟩ ⟨Nat.le_of_ble_eq_true rfl, Nat.le_of_ble_eq_true rfl⟩) ⟨blindS, payS⟩ rfl rfl hl.1 rfl (lv_room (Nat.le_of_ble_eq_true rfl)) d_M_runs_6 ⟨Nat.zero_le _, Nat.zero_le _⟩) hS (fun q h0 h => absurd h0 (Nat.not_lt.mpr h)) (fun q h => hA q (Nat.le_trans hS.1 h)) (fun r6 u t H locs ht hvm hpost hB hz1 hk1 hS => ?_)
  subst hpost
  have hP := keepP hP hk1
  refine lv_if_eq (tgt := 21) hx hb d_M_runs_9 (by decide) (fun h9 => ?_) (fun h9 => ?_)
  · rw [if_pos h9] at hM
    refine lv_iconst (v := (-1)) hx hb d_M_runs_21 (by decide) ?_
    have e9 := Prod.mk.inj (Option.some.inj hM)
    exact W.iret (v := (-1)) hx hb hr (fun t ht hW => ⟨⟨(-1), (w1 σ 0 0 0), rfl, e9, by rw [ht]; exact hP, va_K.moved hW.alike hK, hD⟩, hS.F ht⟩) hS.2.2 d_M_runs_22
  · rw [if_neg h9] at hM
    refine lv_aload_n hx hb d_M_runs_12 rfl (lv_at hl 0 rfl) ?_
    refine va_get (D := (dC, dI)) (ci := 7) (v := .ref (ad 0 10)) (C := R_M) (T := F_M) (N := 33) hx hb htb in_M hown hK hP 0 (g_M) rfl 23 (by decide) (htb _ k_642) (fun _ h9 => h9) rfl d_M_runs_13 ?_
    refine lv_iload_n hx hb d_M_runs_16 rfl (lv_at hl 1 rfl) ?_
    have hg17 := gd_c hM
    have hM := gd_v hM
    refine va_iald hx hb hK hP 10 0 (g_M_a10) rfl (inb_in hg17) d_M_runs_17 ?_
    refine lv_goto (tgt := 22) hx hb d_M_runs_18 (by decide) ?_
    have e9 := Prod.mk.inj (Option.some.inj hM)
    exact W.iret (v := (((w1 σ 0 0 0) 0).2 10 a1.toNatClampNeg)) hx hb hr (fun t ht hW => ⟨⟨(((w1 σ 0 0 0) 0).2 10 a1.toNatClampNeg), (w1 σ 0 0 0), rfl, e9, by rw [ht]; exact hP, va_K.moved hW.alike hK, hD⟩, hS.F ht⟩) hS.2.2 d_M_runs_22

theorem d_M_dummies_0 : decode b_M_dummies 0 = .ok (.aload_n 0, 1) := by decide +kernel
theorem d_M_dummies_1 : decode b_M_dummies 1 = .ok (.iconst 0, 1) := by decide +kernel
theorem d_M_dummies_2 : decode b_M_dummies 2 = .ok (.putfield 70, 3) := by decide +kernel
theorem d_M_dummies_5 : decode b_M_dummies 5 = .ok (.iload_n 1, 1) := by decide +kernel
theorem d_M_dummies_6 : decode b_M_dummies 6 = .ok (.invokestatic 175, 3) := by decide +kernel
theorem d_M_dummies_9 : decode b_M_dummies 9 = .ok (.ifCond .eq 12, 3) := by decide +kernel
theorem d_M_dummies_12 : decode b_M_dummies 12 = .ok (.aload_n 0, 1) := by decide +kernel
theorem d_M_dummies_13 : decode b_M_dummies 13 = .ok (.getfield 49, 3) := by decide +kernel
theorem d_M_dummies_16 : decode b_M_dummies 16 = .ok (.iload_n 1, 1) := by decide +kernel
theorem d_M_dummies_17 : decode b_M_dummies 17 = .ok (.iaload, 1) := by decide +kernel
theorem d_M_dummies_18 : decode b_M_dummies 18 = .ok (.goto 4, 3) := by decide +kernel
theorem d_M_dummies_21 : decode b_M_dummies 21 = .ok (.iconst (-1), 1) := by decide +kernel
theorem d_M_dummies_22 : decode b_M_dummies 22 = .ok (.ireturn, 1) := by decide +kernel
def m_M_dummies (N : Nat) (σ : SX) (a1 : Int32) : Option (Int32 × SX) :=
  (bP (m_M_isTape a1) fun r6 => (if r6 = 0 then some ((-1), (w1 σ 0 0 0)) else (if inb a1 4 = true then some ((((w1 σ 0 0 0) 0).2 11 a1.toNatClampNeg), (w1 σ 0 0 0)) else none)))

set_option maxHeartbeats 4000000 in
set_option maxRecDepth 100000 in
theorem c_M_dummies (l : Launch) (dC : Nat → ClassId) (dI : Nat → Nat → Nat) (ad : Nat → Nat → Nat) (cs : Nat → ClassId) (sz N : Nat) (σ : SX) (a1 : Int32) {r0 : Int32} {σ0 : SX} (hM : m_M_dummies N σ a1 = some (r0, σ0)) : Met l y_M_dummies (wd y_M_dummies b_M_dummies 2 (some .int)) ({ frames := 1, cells := 0, slots := 0, locals := 20 }) (va_Pc [.ref (ad 0 0), .int a1] (preM dC dI ad cs sz σ)) (va_Qi (fun (r : Int32) (u : SX) => r = r0 ∧ u = σ0) (atM dC dI ad cs (va_A (wM ad cs σ) sz)) (va_A (wM ad cs σ) sz)) 0 0 (va_A (wM ad cs σ) sz) := by
  refine Met.ofW (cc := b_M_dummies) (maxL := 2) (ret := (some .int)) (by decide) rfl ?_
  intro p e s m args below meth c s₁ B hml hv
  obtain ⟨rfl, hsz, hP, hK, hD0, hN⟩ := hv
  have hx := B.exec
  have hb := B.bytes
  have hr := B.returns
  have hts := atoms_spec (ws := (wd y_M_dummies b_M_dummies 2 (some .int))) B.pre
  have htb : ∀ w ∈ tb, w.before _ s = true := fun w h => hts w (List.mem_cons_of_mem _ h)
  have hown : s.vm.findClass R_M = some m.cls := findClass_of_methodNamed B.named
  have hlocks := B.notSynchronized
  subst hsz
  have hD := hD0.self (sz := s.heap.size)
  generalize hAe : va_A (wM ad cs σ) s.heap.size = A at hD ⊢
  have hA : ∀ q : Nat, s.heap.size ≤ q → A q := fun q h => by rw [← hAe]; exact Or.inr h
  have hS : va_S A s.heap s.heap [] := va_S.rf
  have hP : va_P (dC, dI) classes (wM ad cs σ) s.heap := hP
  have hl := lv_entry ([.ref (ad 0 0), .int a1]) (n := 2) (Nat.le_of_ble_eq_true rfl)
  rw [lg_entry_eq]
  generalize (lg_sl ([.ref (ad 0 0), .int a1]) ++ List.replicate (2 - (lg_sl ([.ref (ad 0 0), .int a1])).length) Slot.unset).toArray = ls at hl ⊢
  have hl : lv_has ls 2 [(0, .ref (ad 0 0)), (1, .int a1)] := hl
  rw [m_M_dummies] at hM
  refine lv_aload_n hx hb d_M_dummies_0 rfl (lv_at hl 0 rfl) ?_
  refine lv_iconst (v := 0) hx hb d_M_dummies_1 (by decide) ?_
  refine va_put (D := (dC, dI)) (ci := 7) (v := .int 0) (ty := .int) (C := R_M) (T := F_M) (N := 33) hx hb htb in_M ft_M ft_M_ok n_M hown hK hP hD hS 0 (g_M) rfl 0 (by decide) (htb _ k_619) (fun _ h9 => h9) rfl (by decide +kernel) rfl rfl (Nat.le_of_ble_eq_true rfl) d_M_dummies_2 (fun H locs hP hD hS => ?_)
  have hP := P_eq (s_M_0) hP
  have hD := D_eq (s_M_0) hD
  refine lv_iload_n hx hb d_M_dummies_5 rfl (lv_at hl 1 rfl) ?_
  obtain ⟨x6, hq6, hM⟩ := bP_some hM
  refine va_calli (va_runS (As := [.int a1]) (rest := []) ⟨hx, hb, hml, hown, hts⟩ (c_M_isTape l _ a1 hq6) (cwS 1 hts (goodS k_823 k_824 k_8 k_825) rfl rfl rfl ⟨rfl, by decide, by decide, by decide +kernel⟩ ⟨Nat.le_of_ble_eq_true rfl, Nat.le_of_ble_eq_true rfl⟩) ⟨blindS, payS⟩ rfl rfl hl.1 rfl (lv_room (Nat.le_of_ble_eq_true rfl)) d_M_dummies_6 ⟨Nat.zero_le _, Nat.zero_le _⟩) hS (fun q h0 h => absurd h0 (Nat.not_lt.mpr h)) (fun q h => hA q (Nat.le_trans hS.1 h)) (fun r6 u t H locs ht hvm hpost hB hz1 hk1 hS => ?_)
  subst hpost
  have hP := keepP hP hk1
  refine lv_if_eq (tgt := 21) hx hb d_M_dummies_9 (by decide) (fun h9 => ?_) (fun h9 => ?_)
  · rw [if_pos h9] at hM
    refine lv_iconst (v := (-1)) hx hb d_M_dummies_21 (by decide) ?_
    have e9 := Prod.mk.inj (Option.some.inj hM)
    exact W.iret (v := (-1)) hx hb hr (fun t ht hW => ⟨⟨(-1), (w1 σ 0 0 0), rfl, e9, by rw [ht]; exact hP, va_K.moved hW.alike hK, hD⟩, hS.F ht⟩) hS.2.2 d_M_dummies_22
  · rw [if_neg h9] at hM
    refine lv_aload_n hx hb d_M_dummies_12 rfl (lv_at hl 0 rfl) ?_
    refine va_get (D := (dC, dI)) (ci := 7) (v := .ref (ad 0 11)) (C := R_M) (T := F_M) (N := 33) hx hb htb in_M hown hK hP 0 (g_M) rfl 24 (by decide) (htb _ k_643) (fun _ h9 => h9) rfl d_M_dummies_13 ?_
    refine lv_iload_n hx hb d_M_dummies_16 rfl (lv_at hl 1 rfl) ?_
    have hg17 := gd_c hM
    have hM := gd_v hM
    refine va_iald hx hb hK hP 11 0 (g_M_a11) rfl (inb_in hg17) d_M_dummies_17 ?_
    refine lv_goto (tgt := 22) hx hb d_M_dummies_18 (by decide) ?_
    have e9 := Prod.mk.inj (Option.some.inj hM)
    exact W.iret (v := (((w1 σ 0 0 0) 0).2 11 a1.toNatClampNeg)) hx hb hr (fun t ht hW => ⟨⟨(((w1 σ 0 0 0) 0).2 11 a1.toNatClampNeg), (w1 σ 0 0 0), rfl, e9, by rw [ht]; exact hP, va_K.moved hW.alike hK, hD⟩, hS.F ht⟩) hS.2.2 d_M_dummies_22

theorem d_M_role_0 : decode b_M_role 0 = .ok (.aload_n 0, 1) := by decide +kernel
theorem d_M_role_1 : decode b_M_role 1 = .ok (.iconst 0, 1) := by decide +kernel
theorem d_M_role_2 : decode b_M_role 2 = .ok (.putfield 70, 3) := by decide +kernel
theorem d_M_role_5 : decode b_M_role 5 = .ok (.iconst (-1), 1) := by decide +kernel
theorem d_M_role_6 : decode b_M_role 6 = .ok (.istore_n 2, 1) := by decide +kernel
theorem d_M_role_7 : decode b_M_role 7 = .ok (.iconst 0, 1) := by decide +kernel
theorem d_M_role_8 : decode b_M_role 8 = .ok (.istore_n 3, 1) := by decide +kernel
theorem d_M_role_9 : decode b_M_role 9 = .ok (.iload_n 3, 1) := by decide +kernel
theorem d_M_role_10 : decode b_M_role 10 = .ok (.iconst 4, 1) := by decide +kernel
theorem d_M_role_11 : decode b_M_role 11 = .ok (.if_icmp .ge 32, 3) := by decide +kernel
theorem d_M_role_14 : decode b_M_role 14 = .ok (.aload_n 0, 1) := by decide +kernel
theorem d_M_role_15 : decode b_M_role 15 = .ok (.getfield 73, 3) := by decide +kernel
theorem d_M_role_18 : decode b_M_role 18 = .ok (.ifCond .le 17, 3) := by decide +kernel
theorem d_M_role_21 : decode b_M_role 21 = .ok (.aload_n 0, 1) := by decide +kernel
theorem d_M_role_22 : decode b_M_role 22 = .ok (.getfield 52, 3) := by decide +kernel
theorem d_M_role_25 : decode b_M_role 25 = .ok (.iload_n 3, 1) := by decide +kernel
theorem d_M_role_26 : decode b_M_role 26 = .ok (.iaload, 1) := by decide +kernel
theorem d_M_role_27 : decode b_M_role 27 = .ok (.iload_n 1, 1) := by decide +kernel
theorem d_M_role_28 : decode b_M_role 28 = .ok (.if_icmp .ne 7, 3) := by decide +kernel
theorem d_M_role_31 : decode b_M_role 31 = .ok (.iload_n 3, 1) := by decide +kernel
theorem d_M_role_32 : decode b_M_role 32 = .ok (.goto 4, 3) := by decide +kernel
theorem d_M_role_35 : decode b_M_role 35 = .ok (.iload_n 2, 1) := by decide +kernel
theorem d_M_role_36 : decode b_M_role 36 = .ok (.istore_n 2, 1) := by decide +kernel
theorem d_M_role_37 : decode b_M_role 37 = .ok (.iinc 3 1, 3) := by decide +kernel
theorem d_M_role_40 : decode b_M_role 40 = .ok (.goto (-31), 3) := by decide +kernel
theorem d_M_role_43 : decode b_M_role 43 = .ok (.iload_n 2, 1) := by decide +kernel
theorem d_M_role_44 : decode b_M_role 44 = .ok (.ireturn, 1) := by decide +kernel
def m_M_role_9 (N : Nat) : Nat → SX → Int32 → Int32 → Int32 → Option (Int32 × SX)
  | 0, _, _, _, _ => none
  | n9 + 1, σ, v1, v2, v3 =>
    (if 4 ≤ v3 then some (v2, σ) else (if ((σ 0).1 4) ≤ 0 then m_M_role_9 N n9 σ v1 v2 (v3 + 1) else (if inb v3 4 = true then (if ((σ 0).2 12 v3.toNatClampNeg) = v1 then m_M_role_9 N n9 σ v1 v3 (v3 + 1) else m_M_role_9 N n9 σ v1 v2 (v3 + 1)) else none)))

def m_M_role (N : Nat) (σ : SX) (a1 : Int32) : Option (Int32 × SX) :=
  m_M_role_9 N N (w1 σ 0 0 0) a1 (-1) 0

set_option maxHeartbeats 4000000 in
set_option maxRecDepth 100000 in
theorem c_M_role (l : Launch) (dC : Nat → ClassId) (dI : Nat → Nat → Nat) (ad : Nat → Nat → Nat) (cs : Nat → ClassId) (sz N : Nat) (σ : SX) (a1 : Int32) {r0 : Int32} {σ0 : SX} (hM : m_M_role N σ a1 = some (r0, σ0)) : Met l y_M_role (wd y_M_role b_M_role 4 (some .int)) ({ frames := 0, cells := 0, slots := 0, locals := 0 }) (va_Pc [.ref (ad 0 0), .int a1] (preM dC dI ad cs sz σ)) (va_Qi (fun (r : Int32) (u : SX) => r = r0 ∧ u = σ0) (atM dC dI ad cs (va_A (wM ad cs σ) sz)) (va_A (wM ad cs σ) sz)) 0 0 (va_A (wM ad cs σ) sz) := by
  refine Met.ofW (cc := b_M_role) (maxL := 4) (ret := (some .int)) (by decide) rfl ?_
  intro p e s m args below meth c s₁ B hml hv
  obtain ⟨rfl, hsz, hP, hK, hD0, hN⟩ := hv
  have hx := B.exec
  have hb := B.bytes
  have hr := B.returns
  have hts := atoms_spec (ws := (wd y_M_role b_M_role 4 (some .int))) B.pre
  have htb : ∀ w ∈ tb, w.before _ s = true := fun w h => hts w (List.mem_cons_of_mem _ h)
  have hown : s.vm.findClass R_M = some m.cls := findClass_of_methodNamed B.named
  have hlocks := B.notSynchronized
  subst hsz
  have hD := hD0.self (sz := s.heap.size)
  generalize hAe : va_A (wM ad cs σ) s.heap.size = A at hD ⊢
  have hA : ∀ q : Nat, s.heap.size ≤ q → A q := fun q h => by rw [← hAe]; exact Or.inr h
  have hS : va_S A s.heap s.heap [] := va_S.rf
  have hP : va_P (dC, dI) classes (wM ad cs σ) s.heap := hP
  have hl := lv_entry ([.ref (ad 0 0), .int a1]) (n := 4) (Nat.le_of_ble_eq_true rfl)
  rw [lg_entry_eq]
  generalize (lg_sl ([.ref (ad 0 0), .int a1]) ++ List.replicate (4 - (lg_sl ([.ref (ad 0 0), .int a1])).length) Slot.unset).toArray = ls at hl ⊢
  have hl : lv_has ls 4 [(0, .ref (ad 0 0)), (1, .int a1)] := hl
  rw [m_M_role] at hM
  refine W_loop (pc := 9) (fun n9 H locs ls st => ∃ (σ : SX) (v1 : Int32) (v2 : Int32) (v3 : Int32), st = [] ∧ m_M_role_9 N n9 σ v1 v2 v3 = some (r0, σ0) ∧ lv_has ls 4 [(0, .ref (ad 0 0)), (1, .int v1), (2, .int v2), (3, .int v3)] ∧ va_P (dC, dI) classes (wM ad cs σ) H ∧ va_D A (wM ad cs σ) ∧ va_S A s.heap H locs) ?_ ?_ ?_
  · rintro H locs ls st ⟨σ, v1, v2, v3, -, hM, -⟩
    rw [m_M_role_9] at hM; cases hM
  · intro n9 K9 H locs ls st hI
    obtain ⟨σ, v1, v2, v3, rfl, hM, hl, hP, hD, hS⟩ := hI
    rw [m_M_role_9] at hM
    refine lv_iload_n hx hb d_M_role_9 rfl (lv_at hl 3 rfl) ?_
    refine lv_iconst (v := 4) hx hb d_M_role_10 (by decide) ?_
    refine lv_icmp_ge (tgt := 43) hx hb d_M_role_11 (by decide) (fun h11 => ?_) (fun h11 => ?_)
    · rw [if_pos h11] at hM
      refine lv_iload_n hx hb d_M_role_43 rfl (lv_at hl 2 rfl) ?_
      have e9 := Prod.mk.inj (Option.some.inj hM)
      exact W.iret (v := v2) hx hb hr (fun t ht hW => ⟨⟨v2, σ, rfl, e9, by rw [ht]; exact hP, va_K.moved hW.alike hK, hD⟩, hS.F ht⟩) hS.2.2 d_M_role_44
    · rw [if_neg h11] at hM
      refine lv_aload_n hx hb d_M_role_14 rfl (lv_at hl 0 rfl) ?_
      refine va_get (D := (dC, dI)) (ci := 7) (v := .int ((σ 0).1 4)) (C := R_M) (T := F_M) (N := 33) hx hb htb in_M hown hK hP 0 (g_M) rfl 7 (by decide) (htb _ k_626) (fun _ h9 => h9) rfl d_M_role_15 ?_
      refine lv_if_le (tgt := 35) hx hb d_M_role_18 (by decide) (fun h18 => ?_) (fun h18 => ?_)
      · rw [if_pos h18] at hM
        refine lv_iload_n hx hb d_M_role_35 rfl (lv_at hl 2 rfl) ?_
        refine lv_istore_n hx hb d_M_role_36 rfl hl (by decide) (lv' := [(2, .int v2), (0, .ref (ad 0 0)), (1, .int v1), (3, .int v3)]) rfl (fun ls hl => ?_)
        refine lv_iinc (k := 3) (v := (v3 + 1)) hx hb d_M_role_37 hl rfl rfl (by decide) (lv' := [(3, .int (v3 + 1)), (2, .int v2), (0, .ref (ad 0 0)), (1, .int v1)]) rfl (fun ls hl => ?_)
        refine lv_goto (tgt := 9) hx hb d_M_role_40 (by decide) ?_
        exact K9 _ _ _ _ ⟨σ, v1, v2, (v3 + 1), rfl, hM, lv_sub hl [2, 3, 1, 0] rfl, hP, hD, hS⟩
      · rw [if_neg h18] at hM
        refine lv_aload_n hx hb d_M_role_21 rfl (lv_at hl 0 rfl) ?_
        refine va_get (D := (dC, dI)) (ci := 7) (v := .ref (ad 0 12)) (C := R_M) (T := F_M) (N := 33) hx hb htb in_M hown hK hP 0 (g_M) rfl 25 (by decide) (htb _ k_644) (fun _ h9 => h9) rfl d_M_role_22 ?_
        refine lv_iload_n hx hb d_M_role_25 rfl (lv_at hl 3 rfl) ?_
        have hg26 := gd_c hM
        have hM := gd_v hM
        refine va_iald hx hb hK hP 12 0 (g_M_a12) rfl (inb_in hg26) d_M_role_26 ?_
        refine lv_iload_n hx hb d_M_role_27 rfl (lv_at hl 1 rfl) ?_
        refine lv_icmp_ne (tgt := 35) hx hb d_M_role_28 (by decide) (fun h28 => ?_) (fun h28 => ?_)
        · rw [if_neg h28] at hM
          refine lv_iload_n hx hb d_M_role_35 rfl (lv_at hl 2 rfl) ?_
          refine lv_istore_n hx hb d_M_role_36 rfl hl (by decide) (lv' := [(2, .int v2), (0, .ref (ad 0 0)), (1, .int v1), (3, .int v3)]) rfl (fun ls hl => ?_)
          refine lv_iinc (k := 3) (v := (v3 + 1)) hx hb d_M_role_37 hl rfl rfl (by decide) (lv' := [(3, .int (v3 + 1)), (2, .int v2), (0, .ref (ad 0 0)), (1, .int v1)]) rfl (fun ls hl => ?_)
          refine lv_goto (tgt := 9) hx hb d_M_role_40 (by decide) ?_
          exact K9 _ _ _ _ ⟨σ, v1, v2, (v3 + 1), rfl, hM, lv_sub hl [2, 3, 1, 0] rfl, hP, hD, hS⟩
        · rw [if_pos h28] at hM
          refine lv_iload_n hx hb d_M_role_31 rfl (lv_at hl 3 rfl) ?_
          refine lv_goto (tgt := 36) hx hb d_M_role_32 (by decide) ?_
          refine lv_istore_n hx hb d_M_role_36 rfl hl (by decide) (lv' := [(2, .int v3), (0, .ref (ad 0 0)), (1, .int v1), (3, .int v3)]) rfl (fun ls hl => ?_)
          refine lv_iinc (k := 3) (v := (v3 + 1)) hx hb d_M_role_37 hl rfl rfl (by decide) (lv' := [(3, .int (v3 + 1)), (2, .int v3), (0, .ref (ad 0 0)), (1, .int v1)]) rfl (fun ls hl => ?_)
          refine lv_goto (tgt := 9) hx hb d_M_role_40 (by decide) ?_
          exact K9 _ _ _ _ ⟨σ, v1, v3, (v3 + 1), rfl, hM, lv_sub hl [2, 3, 1, 0] rfl, hP, hD, hS⟩
  intro K9
  refine lv_aload_n hx hb d_M_role_0 rfl (lv_at hl 0 rfl) ?_
  refine lv_iconst (v := 0) hx hb d_M_role_1 (by decide) ?_
  refine va_put (D := (dC, dI)) (ci := 7) (v := .int 0) (ty := .int) (C := R_M) (T := F_M) (N := 33) hx hb htb in_M ft_M ft_M_ok n_M hown hK hP hD hS 0 (g_M) rfl 0 (by decide) (htb _ k_619) (fun _ h9 => h9) rfl (by decide +kernel) rfl rfl (Nat.le_of_ble_eq_true rfl) d_M_role_2 (fun H locs hP hD hS => ?_)
  have hP := P_eq (s_M_0) hP
  have hD := D_eq (s_M_0) hD
  refine lv_iconst (v := (-1)) hx hb d_M_role_5 (by decide) ?_
  refine lv_istore_n hx hb d_M_role_6 rfl hl (by decide) (lv' := [(2, .int (-1)), (0, .ref (ad 0 0)), (1, .int a1)]) rfl (fun ls hl => ?_)
  refine lv_iconst (v := 0) hx hb d_M_role_7 (by decide) ?_
  refine lv_istore_n hx hb d_M_role_8 rfl hl (by decide) (lv' := [(3, .int 0), (2, .int (-1)), (0, .ref (ad 0 0)), (1, .int a1)]) rfl (fun ls hl => ?_)
  exact K9 N _ _ _ _ ⟨(w1 σ 0 0 0), a1, (-1), 0, rfl, hM, lv_sub hl [2, 3, 1, 0] rfl, hP, hD, hS⟩

theorem d_M_length_0 : decode b_M_length 0 = .ok (.aload_n 0, 1) := by decide +kernel
theorem d_M_length_1 : decode b_M_length 1 = .ok (.iconst 0, 1) := by decide +kernel
theorem d_M_length_2 : decode b_M_length 2 = .ok (.putfield 70, 3) := by decide +kernel
theorem d_M_length_5 : decode b_M_length 5 = .ok (.iload_n 1, 1) := by decide +kernel
theorem d_M_length_6 : decode b_M_length 6 = .ok (.invokestatic 175, 3) := by decide +kernel
theorem d_M_length_9 : decode b_M_length 9 = .ok (.ifCond .eq 32, 3) := by decide +kernel
theorem d_M_length_12 : decode b_M_length 12 = .ok (.iload_n 2, 1) := by decide +kernel
theorem d_M_length_13 : decode b_M_length 13 = .ok (.ifCond .lt 28, 3) := by decide +kernel
theorem d_M_length_16 : decode b_M_length 16 = .ok (.iload_n 2, 1) := by decide +kernel
theorem d_M_length_17 : decode b_M_length 17 = .ok (.aload_n 0, 1) := by decide +kernel
theorem d_M_length_18 : decode b_M_length 18 = .ok (.getfield 46, 3) := by decide +kernel
theorem d_M_length_21 : decode b_M_length 21 = .ok (.iload_n 1, 1) := by decide +kernel
theorem d_M_length_22 : decode b_M_length 22 = .ok (.iaload, 1) := by decide +kernel
theorem d_M_length_23 : decode b_M_length 23 = .ok (.if_icmp .ge 18, 3) := by decide +kernel
theorem d_M_length_26 : decode b_M_length 26 = .ok (.aload_n 0, 1) := by decide +kernel
theorem d_M_length_27 : decode b_M_length 27 = .ok (.getfield 43, 3) := by decide +kernel
theorem d_M_length_30 : decode b_M_length 30 = .ok (.sipush 150, 3) := by decide +kernel
theorem d_M_length_33 : decode b_M_length 33 = .ok (.iload_n 1, 1) := by decide +kernel
theorem d_M_length_34 : decode b_M_length 34 = .ok (.imul, 1) := by decide +kernel
theorem d_M_length_35 : decode b_M_length 35 = .ok (.iload_n 2, 1) := by decide +kernel
theorem d_M_length_36 : decode b_M_length 36 = .ok (.iadd, 1) := by decide +kernel
theorem d_M_length_37 : decode b_M_length 37 = .ok (.iaload, 1) := by decide +kernel
theorem d_M_length_38 : decode b_M_length 38 = .ok (.goto 4, 3) := by decide +kernel
theorem d_M_length_41 : decode b_M_length 41 = .ok (.iconst (-1), 1) := by decide +kernel
theorem d_M_length_42 : decode b_M_length 42 = .ok (.ireturn, 1) := by decide +kernel
def m_M_length (N : Nat) (σ : SX) (a1 : Int32) (a2 : Int32) : Option (Int32 × SX) :=
  (bP (m_M_isTape a1) fun r6 => (if r6 = 0 then some ((-1), (w1 σ 0 0 0)) else (if a2 < 0 then some ((-1), (w1 σ 0 0 0)) else (if inb a1 4 = true then (if (((w1 σ 0 0 0) 0).2 10 a1.toNatClampNeg) ≤ a2 then some ((-1), (w1 σ 0 0 0)) else (if inb ((150 * a1) + a2) 600 = true then some ((((w1 σ 0 0 0) 0).2 9 ((150 * a1) + a2).toNatClampNeg), (w1 σ 0 0 0)) else none)) else none))))

set_option maxHeartbeats 4000000 in
set_option maxRecDepth 100000 in
theorem c_M_length (l : Launch) (dC : Nat → ClassId) (dI : Nat → Nat → Nat) (ad : Nat → Nat → Nat) (cs : Nat → ClassId) (sz N : Nat) (σ : SX) (a1 : Int32) (a2 : Int32) {r0 : Int32} {σ0 : SX} (hM : m_M_length N σ a1 a2 = some (r0, σ0)) : Met l y_M_length (wd y_M_length b_M_length 3 (some .int)) ({ frames := 1, cells := 0, slots := 0, locals := 20 }) (va_Pc [.ref (ad 0 0), .int a1, .int a2] (preM dC dI ad cs sz σ)) (va_Qi (fun (r : Int32) (u : SX) => r = r0 ∧ u = σ0) (atM dC dI ad cs (va_A (wM ad cs σ) sz)) (va_A (wM ad cs σ) sz)) 0 0 (va_A (wM ad cs σ) sz) := by
  refine Met.ofW (cc := b_M_length) (maxL := 3) (ret := (some .int)) (by decide) rfl ?_
  intro p e s m args below meth c s₁ B hml hv
  obtain ⟨rfl, hsz, hP, hK, hD0, hN⟩ := hv
  have hx := B.exec
  have hb := B.bytes
  have hr := B.returns
  have hts := atoms_spec (ws := (wd y_M_length b_M_length 3 (some .int))) B.pre
  have htb : ∀ w ∈ tb, w.before _ s = true := fun w h => hts w (List.mem_cons_of_mem _ h)
  have hown : s.vm.findClass R_M = some m.cls := findClass_of_methodNamed B.named
  have hlocks := B.notSynchronized
  subst hsz
  have hD := hD0.self (sz := s.heap.size)
  generalize hAe : va_A (wM ad cs σ) s.heap.size = A at hD ⊢
  have hA : ∀ q : Nat, s.heap.size ≤ q → A q := fun q h => by rw [← hAe]; exact Or.inr h
  have hS : va_S A s.heap s.heap [] := va_S.rf
  have hP : va_P (dC, dI) classes (wM ad cs σ) s.heap := hP
  have hl := lv_entry ([.ref (ad 0 0), .int a1, .int a2]) (n := 3) (Nat.le_of_ble_eq_true rfl)
  rw [lg_entry_eq]
  generalize (lg_sl ([.ref (ad 0 0), .int a1, .int a2]) ++ List.replicate (3 - (lg_sl ([.ref (ad 0 0), .int a1, .int a2])).length) Slot.unset).toArray = ls at hl ⊢
  have hl : lv_has ls 3 [(0, .ref (ad 0 0)), (1, .int a1), (2, .int a2)] := hl
  rw [m_M_length] at hM
  refine lv_aload_n hx hb d_M_length_0 rfl (lv_at hl 0 rfl) ?_
  refine lv_iconst (v := 0) hx hb d_M_length_1 (by decide) ?_
  refine va_put (D := (dC, dI)) (ci := 7) (v := .int 0) (ty := .int) (C := R_M) (T := F_M) (N := 33) hx hb htb in_M ft_M ft_M_ok n_M hown hK hP hD hS 0 (g_M) rfl 0 (by decide) (htb _ k_619) (fun _ h9 => h9) rfl (by decide +kernel) rfl rfl (Nat.le_of_ble_eq_true rfl) d_M_length_2 (fun H locs hP hD hS => ?_)
  have hP := P_eq (s_M_0) hP
  have hD := D_eq (s_M_0) hD
  refine lv_iload_n hx hb d_M_length_5 rfl (lv_at hl 1 rfl) ?_
  obtain ⟨x6, hq6, hM⟩ := bP_some hM
  refine va_calli (va_runS (As := [.int a1]) (rest := []) ⟨hx, hb, hml, hown, hts⟩ (c_M_isTape l _ a1 hq6) (cwS 1 hts (goodS k_823 k_824 k_8 k_825) rfl rfl rfl ⟨rfl, by decide, by decide, by decide +kernel⟩ ⟨Nat.le_of_ble_eq_true rfl, Nat.le_of_ble_eq_true rfl⟩) ⟨blindS, payS⟩ rfl rfl hl.1 rfl (lv_room (Nat.le_of_ble_eq_true rfl)) d_M_length_6 ⟨Nat.zero_le _, Nat.zero_le _⟩) hS (fun q h0 h => absurd h0 (Nat.not_lt.mpr h)) (fun q h => hA q (Nat.le_trans hS.1 h)) (fun r6 u t H locs ht hvm hpost hB hz1 hk1 hS => ?_)
  subst hpost
  have hP := keepP hP hk1
  refine lv_if_eq (tgt := 41) hx hb d_M_length_9 (by decide) (fun h9 => ?_) (fun h9 => ?_)
  · rw [if_pos h9] at hM
    refine lv_iconst (v := (-1)) hx hb d_M_length_41 (by decide) ?_
    have e9 := Prod.mk.inj (Option.some.inj hM)
    exact W.iret (v := (-1)) hx hb hr (fun t ht hW => ⟨⟨(-1), (w1 σ 0 0 0), rfl, e9, by rw [ht]; exact hP, va_K.moved hW.alike hK, hD⟩, hS.F ht⟩) hS.2.2 d_M_length_42
  · rw [if_neg h9] at hM
    refine lv_iload_n hx hb d_M_length_12 rfl (lv_at hl 2 rfl) ?_
    refine lv_if_lt (tgt := 41) hx hb d_M_length_13 (by decide) (fun h13 => ?_) (fun h13 => ?_)
    · rw [if_pos h13] at hM
      refine lv_iconst (v := (-1)) hx hb d_M_length_41 (by decide) ?_
      have e9 := Prod.mk.inj (Option.some.inj hM)
      exact W.iret (v := (-1)) hx hb hr (fun t ht hW => ⟨⟨(-1), (w1 σ 0 0 0), rfl, e9, by rw [ht]; exact hP, va_K.moved hW.alike hK, hD⟩, hS.F ht⟩) hS.2.2 d_M_length_42
    · rw [if_neg h13] at hM
      refine lv_iload_n hx hb d_M_length_16 rfl (lv_at hl 2 rfl) ?_
      refine lv_aload_n hx hb d_M_length_17 rfl (lv_at hl 0 rfl) ?_
      refine va_get (D := (dC, dI)) (ci := 7) (v := .ref (ad 0 10)) (C := R_M) (T := F_M) (N := 33) hx hb htb in_M hown hK hP 0 (g_M) rfl 23 (by decide) (htb _ k_642) (fun _ h9 => h9) rfl d_M_length_18 ?_
      refine lv_iload_n hx hb d_M_length_21 rfl (lv_at hl 1 rfl) ?_
      have hg22 := gd_c hM
      have hM := gd_v hM
      refine va_iald hx hb hK hP 10 0 (g_M_a10) rfl (inb_in hg22) d_M_length_22 ?_
      refine lv_icmp_ge (tgt := 41) hx hb d_M_length_23 (by decide) (fun h23 => ?_) (fun h23 => ?_)
      · rw [if_pos h23] at hM
        refine lv_iconst (v := (-1)) hx hb d_M_length_41 (by decide) ?_
        have e9 := Prod.mk.inj (Option.some.inj hM)
        exact W.iret (v := (-1)) hx hb hr (fun t ht hW => ⟨⟨(-1), (w1 σ 0 0 0), rfl, e9, by rw [ht]; exact hP, va_K.moved hW.alike hK, hD⟩, hS.F ht⟩) hS.2.2 d_M_length_42
      · rw [if_neg h23] at hM
        refine lv_aload_n hx hb d_M_length_26 rfl (lv_at hl 0 rfl) ?_
        refine va_get (D := (dC, dI)) (ci := 7) (v := .ref (ad 0 9)) (C := R_M) (T := F_M) (N := 33) hx hb htb in_M hown hK hP 0 (g_M) rfl 22 (by decide) (htb _ k_641) (fun _ h9 => h9) rfl d_M_length_27 ?_
        refine lv_sipush (v := 150) hx hb d_M_length_30 (by decide) ?_
        refine lv_iload_n hx hb d_M_length_33 rfl (lv_at hl 1 rfl) ?_
        refine lv_imul hx hb d_M_length_34 ?_
        refine lv_iload_n hx hb d_M_length_35 rfl (lv_at hl 2 rfl) ?_
        refine lv_iadd hx hb d_M_length_36 ?_
        have hg37 := gd_c hM
        have hM := gd_v hM
        refine va_iald hx hb hK hP 9 0 (g_M_a9) rfl (inb_in hg37) d_M_length_37 ?_
        refine lv_goto (tgt := 42) hx hb d_M_length_38 (by decide) ?_
        have e9 := Prod.mk.inj (Option.some.inj hM)
        exact W.iret (v := (((w1 σ 0 0 0) 0).2 9 ((150 * a1) + a2).toNatClampNeg)) hx hb hr (fun t ht hW => ⟨⟨(((w1 σ 0 0 0) 0).2 9 ((150 * a1) + a2).toNatClampNeg), (w1 σ 0 0 0), rfl, e9, by rw [ht]; exact hP, va_K.moved hW.alike hK, hD⟩, hS.F ht⟩) hS.2.2 d_M_length_42
