theorem d_M_isCard_0 : decode b_M_isCard 0 = .ok (.iload_n 1, 1) := by decide +kernel
theorem d_M_isCard_1 : decode b_M_isCard 1 = .ok (.ifCond .lt 15, 3) := by decide +kernel
theorem d_M_isCard_4 : decode b_M_isCard 4 = .ok (.iload_n 1, 1) := by decide +kernel
theorem d_M_isCard_5 : decode b_M_isCard 5 = .ok (.aload_n 0, 1) := by decide +kernel
theorem d_M_isCard_6 : decode b_M_isCard 6 = .ok (.getfield 76, 3) := by decide +kernel
theorem d_M_isCard_9 : decode b_M_isCard 9 = .ok (.if_icmp .ge 7, 3) := by decide +kernel
theorem d_M_isCard_12 : decode b_M_isCard 12 = .ok (.iconst 1, 1) := by decide +kernel
theorem d_M_isCard_13 : decode b_M_isCard 13 = .ok (.goto 4, 3) := by decide +kernel
theorem d_M_isCard_16 : decode b_M_isCard 16 = .ok (.iconst 0, 1) := by decide +kernel
theorem d_M_isCard_17 : decode b_M_isCard 17 = .ok (.ireturn, 1) := by decide +kernel
def m_M_isCard (N : Nat) (σ : SX) (a1 : Int32) : Option (Int32 × SX) :=
  (if a1 < 0 then some (0, σ) else (if ((σ 0).1 2) ≤ a1 then some (0, σ) else some (1, σ)))

set_option maxHeartbeats 4000000 in
set_option maxRecDepth 100000 in
theorem c_M_isCard (l : Launch) (dC : Nat → ClassId) (dI : Nat → Nat → Nat) (ad : Nat → Nat → Nat) (cs : Nat → ClassId) (sz N : Nat) (σ : SX) (a1 : Int32) {r0 : Int32} {σ0 : SX} (hM : m_M_isCard N σ a1 = some (r0, σ0)) : Met l y_M_isCard (wd y_M_isCard b_M_isCard 2 (some .boolean)) ({ frames := 0, cells := 0, slots := 0, locals := 0 }) (va_Pc [.ref (ad 0 0), .int a1] (preM dC dI ad cs sz σ)) (va_Qi (fun (r : Int32) (_ : Unit) => r = r0 ∧ σ = σ0) (fun _ _ => True) (fun q => sz ≤ q)) 0 0 (fun q => sz ≤ q) := by
  refine Met.ofW (cc := b_M_isCard) (maxL := 2) (ret := (some .boolean)) (by decide) rfl ?_
  intro p e s m args below meth c s₁ B hml hv
  obtain ⟨rfl, hsz, hP, hK, hD0, hN⟩ := hv
  have hx := B.exec
  have hb := B.bytes
  have hr := B.returns
  have hts := atoms_spec (ws := (wd y_M_isCard b_M_isCard 2 (some .boolean))) B.pre
  have htb : ∀ w ∈ tb, w.before _ s = true := fun w h => hts w (List.mem_cons_of_mem _ h)
  have hown : s.vm.findClass R_M = some m.cls := findClass_of_methodNamed B.named
  have hlocks := B.notSynchronized
  subst hsz
  have hD := hD0
  have hA : ∀ q : Nat, s.heap.size ≤ q → s.heap.size ≤ q := fun q h => h
  have hS : va_S (fun q => s.heap.size ≤ q) s.heap s.heap [] := va_S.rf
  have hP : va_P (dC, dI) classes (wM ad cs σ) s.heap := hP
  have hl := lv_entry ([.ref (ad 0 0), .int a1]) (n := 2) (Nat.le_of_ble_eq_true rfl)
  rw [lg_entry_eq]
  generalize (lg_sl ([.ref (ad 0 0), .int a1]) ++ List.replicate (2 - (lg_sl ([.ref (ad 0 0), .int a1])).length) Slot.unset).toArray = ls at hl ⊢
  have hl : lv_has ls 2 [(0, .ref (ad 0 0)), (1, .int a1)] := hl
  rw [m_M_isCard] at hM
  refine lv_iload_n hx hb d_M_isCard_0 rfl (lv_at hl 1 rfl) ?_
  refine lv_if_lt (tgt := 16) hx hb d_M_isCard_1 (by decide) (fun h1 => ?_) (fun h1 => ?_)
  · rw [if_pos h1] at hM
    refine lv_iconst (v := 0) hx hb d_M_isCard_16 (by decide) ?_
    have e9 := Prod.mk.inj (Option.some.inj hM)
    exact W.zret (ty := .boolean) (v := 0) hx hb hr rfl (fun t ht hW => ⟨⟨0, (), rfl, e9, trivial⟩, hS.F ht⟩) hS.2.2 d_M_isCard_17
  · rw [if_neg h1] at hM
    refine lv_iload_n hx hb d_M_isCard_4 rfl (lv_at hl 1 rfl) ?_
    refine lv_aload_n hx hb d_M_isCard_5 rfl (lv_at hl 0 rfl) ?_
    refine va_get (D := (dC, dI)) (ci := 7) (v := .int ((σ 0).1 2)) (C := R_M) (T := F_M) (N := 33) hx hb htb in_M hown hK hP 0 (g_M) rfl 2 (by decide) (htb _ k_621) (fun _ h9 => h9) rfl d_M_isCard_6 ?_
    refine lv_icmp_ge (tgt := 16) hx hb d_M_isCard_9 (by decide) (fun h9 => ?_) (fun h9 => ?_)
    · rw [if_pos h9] at hM
      refine lv_iconst (v := 0) hx hb d_M_isCard_16 (by decide) ?_
      have e9 := Prod.mk.inj (Option.some.inj hM)
      exact W.zret (ty := .boolean) (v := 0) hx hb hr rfl (fun t ht hW => ⟨⟨0, (), rfl, e9, trivial⟩, hS.F ht⟩) hS.2.2 d_M_isCard_17
    · rw [if_neg h9] at hM
      refine lv_iconst (v := 1) hx hb d_M_isCard_12 (by decide) ?_
      refine lv_goto (tgt := 17) hx hb d_M_isCard_13 (by decide) ?_
      have e9 := Prod.mk.inj (Option.some.inj hM)
      exact W.zret (ty := .boolean) (v := 1) hx hb hr rfl (fun t ht hW => ⟨⟨1, (), rfl, e9, trivial⟩, hS.F ht⟩) hS.2.2 d_M_isCard_17

theorem d_M_compare_0 : decode b_M_compare 0 = .ok (.aload_n 0, 1) := by decide +kernel
theorem d_M_compare_1 : decode b_M_compare 1 = .ok (.iconst 0, 1) := by decide +kernel
theorem d_M_compare_2 : decode b_M_compare 2 = .ok (.putfield 70, 3) := by decide +kernel
theorem d_M_compare_5 : decode b_M_compare 5 = .ok (.aload_n 0, 1) := by decide +kernel
theorem d_M_compare_6 : decode b_M_compare 6 = .ok (.iload_n 1, 1) := by decide +kernel
theorem d_M_compare_7 : decode b_M_compare 7 = .ok (.invokevirtual 88, 3) := by decide +kernel
theorem d_M_compare_10 : decode b_M_compare 10 = .ok (.ifCond .eq 16, 3) := by decide +kernel
theorem d_M_compare_13 : decode b_M_compare 13 = .ok (.aload_n 0, 1) := by decide +kernel
theorem d_M_compare_14 : decode b_M_compare 14 = .ok (.iload_n 2, 1) := by decide +kernel
theorem d_M_compare_15 : decode b_M_compare 15 = .ok (.invokevirtual 88, 3) := by decide +kernel
theorem d_M_compare_18 : decode b_M_compare 18 = .ok (.ifCond .eq 8, 3) := by decide +kernel
theorem d_M_compare_21 : decode b_M_compare 21 = .ok (.iload_n 1, 1) := by decide +kernel
theorem d_M_compare_22 : decode b_M_compare 22 = .ok (.iload_n 2, 1) := by decide +kernel
theorem d_M_compare_23 : decode b_M_compare 23 = .ok (.if_icmp .ne 7, 3) := by decide +kernel
theorem d_M_compare_26 : decode b_M_compare 26 = .ok (.iconst 0, 1) := by decide +kernel
theorem d_M_compare_27 : decode b_M_compare 27 = .ok (.goto 17, 3) := by decide +kernel
theorem d_M_compare_30 : decode b_M_compare 30 = .ok (.aload_n 0, 1) := by decide +kernel
theorem d_M_compare_31 : decode b_M_compare 31 = .ok (.iload_n 1, 1) := by decide +kernel
theorem d_M_compare_32 : decode b_M_compare 32 = .ok (.iload_n 2, 1) := by decide +kernel
theorem d_M_compare_33 : decode b_M_compare 33 = .ok (.invokevirtual 92, 3) := by decide +kernel
theorem d_M_compare_36 : decode b_M_compare 36 = .ok (.ifCond .eq 7, 3) := by decide +kernel
theorem d_M_compare_39 : decode b_M_compare 39 = .ok (.iconst (-1), 1) := by decide +kernel
theorem d_M_compare_40 : decode b_M_compare 40 = .ok (.goto 4, 3) := by decide +kernel
theorem d_M_compare_43 : decode b_M_compare 43 = .ok (.iconst 1, 1) := by decide +kernel
theorem d_M_compare_44 : decode b_M_compare 44 = .ok (.ireturn, 1) := by decide +kernel
def m_M_compare (N : Nat) (σ : SX) (a1 : Int32) (a2 : Int32) : Option (Int32 × SX) :=
  (bI (m_M_isCard N (w1 σ 0 0 0) a1) fun r7 σ7 => (if r7 = 0 then some (0, (w1 σ 0 0 0)) else (bI (m_M_isCard N (w1 σ 0 0 0) a2) fun r15 σ15 => (if r15 = 0 then some (0, (w1 σ 0 0 0)) else (if a1 = a2 then some (0, (w1 σ 0 0 0)) else (bI (m_M_comesFirst N (w1 σ 0 0 0) a1 a2) fun r33 σ33 => (if r33 = 0 then some (1, (w1 σ 0 0 0)) else some ((-1), (w1 σ 0 0 0)))))))))

set_option maxHeartbeats 4000000 in
set_option maxRecDepth 100000 in
theorem c_M_compare (l : Launch) (dC : Nat → ClassId) (dI : Nat → Nat → Nat) (ad : Nat → Nat → Nat) (cs : Nat → ClassId) (sz N : Nat) (σ : SX) (a1 : Int32) (a2 : Int32) {r0 : Int32} {σ0 : SX} (hM : m_M_compare N σ a1 a2 = some (r0, σ0)) : Met l y_M_compare (wd y_M_compare b_M_compare 3 (some .int)) ({ frames := 2, cells := 0, slots := 0, locals := 48 }) (va_Pc [.ref (ad 0 0), .int a1, .int a2] (preM dC dI ad cs sz σ)) (va_Qi (fun (r : Int32) (u : SX) => r = r0 ∧ u = σ0) (atM dC dI ad cs (va_A (wM ad cs σ) sz)) (va_A (wM ad cs σ) sz)) 0 0 (va_A (wM ad cs σ) sz) := by
  refine Met.ofW (cc := b_M_compare) (maxL := 3) (ret := (some .int)) (by decide) rfl ?_
  intro p e s m args below meth c s₁ B hml hv
  obtain ⟨rfl, hsz, hP, hK, hD0, hN⟩ := hv
  have hx := B.exec
  have hb := B.bytes
  have hr := B.returns
  have hts := atoms_spec (ws := (wd y_M_compare b_M_compare 3 (some .int))) B.pre
  have htb : ∀ w ∈ tb, w.before _ s = true := fun w h => hts w (List.mem_cons_of_mem _ h)
  have hown : s.vm.findClass R_M = some m.cls := findClass_of_methodNamed B.named
  have hlocks := B.notSynchronized
  subst hsz
  have hD := hD0.self (sz := s.heap.size)
  generalize hAe : va_A (wM ad cs σ) s.heap.size = A at hD ⊢
  have hA : ∀ q : Nat, s.heap.size ≤ q → A q := fun q h => by rw [← hAe]; exact Or.inr h
  have hS : va_S A s.heap s.heap [] := va_S.rf
  have hP : va_P (dC, dI) classes (wM ad cs σ) s.heap := hP
  have hl := lv_entry ([.ref (ad 0 0), .int a1, .int a2]) (n := 3) (Nat.le_of_ble_eq_true rfl)
  rw [lg_entry_eq]
  generalize (lg_sl ([.ref (ad 0 0), .int a1, .int a2]) ++ List.replicate (3 - (lg_sl ([.ref (ad 0 0), .int a1, .int a2])).length) Slot.unset).toArray = ls at hl ⊢
  have hl : lv_has ls 3 [(0, .ref (ad 0 0)), (1, .int a1), (2, .int a2)] := hl
  rw [m_M_compare] at hM
  refine lv_aload_n hx hb d_M_compare_0 rfl (lv_at hl 0 rfl) ?_
  refine lv_iconst (v := 0) hx hb d_M_compare_1 (by decide) ?_
  refine va_put (D := (dC, dI)) (ci := 7) (v := .int 0) (ty := .int) (C := R_M) (T := F_M) (N := 33) hx hb htb in_M ft_M ft_M_ok n_M hown hK hP hD hS 0 (g_M) rfl 0 (by decide) (htb _ k_619) (fun _ h9 => h9) rfl (by decide +kernel) rfl rfl (Nat.le_of_ble_eq_true rfl) d_M_compare_2 (fun H locs hP hD hS => ?_)
  have hP := P_eq (s_M_0) hP
  have hD := D_eq (s_M_0) hD
  refine lv_aload_n hx hb d_M_compare_5 rfl (lv_at hl 0 rfl) ?_
  refine lv_iload_n hx hb d_M_compare_6 rfl (lv_at hl 1 rfl) ?_
  obtain ⟨x7, y7, hq7, hM⟩ := bI_some hM
  refine va_calli (va_runV (As := [.int a1]) (rest := []) ⟨hx, hb, hml, hown, hts⟩ (c_M_isCard l dC dI ad cs _ N (w1 σ 0 0 0) a1 hq7) (cwV 1 hts (goodV k_731 k_733 ks_M_isCard k_8 k_734) rfl rfl rfl ⟨rfl, by decide, by decide, by decide +kernel⟩ ⟨Nat.le_of_ble_eq_true rfl, Nat.le_of_ble_eq_true rfl⟩) ⟨blindM, va_recv hK hP rfl (g_M), payM hP hK hD hN⟩ rfl rfl hl.1 rfl (lv_room (Nat.le_of_ble_eq_true rfl)) d_M_compare_7 ⟨Nat.zero_le _, Nat.zero_le _⟩) hS (fun q h0 h => absurd h0 (Nat.not_lt.mpr h)) (fun q h => hA q (Nat.le_trans hS.1 h)) (fun r7 u t H locs ht hvm hpost hB hz1 hk1 hS => ?_)
  obtain ⟨e1, e2⟩ := hpost
  subst e1
  subst e2
  have hP := keepP hP hk1
  refine lv_if_eq (tgt := 26) hx hb d_M_compare_10 (by decide) (fun h10 => ?_) (fun h10 => ?_)
  · rw [if_pos h10] at hM
    refine lv_iconst (v := 0) hx hb d_M_compare_26 (by decide) ?_
    refine lv_goto (tgt := 44) hx hb d_M_compare_27 (by decide) ?_
    have e9 := Prod.mk.inj (Option.some.inj hM)
    exact W.iret (v := 0) hx hb hr (fun t ht hW => ⟨⟨0, (w1 σ 0 0 0), rfl, e9, by rw [ht]; exact hP, va_K.moved hW.alike hK, hD⟩, hS.F ht⟩) hS.2.2 d_M_compare_44
  · rw [if_neg h10] at hM
    refine lv_aload_n hx hb d_M_compare_13 rfl (lv_at hl 0 rfl) ?_
    refine lv_iload_n hx hb d_M_compare_14 rfl (lv_at hl 2 rfl) ?_
    obtain ⟨x15, y15, hq15, hM⟩ := bI_some hM
    refine va_calli (va_runV (As := [.int a2]) (rest := []) ⟨hx, hb, hml, hown, hts⟩ (c_M_isCard l dC dI ad cs _ N (w1 σ 0 0 0) a2 hq15) (cwV 1 hts (goodV k_731 k_733 ks_M_isCard k_8 k_734) rfl rfl rfl ⟨rfl, by decide, by decide, by decide +kernel⟩ ⟨Nat.le_of_ble_eq_true rfl, Nat.le_of_ble_eq_true rfl⟩) ⟨blindM, va_recv hK hP rfl (g_M), payM hP hK hD hN⟩ rfl rfl hl.1 rfl (lv_room (Nat.le_of_ble_eq_true rfl)) d_M_compare_15 ⟨Nat.zero_le _, Nat.zero_le _⟩) hS (fun q h0 h => absurd h0 (Nat.not_lt.mpr h)) (fun q h => hA q (Nat.le_trans hS.1 h)) (fun r15 u t H locs ht hvm hpost hB hz1 hk1 hS => ?_)
    obtain ⟨e1, e2⟩ := hpost
    subst e1
    subst e2
    have hP := keepP hP hk1
    refine lv_if_eq (tgt := 26) hx hb d_M_compare_18 (by decide) (fun h18 => ?_) (fun h18 => ?_)
    · rw [if_pos h18] at hM
      refine lv_iconst (v := 0) hx hb d_M_compare_26 (by decide) ?_
      refine lv_goto (tgt := 44) hx hb d_M_compare_27 (by decide) ?_
      have e9 := Prod.mk.inj (Option.some.inj hM)
      exact W.iret (v := 0) hx hb hr (fun t ht hW => ⟨⟨0, (w1 σ 0 0 0), rfl, e9, by rw [ht]; exact hP, va_K.moved hW.alike hK, hD⟩, hS.F ht⟩) hS.2.2 d_M_compare_44
    · rw [if_neg h18] at hM
      refine lv_iload_n hx hb d_M_compare_21 rfl (lv_at hl 1 rfl) ?_
      refine lv_iload_n hx hb d_M_compare_22 rfl (lv_at hl 2 rfl) ?_
      refine lv_icmp_ne (tgt := 30) hx hb d_M_compare_23 (by decide) (fun h23 => ?_) (fun h23 => ?_)
      · rw [if_neg h23] at hM
        refine lv_aload_n hx hb d_M_compare_30 rfl (lv_at hl 0 rfl) ?_
        refine lv_iload_n hx hb d_M_compare_31 rfl (lv_at hl 1 rfl) ?_
        refine lv_iload_n hx hb d_M_compare_32 rfl (lv_at hl 2 rfl) ?_
        obtain ⟨x33, y33, hq33, hM⟩ := bI_some hM
        refine va_calli (va_runV (As := [.int a1, .int a2]) (rest := []) ⟨hx, hb, hml, hown, hts⟩ (c_M_comesFirst l dC dI ad cs _ N (w1 σ 0 0 0) a1 a2 hq33) (cwV 2 hts (goodV k_735 k_737 ks_M_comesFirst k_8 k_738) rfl rfl rfl ⟨rfl, by decide, by decide, by decide +kernel⟩ ⟨Nat.le_of_ble_eq_true rfl, Nat.le_of_ble_eq_true rfl⟩) ⟨blindM, va_recv hK hP rfl (g_M), payM hP hK hD hN⟩ rfl rfl hl.1 rfl (lv_room (Nat.le_of_ble_eq_true rfl)) d_M_compare_33 ⟨Nat.zero_le _, Nat.zero_le _⟩) hS (fun q h0 h => absurd h0 (Nat.not_lt.mpr h)) (fun q h => hA q (Nat.le_trans hS.1 h)) (fun r33 u t H locs ht hvm hpost hB hz1 hk1 hS => ?_)
        obtain ⟨e1, e2⟩ := hpost
        subst e1
        subst e2
        have hP := keepP hP hk1
        refine lv_if_eq (tgt := 43) hx hb d_M_compare_36 (by decide) (fun h36 => ?_) (fun h36 => ?_)
        · rw [if_pos h36] at hM
          refine lv_iconst (v := 1) hx hb d_M_compare_43 (by decide) ?_
          have e9 := Prod.mk.inj (Option.some.inj hM)
          exact W.iret (v := 1) hx hb hr (fun t ht hW => ⟨⟨1, (w1 σ 0 0 0), rfl, e9, by rw [ht]; exact hP, va_K.moved hW.alike hK, hD⟩, hS.F ht⟩) hS.2.2 d_M_compare_44
        · rw [if_neg h36] at hM
          refine lv_iconst (v := (-1)) hx hb d_M_compare_39 (by decide) ?_
          refine lv_goto (tgt := 44) hx hb d_M_compare_40 (by decide) ?_
          have e9 := Prod.mk.inj (Option.some.inj hM)
          exact W.iret (v := (-1)) hx hb hr (fun t ht hW => ⟨⟨(-1), (w1 σ 0 0 0), rfl, e9, by rw [ht]; exact hP, va_K.moved hW.alike hK, hD⟩, hS.F ht⟩) hS.2.2 d_M_compare_44
      · rw [if_pos h23] at hM
        refine lv_iconst (v := 0) hx hb d_M_compare_26 (by decide) ?_
        refine lv_goto (tgt := 44) hx hb d_M_compare_27 (by decide) ?_
        have e9 := Prod.mk.inj (Option.some.inj hM)
        exact W.iret (v := 0) hx hb hr (fun t ht hW => ⟨⟨0, (w1 σ 0 0 0), rfl, e9, by rw [ht]; exact hP, va_K.moved hW.alike hK, hD⟩, hS.F ht⟩) hS.2.2 d_M_compare_44

theorem d_M_field_0 : decode b_M_field 0 = .ok (.aload_n 0, 1) := by decide +kernel
theorem d_M_field_1 : decode b_M_field 1 = .ok (.iconst 0, 1) := by decide +kernel
theorem d_M_field_2 : decode b_M_field 2 = .ok (.putfield 70, 3) := by decide +kernel
theorem d_M_field_5 : decode b_M_field 5 = .ok (.aload_n 0, 1) := by decide +kernel
theorem d_M_field_6 : decode b_M_field 6 = .ok (.iload_n 1, 1) := by decide +kernel
theorem d_M_field_7 : decode b_M_field 7 = .ok (.invokevirtual 88, 3) := by decide +kernel
theorem d_M_field_10 : decode b_M_field 10 = .ok (.ifCond .eq 25, 3) := by decide +kernel
theorem d_M_field_13 : decode b_M_field 13 = .ok (.iload_n 2, 1) := by decide +kernel
theorem d_M_field_14 : decode b_M_field 14 = .ok (.ifCond .lt 21, 3) := by decide +kernel
theorem d_M_field_17 : decode b_M_field 17 = .ok (.iload_n 2, 1) := by decide +kernel
theorem d_M_field_18 : decode b_M_field 18 = .ok (.iconst 1, 1) := by decide +kernel
theorem d_M_field_19 : decode b_M_field 19 = .ok (.if_icmp .gt 16, 3) := by decide +kernel
theorem d_M_field_22 : decode b_M_field 22 = .ok (.aload_n 0, 1) := by decide +kernel
theorem d_M_field_23 : decode b_M_field 23 = .ok (.getfield 7, 3) := by decide +kernel
theorem d_M_field_26 : decode b_M_field 26 = .ok (.iconst 2, 1) := by decide +kernel
theorem d_M_field_27 : decode b_M_field 27 = .ok (.iload_n 1, 1) := by decide +kernel
theorem d_M_field_28 : decode b_M_field 28 = .ok (.imul, 1) := by decide +kernel
theorem d_M_field_29 : decode b_M_field 29 = .ok (.iload_n 2, 1) := by decide +kernel
theorem d_M_field_30 : decode b_M_field 30 = .ok (.iadd, 1) := by decide +kernel
theorem d_M_field_31 : decode b_M_field 31 = .ok (.iaload, 1) := by decide +kernel
theorem d_M_field_32 : decode b_M_field 32 = .ok (.goto 4, 3) := by decide +kernel
theorem d_M_field_35 : decode b_M_field 35 = .ok (.iconst 0, 1) := by decide +kernel
theorem d_M_field_36 : decode b_M_field 36 = .ok (.ireturn, 1) := by decide +kernel
def m_M_field (N : Nat) (σ : SX) (a1 : Int32) (a2 : Int32) : Option (Int32 × SX) :=
  (bI (m_M_isCard N (w1 σ 0 0 0) a1) fun r7 σ7 => (if r7 = 0 then some (0, (w1 σ 0 0 0)) else (if a2 < 0 then some (0, (w1 σ 0 0 0)) else (if 1 < a2 then some (0, (w1 σ 0 0 0)) else (if inb ((2 * a1) + a2) 300 = true then some ((((w1 σ 0 0 0) 0).2 1 ((2 * a1) + a2).toNatClampNeg), (w1 σ 0 0 0)) else none)))))

set_option maxHeartbeats 4000000 in
set_option maxRecDepth 100000 in
theorem c_M_field (l : Launch) (dC : Nat → ClassId) (dI : Nat → Nat → Nat) (ad : Nat → Nat → Nat) (cs : Nat → ClassId) (sz N : Nat) (σ : SX) (a1 : Int32) (a2 : Int32) {r0 : Int32} {σ0 : SX} (hM : m_M_field N σ a1 a2 = some (r0, σ0)) : Met l y_M_field (wd y_M_field b_M_field 3 (some .int)) ({ frames := 1, cells := 0, slots := 0, locals := 21 }) (va_Pc [.ref (ad 0 0), .int a1, .int a2] (preM dC dI ad cs sz σ)) (va_Qi (fun (r : Int32) (u : SX) => r = r0 ∧ u = σ0) (atM dC dI ad cs (va_A (wM ad cs σ) sz)) (va_A (wM ad cs σ) sz)) 0 0 (va_A (wM ad cs σ) sz) := by
  refine Met.ofW (cc := b_M_field) (maxL := 3) (ret := (some .int)) (by decide) rfl ?_
  intro p e s m args below meth c s₁ B hml hv
  obtain ⟨rfl, hsz, hP, hK, hD0, hN⟩ := hv
  have hx := B.exec
  have hb := B.bytes
  have hr := B.returns
  have hts := atoms_spec (ws := (wd y_M_field b_M_field 3 (some .int))) B.pre
  have htb : ∀ w ∈ tb, w.before _ s = true := fun w h => hts w (List.mem_cons_of_mem _ h)
  have hown : s.vm.findClass R_M = some m.cls := findClass_of_methodNamed B.named
  have hlocks := B.notSynchronized
  subst hsz
  have hD := hD0.self (sz := s.heap.size)
  generalize hAe : va_A (wM ad cs σ) s.heap.size = A at hD ⊢
  have hA : ∀ q : Nat, s.heap.size ≤ q → A q := fun q h => by rw [← hAe]; exact Or.inr h
  have hS : va_S A s.heap s.heap [] := va_S.rf
  have hP : va_P (dC, dI) classes (wM ad cs σ) s.heap := hP
  have hl := lv_entry ([.ref (ad 0 0), .int a1, .int a2]) (n := 3) (Nat.le_of_ble_eq_true rfl)
  rw [lg_entry_eq]
  generalize (lg_sl ([.ref (ad 0 0), .int a1, .int a2]) ++ List.replicate (3 - (lg_sl ([.ref (ad 0 0), .int a1, .int a2])).length) Slot.unset).toArray = ls at hl ⊢
  have hl : lv_has ls 3 [(0, .ref (ad 0 0)), (1, .int a1), (2, .int a2)] := hl
  rw [m_M_field] at hM
  refine lv_aload_n hx hb d_M_field_0 rfl (lv_at hl 0 rfl) ?_
  refine lv_iconst (v := 0) hx hb d_M_field_1 (by decide) ?_
  refine va_put (D := (dC, dI)) (ci := 7) (v := .int 0) (ty := .int) (C := R_M) (T := F_M) (N := 33) hx hb htb in_M ft_M ft_M_ok n_M hown hK hP hD hS 0 (g_M) rfl 0 (by decide) (htb _ k_619) (fun _ h9 => h9) rfl (by decide +kernel) rfl rfl (Nat.le_of_ble_eq_true rfl) d_M_field_2 (fun H locs hP hD hS => ?_)
  have hP := P_eq (s_M_0) hP
  have hD := D_eq (s_M_0) hD
  refine lv_aload_n hx hb d_M_field_5 rfl (lv_at hl 0 rfl) ?_
  refine lv_iload_n hx hb d_M_field_6 rfl (lv_at hl 1 rfl) ?_
  obtain ⟨x7, y7, hq7, hM⟩ := bI_some hM
  refine va_calli (va_runV (As := [.int a1]) (rest := []) ⟨hx, hb, hml, hown, hts⟩ (c_M_isCard l dC dI ad cs _ N (w1 σ 0 0 0) a1 hq7) (cwV 1 hts (goodV k_731 k_733 ks_M_isCard k_8 k_734) rfl rfl rfl ⟨rfl, by decide, by decide, by decide +kernel⟩ ⟨Nat.le_of_ble_eq_true rfl, Nat.le_of_ble_eq_true rfl⟩) ⟨blindM, va_recv hK hP rfl (g_M), payM hP hK hD hN⟩ rfl rfl hl.1 rfl (lv_room (Nat.le_of_ble_eq_true rfl)) d_M_field_7 ⟨Nat.zero_le _, Nat.zero_le _⟩) hS (fun q h0 h => absurd h0 (Nat.not_lt.mpr h)) (fun q h => hA q (Nat.le_trans hS.1 h)) (fun r7 u t H locs ht hvm hpost hB hz1 hk1 hS => ?_)
  obtain ⟨e1, e2⟩ := hpost
  subst e1
  subst e2
  have hP := keepP hP hk1
  refine lv_if_eq (tgt := 35) hx hb d_M_field_10 (by decide) (fun h10 => ?_) (fun h10 => ?_)
  · rw [if_pos h10] at hM
    refine lv_iconst (v := 0) hx hb d_M_field_35 (by decide) ?_
    have e9 := Prod.mk.inj (Option.some.inj hM)
    exact W.iret (v := 0) hx hb hr (fun t ht hW => ⟨⟨0, (w1 σ 0 0 0), rfl, e9, by rw [ht]; exact hP, va_K.moved hW.alike hK, hD⟩, hS.F ht⟩) hS.2.2 d_M_field_36
  · rw [if_neg h10] at hM
    refine lv_iload_n hx hb d_M_field_13 rfl (lv_at hl 2 rfl) ?_
    refine lv_if_lt (tgt := 35) hx hb d_M_field_14 (by decide) (fun h14 => ?_) (fun h14 => ?_)
    · rw [if_pos h14] at hM
      refine lv_iconst (v := 0) hx hb d_M_field_35 (by decide) ?_
      have e9 := Prod.mk.inj (Option.some.inj hM)
      exact W.iret (v := 0) hx hb hr (fun t ht hW => ⟨⟨0, (w1 σ 0 0 0), rfl, e9, by rw [ht]; exact hP, va_K.moved hW.alike hK, hD⟩, hS.F ht⟩) hS.2.2 d_M_field_36
    · rw [if_neg h14] at hM
      refine lv_iload_n hx hb d_M_field_17 rfl (lv_at hl 2 rfl) ?_
      refine lv_iconst (v := 1) hx hb d_M_field_18 (by decide) ?_
      refine lv_icmp_gt (tgt := 35) hx hb d_M_field_19 (by decide) (fun h19 => ?_) (fun h19 => ?_)
      · rw [if_pos h19] at hM
        refine lv_iconst (v := 0) hx hb d_M_field_35 (by decide) ?_
        have e9 := Prod.mk.inj (Option.some.inj hM)
        exact W.iret (v := 0) hx hb hr (fun t ht hW => ⟨⟨0, (w1 σ 0 0 0), rfl, e9, by rw [ht]; exact hP, va_K.moved hW.alike hK, hD⟩, hS.F ht⟩) hS.2.2 d_M_field_36
      · rw [if_neg h19] at hM
        refine lv_aload_n hx hb d_M_field_22 rfl (lv_at hl 0 rfl) ?_
        refine va_get (D := (dC, dI)) (ci := 7) (v := .ref (ad 0 1)) (C := R_M) (T := F_M) (N := 33) hx hb htb in_M hown hK hP 0 (g_M) rfl 3 (by decide) (htb _ k_622) (fun _ h9 => h9) rfl d_M_field_23 ?_
        refine lv_iconst (v := 2) hx hb d_M_field_26 (by decide) ?_
        refine lv_iload_n hx hb d_M_field_27 rfl (lv_at hl 1 rfl) ?_
        refine lv_imul hx hb d_M_field_28 ?_
        refine lv_iload_n hx hb d_M_field_29 rfl (lv_at hl 2 rfl) ?_
        refine lv_iadd hx hb d_M_field_30 ?_
        have hg31 := gd_c hM
        have hM := gd_v hM
        refine va_iald hx hb hK hP 1 0 (g_M_a1) rfl (inb_in hg31) d_M_field_31 ?_
        refine lv_goto (tgt := 36) hx hb d_M_field_32 (by decide) ?_
        have e9 := Prod.mk.inj (Option.some.inj hM)
        exact W.iret (v := (((w1 σ 0 0 0) 0).2 1 ((2 * a1) + a2).toNatClampNeg)) hx hb hr (fun t ht hW => ⟨⟨(((w1 σ 0 0 0) 0).2 1 ((2 * a1) + a2).toNatClampNeg), (w1 σ 0 0 0), rfl, e9, by rw [ht]; exact hP, va_K.moved hW.alike hK, hD⟩, hS.F ht⟩) hS.2.2 d_M_field_36

theorem d_M_reset_0 : decode b_M_reset 0 = .ok (.aload_n 0, 1) := by decide +kernel
theorem d_M_reset_1 : decode b_M_reset 1 = .ok (.iconst 0, 1) := by decide +kernel
theorem d_M_reset_2 : decode b_M_reset 2 = .ok (.putfield 96, 3) := by decide +kernel
theorem d_M_reset_5 : decode b_M_reset 5 = .ok (.aload_n 0, 1) := by decide +kernel
theorem d_M_reset_6 : decode b_M_reset 6 = .ok (.iconst 0, 1) := by decide +kernel
theorem d_M_reset_7 : decode b_M_reset 7 = .ok (.putfield 99, 3) := by decide +kernel
theorem d_M_reset_10 : decode b_M_reset 10 = .ok (.aload_n 0, 1) := by decide +kernel
theorem d_M_reset_11 : decode b_M_reset 11 = .ok (.iconst 0, 1) := by decide +kernel
theorem d_M_reset_12 : decode b_M_reset 12 = .ok (.putfield 102, 3) := by decide +kernel
theorem d_M_reset_15 : decode b_M_reset 15 = .ok (.aload_n 0, 1) := by decide +kernel
theorem d_M_reset_16 : decode b_M_reset 16 = .ok (.iconst 0, 1) := by decide +kernel
theorem d_M_reset_17 : decode b_M_reset 17 = .ok (.putfield 105, 3) := by decide +kernel
theorem d_M_reset_20 : decode b_M_reset 20 = .ok (.aload_n 0, 1) := by decide +kernel
theorem d_M_reset_21 : decode b_M_reset 21 = .ok (.iconst 0, 1) := by decide +kernel
theorem d_M_reset_22 : decode b_M_reset 22 = .ok (.putfield 108, 3) := by decide +kernel
theorem d_M_reset_25 : decode b_M_reset 25 = .ok (.iconst 0, 1) := by decide +kernel
theorem d_M_reset_26 : decode b_M_reset 26 = .ok (.istore_n 1, 1) := by decide +kernel
theorem d_M_reset_27 : decode b_M_reset 27 = .ok (.iload_n 1, 1) := by decide +kernel
theorem d_M_reset_28 : decode b_M_reset 28 = .ok (.iconst 4, 1) := by decide +kernel
theorem d_M_reset_29 : decode b_M_reset 29 = .ok (.if_icmp .ge 30, 3) := by decide +kernel
theorem d_M_reset_32 : decode b_M_reset 32 = .ok (.aload_n 0, 1) := by decide +kernel
theorem d_M_reset_33 : decode b_M_reset 33 = .ok (.getfield 46, 3) := by decide +kernel
theorem d_M_reset_36 : decode b_M_reset 36 = .ok (.iload_n 1, 1) := by decide +kernel
theorem d_M_reset_37 : decode b_M_reset 37 = .ok (.iconst 0, 1) := by decide +kernel
theorem d_M_reset_38 : decode b_M_reset 38 = .ok (.iastore, 1) := by decide +kernel
theorem d_M_reset_39 : decode b_M_reset 39 = .ok (.aload_n 0, 1) := by decide +kernel
theorem d_M_reset_40 : decode b_M_reset 40 = .ok (.getfield 49, 3) := by decide +kernel
theorem d_M_reset_43 : decode b_M_reset 43 = .ok (.iload_n 1, 1) := by decide +kernel
theorem d_M_reset_44 : decode b_M_reset 44 = .ok (.iconst 0, 1) := by decide +kernel
theorem d_M_reset_45 : decode b_M_reset 45 = .ok (.iastore, 1) := by decide +kernel
theorem d_M_reset_46 : decode b_M_reset 46 = .ok (.aload_n 0, 1) := by decide +kernel
theorem d_M_reset_47 : decode b_M_reset 47 = .ok (.getfield 52, 3) := by decide +kernel
theorem d_M_reset_50 : decode b_M_reset 50 = .ok (.iload_n 1, 1) := by decide +kernel
theorem d_M_reset_51 : decode b_M_reset 51 = .ok (.iload_n 1, 1) := by decide +kernel
theorem d_M_reset_52 : decode b_M_reset 52 = .ok (.iastore, 1) := by decide +kernel
theorem d_M_reset_53 : decode b_M_reset 53 = .ok (.iinc 1 1, 3) := by decide +kernel
theorem d_M_reset_56 : decode b_M_reset 56 = .ok (.goto (-29), 3) := by decide +kernel
theorem d_M_reset_59 : decode b_M_reset 59 = .ok (.return_, 1) := by decide +kernel
def m_M_reset_27 (N : Nat) : Nat → SX → Int32 → Option (SX)
  | 0, _, _ => none
  | n27 + 1, σ, v1 =>
    (if 4 ≤ v1 then some σ else (if inb v1 4 = true then (if inb v1 4 = true then (if inb v1 4 = true then m_M_reset_27 N n27 (w3 (w3 (w3 σ 0 10 v1 0) 0 11 v1 0) 0 12 v1 v1) (v1 + 1) else none) else none) else none))

def m_M_reset (N : Nat) (σ : SX) : Option (SX) :=
  m_M_reset_27 N N (w1 (w1 (w1 (w1 (w1 σ 0 9 0) 0 10 0) 0 11 0) 0 12 0) 0 13 0) 0

set_option maxHeartbeats 4000000 in
set_option maxRecDepth 100000 in
theorem c_M_reset (l : Launch) (dC : Nat → ClassId) (dI : Nat → Nat → Nat) (ad : Nat → Nat → Nat) (cs : Nat → ClassId) (sz N : Nat) (σ : SX) {σ0 : SX} (hM : m_M_reset N σ = some σ0) : Met l y_M_reset (wd y_M_reset b_M_reset 2 none) ({ frames := 0, cells := 0, slots := 0, locals := 0 }) (va_Pc [.ref (ad 0 0)] (preM dC dI ad cs sz σ)) (va_Qv (fun (u : SX) => u = σ0) (atM dC dI ad cs (va_A (wM ad cs σ) sz)) (va_A (wM ad cs σ) sz)) 0 0 (va_A (wM ad cs σ) sz) := by
  refine Met.ofW (cc := b_M_reset) (maxL := 2) (ret := none) (by decide) rfl ?_
  intro p e s m args below meth c s₁ B hml hv
  obtain ⟨rfl, hsz, hP, hK, hD0, hN⟩ := hv
  have hx := B.exec
  have hb := B.bytes
  have hr := B.returns
  have hts := atoms_spec (ws := (wd y_M_reset b_M_reset 2 none)) B.pre
  have htb : ∀ w ∈ tb, w.before _ s = true := fun w h => hts w (List.mem_cons_of_mem _ h)
  have hown : s.vm.findClass R_M = some m.cls := findClass_of_methodNamed B.named
  have hlocks := B.notSynchronized
  subst hsz
  have hD := hD0.self (sz := s.heap.size)
  generalize hAe : va_A (wM ad cs σ) s.heap.size = A at hD ⊢
  have hA : ∀ q : Nat, s.heap.size ≤ q → A q := fun q h => by rw [← hAe]; exact Or.inr h
  have hS : va_S A s.heap s.heap [] := va_S.rf
  have hP : va_P (dC, dI) classes (wM ad cs σ) s.heap := hP
  have hl := lv_entry ([.ref (ad 0 0)]) (n := 2) (Nat.le_of_ble_eq_true rfl)
  rw [lg_entry_eq]
  generalize (lg_sl ([.ref (ad 0 0)]) ++ List.replicate (2 - (lg_sl ([.ref (ad 0 0)])).length) Slot.unset).toArray = ls at hl ⊢
  have hl : lv_has ls 2 [(0, .ref (ad 0 0))] := hl
  rw [m_M_reset] at hM
  refine W_loop (pc := 27) (fun n27 H locs ls st => ∃ (σ : SX) (v1 : Int32), st = [] ∧ m_M_reset_27 N n27 σ v1 = some σ0 ∧ lv_has ls 2 [(0, .ref (ad 0 0)), (1, .int v1)] ∧ va_P (dC, dI) classes (wM ad cs σ) H ∧ va_D A (wM ad cs σ) ∧ va_S A s.heap H locs) ?_ ?_ ?_
  · rintro H locs ls st ⟨σ, v1, -, hM, -⟩
    rw [m_M_reset_27] at hM; cases hM
  · intro n27 K27 H locs ls st hI
    obtain ⟨σ, v1, rfl, hM, hl, hP, hD, hS⟩ := hI
    rw [m_M_reset_27] at hM
    refine lv_iload_n hx hb d_M_reset_27 rfl (lv_at hl 1 rfl) ?_
    refine lv_iconst (v := 4) hx hb d_M_reset_28 (by decide) ?_
    refine lv_icmp_ge (tgt := 59) hx hb d_M_reset_29 (by decide) (fun h29 => ?_) (fun h29 => ?_)
    · rw [if_pos h29] at hM
      have e9 := Option.some.inj hM
      exact W.vret hx hb hr (fun t ht hW => ⟨⟨σ, rfl, e9, by rw [ht]; exact hP, va_K.moved hW.alike hK, hD⟩, hS.F ht⟩) hS.2.2 d_M_reset_59
    · rw [if_neg h29] at hM
      refine lv_aload_n hx hb d_M_reset_32 rfl (lv_at hl 0 rfl) ?_
      refine va_get (D := (dC, dI)) (ci := 7) (v := .ref (ad 0 10)) (C := R_M) (T := F_M) (N := 33) hx hb htb in_M hown hK hP 0 (g_M) rfl 23 (by decide) (htb _ k_642) (fun _ h9 => h9) rfl d_M_reset_33 ?_
      refine lv_iload_n hx hb d_M_reset_36 rfl (lv_at hl 1 rfl) ?_
      refine lv_iconst (v := 0) hx hb d_M_reset_37 (by decide) ?_
      have hg38 := gd_c hM
      have hM := gd_v hM
      refine va_iast (i := v1) (x := 0) hx hb hK hP hD hS 10 0 (g_M_a10) rfl (inb_in hg38) d_M_reset_38 (fun H locs hP hD hS => ?_)
      have hP := P_eq (t_M_10) hP
      have hD := D_eq (t_M_10) hD
      refine lv_aload_n hx hb d_M_reset_39 rfl (lv_at hl 0 rfl) ?_
      refine va_get (D := (dC, dI)) (ci := 7) (v := .ref (ad 0 11)) (C := R_M) (T := F_M) (N := 33) hx hb htb in_M hown hK hP 0 (g_M) rfl 24 (by decide) (htb _ k_643) (fun _ h9 => h9) rfl d_M_reset_40 ?_
      refine lv_iload_n hx hb d_M_reset_43 rfl (lv_at hl 1 rfl) ?_
      refine lv_iconst (v := 0) hx hb d_M_reset_44 (by decide) ?_
      have hg45 := gd_c hM
      have hM := gd_v hM
      refine va_iast (i := v1) (x := 0) hx hb hK hP hD hS 11 0 (g_M_a11) rfl (inb_in hg45) d_M_reset_45 (fun H locs hP hD hS => ?_)
      have hP := P_eq (t_M_11) hP
      have hD := D_eq (t_M_11) hD
      refine lv_aload_n hx hb d_M_reset_46 rfl (lv_at hl 0 rfl) ?_
      refine va_get (D := (dC, dI)) (ci := 7) (v := .ref (ad 0 12)) (C := R_M) (T := F_M) (N := 33) hx hb htb in_M hown hK hP 0 (g_M) rfl 25 (by decide) (htb _ k_644) (fun _ h9 => h9) rfl d_M_reset_47 ?_
      refine lv_iload_n hx hb d_M_reset_50 rfl (lv_at hl 1 rfl) ?_
      refine lv_iload_n hx hb d_M_reset_51 rfl (lv_at hl 1 rfl) ?_
      have hg52 := gd_c hM
      have hM := gd_v hM
      refine va_iast (i := v1) (x := v1) hx hb hK hP hD hS 12 0 (g_M_a12) rfl (inb_in hg52) d_M_reset_52 (fun H locs hP hD hS => ?_)
      have hP := P_eq (t_M_12) hP
      have hD := D_eq (t_M_12) hD
      refine lv_iinc (k := 1) (v := (v1 + 1)) hx hb d_M_reset_53 hl rfl rfl (by decide) (lv' := [(1, .int (v1 + 1)), (0, .ref (ad 0 0))]) rfl (fun ls hl => ?_)
      refine lv_goto (tgt := 27) hx hb d_M_reset_56 (by decide) ?_
      exact K27 _ _ _ _ ⟨(w3 (w3 (w3 σ 0 10 v1 0) 0 11 v1 0) 0 12 v1 v1), (v1 + 1), rfl, hM, lv_sub hl [1, 0] rfl, hP, hD, hS⟩
  intro K27
  refine lv_aload_n hx hb d_M_reset_0 rfl (lv_at hl 0 rfl) ?_
  refine lv_iconst (v := 0) hx hb d_M_reset_1 (by decide) ?_
  refine va_put (D := (dC, dI)) (ci := 7) (v := .int 0) (ty := .int) (C := R_M) (T := F_M) (N := 33) hx hb htb in_M ft_M ft_M_ok n_M hown hK hP hD hS 0 (g_M) rfl 13 (by decide) (htb _ k_632) (fun _ h9 => h9) rfl (by decide +kernel) rfl rfl (Nat.le_of_ble_eq_true rfl) d_M_reset_2 (fun H locs hP hD hS => ?_)
  have hP := P_eq (s_M_9) hP
  have hD := D_eq (s_M_9) hD
  refine lv_aload_n hx hb d_M_reset_5 rfl (lv_at hl 0 rfl) ?_
  refine lv_iconst (v := 0) hx hb d_M_reset_6 (by decide) ?_
  refine va_put (D := (dC, dI)) (ci := 7) (v := .int 0) (ty := .int) (C := R_M) (T := F_M) (N := 33) hx hb htb in_M ft_M ft_M_ok n_M hown hK hP hD hS 0 (g_M) rfl 16 (by decide) (htb _ k_635) (fun _ h9 => h9) rfl (by decide +kernel) rfl rfl (Nat.le_of_ble_eq_true rfl) d_M_reset_7 (fun H locs hP hD hS => ?_)
  have hP := P_eq (s_M_10) hP
  have hD := D_eq (s_M_10) hD
  refine lv_aload_n hx hb d_M_reset_10 rfl (lv_at hl 0 rfl) ?_
  refine lv_iconst (v := 0) hx hb d_M_reset_11 (by decide) ?_
  refine va_put (D := (dC, dI)) (ci := 7) (v := .int 0) (ty := .int) (C := R_M) (T := F_M) (N := 33) hx hb htb in_M ft_M ft_M_ok n_M hown hK hP hD hS 0 (g_M) rfl 17 (by decide) (htb _ k_636) (fun _ h9 => h9) rfl (by decide +kernel) rfl rfl (Nat.le_of_ble_eq_true rfl) d_M_reset_12 (fun H locs hP hD hS => ?_)
  have hP := P_eq (s_M_11) hP
  have hD := D_eq (s_M_11) hD
  refine lv_aload_n hx hb d_M_reset_15 rfl (lv_at hl 0 rfl) ?_
  refine lv_iconst (v := 0) hx hb d_M_reset_16 (by decide) ?_
  refine va_put (D := (dC, dI)) (ci := 7) (v := .int 0) (ty := .int) (C := R_M) (T := F_M) (N := 33) hx hb htb in_M ft_M ft_M_ok n_M hown hK hP hD hS 0 (g_M) rfl 19 (by decide) (htb _ k_638) (fun _ h9 => h9) rfl (by decide +kernel) rfl rfl (Nat.le_of_ble_eq_true rfl) d_M_reset_17 (fun H locs hP hD hS => ?_)
  have hP := P_eq (s_M_12) hP
  have hD := D_eq (s_M_12) hD
  refine lv_aload_n hx hb d_M_reset_20 rfl (lv_at hl 0 rfl) ?_
  refine lv_iconst (v := 0) hx hb d_M_reset_21 (by decide) ?_
  refine va_put (D := (dC, dI)) (ci := 7) (v := .int 0) (ty := .int) (C := R_M) (T := F_M) (N := 33) hx hb htb in_M ft_M ft_M_ok n_M hown hK hP hD hS 0 (g_M) rfl 20 (by decide) (htb _ k_639) (fun _ h9 => h9) rfl (by decide +kernel) rfl rfl (Nat.le_of_ble_eq_true rfl) d_M_reset_22 (fun H locs hP hD hS => ?_)
  have hP := P_eq (s_M_13) hP
  have hD := D_eq (s_M_13) hD
  refine lv_iconst (v := 0) hx hb d_M_reset_25 (by decide) ?_
  refine lv_istore_n hx hb d_M_reset_26 rfl hl (by decide) (lv' := [(1, .int 0), (0, .ref (ad 0 0))]) rfl (fun ls hl => ?_)
  exact K27 N _ _ _ _ ⟨(w1 (w1 (w1 (w1 (w1 σ 0 9 0) 0 10 0) 0 11 0) 0 12 0) 0 13 0), 0, rfl, hM, lv_sub hl [1, 0] rfl, hP, hD, hS⟩

theorem d_M_start_0 : decode b_M_start 0 = .ok (.aload_n 0, 1) := by decide +kernel
theorem d_M_start_1 : decode b_M_start 1 = .ok (.aload_n 0, 1) := by decide +kernel
theorem d_M_start_2 : decode b_M_start 2 = .ok (.getfield 73, 3) := by decide +kernel
theorem d_M_start_5 : decode b_M_start 5 = .ok (.ifCond .le 7, 3) := by decide +kernel
theorem d_M_start_8 : decode b_M_start 8 = .ok (.iconst 1, 1) := by decide +kernel
theorem d_M_start_9 : decode b_M_start 9 = .ok (.goto 4, 3) := by decide +kernel
theorem d_M_start_12 : decode b_M_start 12 = .ok (.iconst 0, 1) := by decide +kernel
theorem d_M_start_13 : decode b_M_start 13 = .ok (.putfield 70, 3) := by decide +kernel
theorem d_M_start_16 : decode b_M_start 16 = .ok (.aload_n 0, 1) := by decide +kernel
theorem d_M_start_17 : decode b_M_start 17 = .ok (.getfield 70, 3) := by decide +kernel
theorem d_M_start_20 : decode b_M_start 20 = .ok (.ifCond .le 4, 3) := by decide +kernel
theorem d_M_start_23 : decode b_M_start 23 = .ok (.return_, 1) := by decide +kernel
theorem d_M_start_24 : decode b_M_start 24 = .ok (.aload_n 0, 1) := by decide +kernel
theorem d_M_start_25 : decode b_M_start 25 = .ok (.invokevirtual 111, 3) := by decide +kernel
theorem d_M_start_28 : decode b_M_start 28 = .ok (.aload_n 0, 1) := by decide +kernel
theorem d_M_start_29 : decode b_M_start 29 = .ok (.aload_n 0, 1) := by decide +kernel
theorem d_M_start_30 : decode b_M_start 30 = .ok (.getfield 76, 3) := by decide +kernel
theorem d_M_start_33 : decode b_M_start 33 = .ok (.ifCond .ne 7, 3) := by decide +kernel
theorem d_M_start_36 : decode b_M_start 36 = .ok (.iconst 3, 1) := by decide +kernel
theorem d_M_start_37 : decode b_M_start 37 = .ok (.goto 4, 3) := by decide +kernel
theorem d_M_start_40 : decode b_M_start 40 = .ok (.iconst 1, 1) := by decide +kernel
theorem d_M_start_41 : decode b_M_start 41 = .ok (.putfield 73, 3) := by decide +kernel
theorem d_M_start_44 : decode b_M_start 44 = .ok (.aload_n 0, 1) := by decide +kernel
theorem d_M_start_45 : decode b_M_start 45 = .ok (.getfield 76, 3) := by decide +kernel
theorem d_M_start_48 : decode b_M_start 48 = .ok (.ifCond .ne 4, 3) := by decide +kernel
theorem d_M_start_51 : decode b_M_start 51 = .ok (.return_, 1) := by decide +kernel
theorem d_M_start_52 : decode b_M_start 52 = .ok (.aload_n 0, 1) := by decide +kernel
theorem d_M_start_53 : decode b_M_start 53 = .ok (.iconst 1, 1) := by decide +kernel
theorem d_M_start_54 : decode b_M_start 54 = .ok (.putfield 105, 3) := by decide +kernel
theorem d_M_start_57 : decode b_M_start 57 = .ok (.iconst 0, 1) := by decide +kernel
theorem d_M_start_58 : decode b_M_start 58 = .ok (.istore_n 1, 1) := by decide +kernel
theorem d_M_start_59 : decode b_M_start 59 = .ok (.iload_n 1, 1) := by decide +kernel
theorem d_M_start_60 : decode b_M_start 60 = .ok (.iconst 3, 1) := by decide +kernel
theorem d_M_start_61 : decode b_M_start 61 = .ok (.if_icmp .ge 23, 3) := by decide +kernel
theorem d_M_start_64 : decode b_M_start 64 = .ok (.aload_n 0, 1) := by decide +kernel
theorem d_M_start_65 : decode b_M_start 65 = .ok (.getfield 37, 3) := by decide +kernel
theorem d_M_start_68 : decode b_M_start 68 = .ok (.iload_n 1, 1) := by decide +kernel
theorem d_M_start_69 : decode b_M_start 69 = .ok (.iconst 1, 1) := by decide +kernel
theorem d_M_start_70 : decode b_M_start 70 = .ok (.iastore, 1) := by decide +kernel
theorem d_M_start_71 : decode b_M_start 71 = .ok (.aload_n 0, 1) := by decide +kernel
theorem d_M_start_72 : decode b_M_start 72 = .ok (.getfield 49, 3) := by decide +kernel
theorem d_M_start_75 : decode b_M_start 75 = .ok (.iload_n 1, 1) := by decide +kernel
theorem d_M_start_76 : decode b_M_start 76 = .ok (.iconst 1, 1) := by decide +kernel
theorem d_M_start_77 : decode b_M_start 77 = .ok (.iastore, 1) := by decide +kernel
theorem d_M_start_78 : decode b_M_start 78 = .ok (.iinc 1 1, 3) := by decide +kernel
theorem d_M_start_81 : decode b_M_start 81 = .ok (.goto (-22), 3) := by decide +kernel
theorem d_M_start_84 : decode b_M_start 84 = .ok (.aload_n 0, 1) := by decide +kernel
theorem d_M_start_85 : decode b_M_start 85 = .ok (.getfield 96, 3) := by decide +kernel
theorem d_M_start_88 : decode b_M_start 88 = .ok (.aload_n 0, 1) := by decide +kernel
theorem d_M_start_89 : decode b_M_start 89 = .ok (.getfield 67, 3) := by decide +kernel
theorem d_M_start_92 : decode b_M_start 92 = .ok (.if_icmp .ge 60, 3) := by decide +kernel
theorem d_M_start_95 : decode b_M_start 95 = .ok (.aload_n 0, 1) := by decide +kernel
theorem d_M_start_96 : decode b_M_start 96 = .ok (.getfield 99, 3) := by decide +kernel
theorem d_M_start_99 : decode b_M_start 99 = .ok (.aload_n 0, 1) := by decide +kernel
theorem d_M_start_100 : decode b_M_start 100 = .ok (.getfield 76, 3) := by decide +kernel
theorem d_M_start_103 : decode b_M_start 103 = .ok (.if_icmp .ge 49, 3) := by decide +kernel
theorem d_M_start_106 : decode b_M_start 106 = .ok (.aload_n 0, 1) := by decide +kernel
theorem d_M_start_107 : decode b_M_start 107 = .ok (.getfield 30, 3) := by decide +kernel
theorem d_M_start_110 : decode b_M_start 110 = .ok (.aload_n 0, 1) := by decide +kernel
theorem d_M_start_111 : decode b_M_start 111 = .ok (.getfield 96, 3) := by decide +kernel
theorem d_M_start_114 : decode b_M_start 114 = .ok (.aload_n 0, 1) := by decide +kernel
theorem d_M_start_115 : decode b_M_start 115 = .ok (.getfield 99, 3) := by decide +kernel
theorem d_M_start_118 : decode b_M_start 118 = .ok (.iastore, 1) := by decide +kernel
theorem d_M_start_119 : decode b_M_start 119 = .ok (.aload_n 0, 1) := by decide +kernel
theorem d_M_start_120 : decode b_M_start 120 = .ok (.getfield 33, 3) := by decide +kernel
theorem d_M_start_123 : decode b_M_start 123 = .ok (.aload_n 0, 1) := by decide +kernel
theorem d_M_start_124 : decode b_M_start 124 = .ok (.getfield 96, 3) := by decide +kernel
theorem d_M_start_127 : decode b_M_start 127 = .ok (.iconst 0, 1) := by decide +kernel
theorem d_M_start_128 : decode b_M_start 128 = .ok (.bastore, 1) := by decide +kernel
theorem d_M_start_129 : decode b_M_start 129 = .ok (.aload_n 0, 1) := by decide +kernel
theorem d_M_start_130 : decode b_M_start 130 = .ok (.aload_n 0, 1) := by decide +kernel
theorem d_M_start_131 : decode b_M_start 131 = .ok (.getfield 96, 3) := by decide +kernel
theorem d_M_start_134 : decode b_M_start 134 = .ok (.iconst 1, 1) := by decide +kernel
theorem d_M_start_135 : decode b_M_start 135 = .ok (.iadd, 1) := by decide +kernel
theorem d_M_start_136 : decode b_M_start 136 = .ok (.putfield 96, 3) := by decide +kernel
theorem d_M_start_139 : decode b_M_start 139 = .ok (.aload_n 0, 1) := by decide +kernel
theorem d_M_start_140 : decode b_M_start 140 = .ok (.aload_n 0, 1) := by decide +kernel
theorem d_M_start_141 : decode b_M_start 141 = .ok (.getfield 99, 3) := by decide +kernel
theorem d_M_start_144 : decode b_M_start 144 = .ok (.iconst 1, 1) := by decide +kernel
theorem d_M_start_145 : decode b_M_start 145 = .ok (.iadd, 1) := by decide +kernel
theorem d_M_start_146 : decode b_M_start 146 = .ok (.putfield 99, 3) := by decide +kernel
theorem d_M_start_149 : decode b_M_start 149 = .ok (.goto (-65), 3) := by decide +kernel
theorem d_M_start_152 : decode b_M_start 152 = .ok (.return_, 1) := by decide +kernel
def m_M_start_84 (N : Nat) : Nat → SX → Option (SX)
  | 0, _ => none
  | n84 + 1, σ =>
    (if ((σ 0).1 1) ≤ ((σ 0).1 9) then some σ else (if ((σ 0).1 2) ≤ ((σ 0).1 10) then some σ else (if inb ((σ 0).1 9) 8 = true then (if inb (((w3 σ 0 5 ((σ 0).1 9) ((σ 0).1 10)) 0).1 9) 8 = true then m_M_start_84 N n84 (w1 (w1 (w3 (w3 σ 0 5 ((σ 0).1 9) ((σ 0).1 10)) 0 6 (((w3 σ 0 5 ((σ 0).1 9) ((σ 0).1 10)) 0).1 9) (vp_nar .boolean 0)) 0 9 ((((w3 (w3 σ 0 5 ((σ 0).1 9) ((σ 0).1 10)) 0 6 (((w3 σ 0 5 ((σ 0).1 9) ((σ 0).1 10)) 0).1 9) (vp_nar .boolean 0)) 0).1 9) + 1)) 0 10 ((((w1 (w3 (w3 σ 0 5 ((σ 0).1 9) ((σ 0).1 10)) 0 6 (((w3 σ 0 5 ((σ 0).1 9) ((σ 0).1 10)) 0).1 9) (vp_nar .boolean 0)) 0 9 ((((w3 (w3 σ 0 5 ((σ 0).1 9) ((σ 0).1 10)) 0 6 (((w3 σ 0 5 ((σ 0).1 9) ((σ 0).1 10)) 0).1 9) (vp_nar .boolean 0)) 0).1 9) + 1)) 0).1 10) + 1)) else none) else none)))

def m_M_start_59 (N : Nat) : Nat → SX → Int32 → Option (SX)
  | 0, _, _ => none
  | n59 + 1, σ, v1 =>
    (if 3 ≤ v1 then m_M_start_84 N N σ else (if inb v1 3 = true then (if inb v1 4 = true then m_M_start_59 N n59 (w3 (w3 σ 0 7 v1 1) 0 11 v1 1) (v1 + 1) else none) else none))

def m_M_start_41 (N : Nat) (σ : SX) (s0 : Int32) : Option (SX) :=
    (if (((w1 σ 0 4 s0) 0).1 2) = 0 then some (w1 σ 0 4 s0) else m_M_start_59 N N (w1 (w1 σ 0 4 s0) 0 12 1) 0)

def m_M_start_13 (N : Nat) (σ : SX) (s0 : Int32) : Option (SX) :=
    (if (((w1 σ 0 0 s0) 0).1 0) ≤ 0 then (bV (m_M_reset N (w1 σ 0 0 s0)) fun σ25 => (if ((σ25 0).1 2) = 0 then m_M_start_41 N σ25 3 else m_M_start_41 N σ25 1)) else some (w1 σ 0 0 s0))

def m_M_start (N : Nat) (σ : SX) : Option (SX) :=
  (if ((σ 0).1 4) ≤ 0 then m_M_start_13 N σ 0 else m_M_start_13 N σ 1)

set_option maxHeartbeats 4000000 in
set_option maxRecDepth 100000 in
theorem c_M_start (l : Launch) (dC : Nat → ClassId) (dI : Nat → Nat → Nat) (ad : Nat → Nat → Nat) (cs : Nat → ClassId) (sz N : Nat) (σ : SX) {σ0 : SX} (hM : m_M_start N σ = some σ0) : Met l y_M_start (wd y_M_start b_M_start 2 none) ({ frames := 1, cells := 0, slots := 0, locals := 21 }) (va_Pc [.ref (ad 0 0)] (preM dC dI ad cs sz σ)) (va_Qv (fun (u : SX) => u = σ0) (atM dC dI ad cs (va_A (wM ad cs σ) sz)) (va_A (wM ad cs σ) sz)) 0 0 (va_A (wM ad cs σ) sz) := by
  refine Met.ofW (cc := b_M_start) (maxL := 2) (ret := none) (by decide) rfl ?_
  intro p e s m args below meth c s₁ B hml hv
  obtain ⟨rfl, hsz, hP, hK, hD0, hN⟩ := hv
  have hx := B.exec
  have hb := B.bytes
  have hr := B.returns
  have hts := atoms_spec (ws := (wd y_M_start b_M_start 2 none)) B.pre
  have htb : ∀ w ∈ tb, w.before _ s = true := fun w h => hts w (List.mem_cons_of_mem _ h)
  have hown : s.vm.findClass R_M = some m.cls := findClass_of_methodNamed B.named
  have hlocks := B.notSynchronized
  subst hsz
  have hD := hD0.self (sz := s.heap.size)
  generalize hAe : va_A (wM ad cs σ) s.heap.size = A at hD ⊢
  have hA : ∀ q : Nat, s.heap.size ≤ q → A q := fun q h => by rw [← hAe]; exact Or.inr h
  have hS : va_S A s.heap s.heap [] := va_S.rf
  have hP : va_P (dC, dI) classes (wM ad cs σ) s.heap := hP
  have hl := lv_entry ([.ref (ad 0 0)]) (n := 2) (Nat.le_of_ble_eq_true rfl)
  rw [lg_entry_eq]
  generalize (lg_sl ([.ref (ad 0 0)]) ++ List.replicate (2 - (lg_sl ([.ref (ad 0 0)])).length) Slot.unset).toArray = ls at hl ⊢
  have hl : lv_has ls 2 [(0, .ref (ad 0 0))] := hl
  rw [m_M_start] at hM
  refine W_loop (pc := 84) (fun n84 H locs ls st => ∃ (σ : SX), st = [] ∧ m_M_start_84 N n84 σ = some σ0 ∧ lv_has ls 2 [(0, .ref (ad 0 0))] ∧ va_P (dC, dI) classes (wM ad cs σ) H ∧ va_D A (wM ad cs σ) ∧ va_S A s.heap H locs) ?_ ?_ ?_
  · rintro H locs ls st ⟨σ, -, hM, -⟩
    rw [m_M_start_84] at hM; cases hM
  · intro n84 K84 H locs ls st hI
    obtain ⟨σ, rfl, hM, hl, hP, hD, hS⟩ := hI
    rw [m_M_start_84] at hM
    refine lv_aload_n hx hb d_M_start_84 rfl (lv_at hl 0 rfl) ?_
    refine va_get (D := (dC, dI)) (ci := 7) (v := .int ((σ 0).1 9)) (C := R_M) (T := F_M) (N := 33) hx hb htb in_M hown hK hP 0 (g_M) rfl 13 (by decide) (htb _ k_632) (fun _ h9 => h9) rfl d_M_start_85 ?_
    refine lv_aload_n hx hb d_M_start_88 rfl (lv_at hl 0 rfl) ?_
    refine va_get (D := (dC, dI)) (ci := 7) (v := .int ((σ 0).1 1)) (C := R_M) (T := F_M) (N := 33) hx hb htb in_M hown hK hP 0 (g_M) rfl 1 (by decide) (htb _ k_620) (fun _ h9 => h9) rfl d_M_start_89 ?_
    refine lv_icmp_ge (tgt := 152) hx hb d_M_start_92 (by decide) (fun h92 => ?_) (fun h92 => ?_)
    · rw [if_pos h92] at hM
      have e9 := Option.some.inj hM
      exact W.vret hx hb hr (fun t ht hW => ⟨⟨σ, rfl, e9, by rw [ht]; exact hP, va_K.moved hW.alike hK, hD⟩, hS.F ht⟩) hS.2.2 d_M_start_152
    · rw [if_neg h92] at hM
      refine lv_aload_n hx hb d_M_start_95 rfl (lv_at hl 0 rfl) ?_
      refine va_get (D := (dC, dI)) (ci := 7) (v := .int ((σ 0).1 10)) (C := R_M) (T := F_M) (N := 33) hx hb htb in_M hown hK hP 0 (g_M) rfl 16 (by decide) (htb _ k_635) (fun _ h9 => h9) rfl d_M_start_96 ?_
      refine lv_aload_n hx hb d_M_start_99 rfl (lv_at hl 0 rfl) ?_
      refine va_get (D := (dC, dI)) (ci := 7) (v := .int ((σ 0).1 2)) (C := R_M) (T := F_M) (N := 33) hx hb htb in_M hown hK hP 0 (g_M) rfl 2 (by decide) (htb _ k_621) (fun _ h9 => h9) rfl d_M_start_100 ?_
      refine lv_icmp_ge (tgt := 152) hx hb d_M_start_103 (by decide) (fun h103 => ?_) (fun h103 => ?_)
      · rw [if_pos h103] at hM
        have e9 := Option.some.inj hM
        exact W.vret hx hb hr (fun t ht hW => ⟨⟨σ, rfl, e9, by rw [ht]; exact hP, va_K.moved hW.alike hK, hD⟩, hS.F ht⟩) hS.2.2 d_M_start_152
      · rw [if_neg h103] at hM
        refine lv_aload_n hx hb d_M_start_106 rfl (lv_at hl 0 rfl) ?_
        refine va_get (D := (dC, dI)) (ci := 7) (v := .ref (ad 0 5)) (C := R_M) (T := F_M) (N := 33) hx hb htb in_M hown hK hP 0 (g_M) rfl 14 (by decide) (htb _ k_633) (fun _ h9 => h9) rfl d_M_start_107 ?_
        refine lv_aload_n hx hb d_M_start_110 rfl (lv_at hl 0 rfl) ?_
        refine va_get (D := (dC, dI)) (ci := 7) (v := .int ((σ 0).1 9)) (C := R_M) (T := F_M) (N := 33) hx hb htb in_M hown hK hP 0 (g_M) rfl 13 (by decide) (htb _ k_632) (fun _ h9 => h9) rfl d_M_start_111 ?_
        refine lv_aload_n hx hb d_M_start_114 rfl (lv_at hl 0 rfl) ?_
        refine va_get (D := (dC, dI)) (ci := 7) (v := .int ((σ 0).1 10)) (C := R_M) (T := F_M) (N := 33) hx hb htb in_M hown hK hP 0 (g_M) rfl 16 (by decide) (htb _ k_635) (fun _ h9 => h9) rfl d_M_start_115 ?_
        have hg118 := gd_c hM
        have hM := gd_v hM
        refine va_iast (i := ((σ 0).1 9)) (x := ((σ 0).1 10)) hx hb hK hP hD hS 5 0 (g_M_a5) rfl (inb_in hg118) d_M_start_118 (fun H locs hP hD hS => ?_)
        have hP := P_eq (t_M_5) hP
        have hD := D_eq (t_M_5) hD
        refine lv_aload_n hx hb d_M_start_119 rfl (lv_at hl 0 rfl) ?_
        refine va_get (D := (dC, dI)) (ci := 7) (v := .ref (ad 0 6)) (C := R_M) (T := F_M) (N := 33) hx hb htb in_M hown hK hP 0 (g_M) rfl 15 (by decide) (htb _ k_634) (fun _ h9 => h9) rfl d_M_start_120 ?_
        refine lv_aload_n hx hb d_M_start_123 rfl (lv_at hl 0 rfl) ?_
        refine va_get (D := (dC, dI)) (ci := 7) (v := .int (((w3 σ 0 5 ((σ 0).1 9) ((σ 0).1 10)) 0).1 9)) (C := R_M) (T := F_M) (N := 33) hx hb htb in_M hown hK hP 0 (g_M) rfl 13 (by decide) (htb _ k_632) (fun _ h9 => h9) rfl d_M_start_124 ?_
        refine lv_iconst (v := 0) hx hb d_M_start_127 (by decide) ?_
        have hg128 := gd_c hM
        have hM := gd_v hM
        refine va_zast (i := (((w3 σ 0 5 ((σ 0).1 9) ((σ 0).1 10)) 0).1 9)) (x := 0) hx hb hK hP hD hS 6 1 (g_M_a6) rfl (inb_in hg128) d_M_start_128 (fun H locs hP hD hS => ?_)
        have hP := P_eq (t_M_6) hP
        have hD := D_eq (t_M_6) hD
        refine lv_aload_n hx hb d_M_start_129 rfl (lv_at hl 0 rfl) ?_
        refine lv_aload_n hx hb d_M_start_130 rfl (lv_at hl 0 rfl) ?_
        refine va_get (D := (dC, dI)) (ci := 7) (v := .int (((w3 (w3 σ 0 5 ((σ 0).1 9) ((σ 0).1 10)) 0 6 (((w3 σ 0 5 ((σ 0).1 9) ((σ 0).1 10)) 0).1 9) (vp_nar .boolean 0)) 0).1 9)) (C := R_M) (T := F_M) (N := 33) hx hb htb in_M hown hK hP 0 (g_M) rfl 13 (by decide) (htb _ k_632) (fun _ h9 => h9) rfl d_M_start_131 ?_
        refine lv_iconst (v := 1) hx hb d_M_start_134 (by decide) ?_
        refine lv_iadd hx hb d_M_start_135 ?_
        refine va_put (D := (dC, dI)) (ci := 7) (v := .int ((((w3 (w3 σ 0 5 ((σ 0).1 9) ((σ 0).1 10)) 0 6 (((w3 σ 0 5 ((σ 0).1 9) ((σ 0).1 10)) 0).1 9) (vp_nar .boolean 0)) 0).1 9) + 1)) (ty := .int) (C := R_M) (T := F_M) (N := 33) hx hb htb in_M ft_M ft_M_ok n_M hown hK hP hD hS 0 (g_M) rfl 13 (by decide) (htb _ k_632) (fun _ h9 => h9) rfl (by decide +kernel) rfl rfl (Nat.le_of_ble_eq_true rfl) d_M_start_136 (fun H locs hP hD hS => ?_)
        have hP := P_eq (s_M_9) hP
        have hD := D_eq (s_M_9) hD
        refine lv_aload_n hx hb d_M_start_139 rfl (lv_at hl 0 rfl) ?_
        refine lv_aload_n hx hb d_M_start_140 rfl (lv_at hl 0 rfl) ?_
        refine va_get (D := (dC, dI)) (ci := 7) (v := .int (((w1 (w3 (w3 σ 0 5 ((σ 0).1 9) ((σ 0).1 10)) 0 6 (((w3 σ 0 5 ((σ 0).1 9) ((σ 0).1 10)) 0).1 9) (vp_nar .boolean 0)) 0 9 ((((w3 (w3 σ 0 5 ((σ 0).1 9) ((σ 0).1 10)) 0 6 (((w3 σ 0 5 ((σ 0).1 9) ((σ 0).1 10)) 0).1 9) (vp_nar .boolean 0)) 0).1 9) + 1)) 0).1 10)) (C := R_M) (T := F_M) (N := 33) hx hb htb in_M hown hK hP 0 (g_M) rfl 16 (by decide) (htb _ k_635) (fun _ h9 => h9) rfl d_M_start_141 ?_
        refine lv_iconst (v := 1) hx hb d_M_start_144 (by decide) ?_
        refine lv_iadd hx hb d_M_start_145 ?_
        refine va_put (D := (dC, dI)) (ci := 7) (v := .int ((((w1 (w3 (w3 σ 0 5 ((σ 0).1 9) ((σ 0).1 10)) 0 6 (((w3 σ 0 5 ((σ 0).1 9) ((σ 0).1 10)) 0).1 9) (vp_nar .boolean 0)) 0 9 ((((w3 (w3 σ 0 5 ((σ 0).1 9) ((σ 0).1 10)) 0 6 (((w3 σ 0 5 ((σ 0).1 9) ((σ 0).1 10)) 0).1 9) (vp_nar .boolean 0)) 0).1 9) + 1)) 0).1 10) + 1)) (ty := .int) (C := R_M) (T := F_M) (N := 33) hx hb htb in_M ft_M ft_M_ok n_M hown hK hP hD hS 0 (g_M) rfl 16 (by decide) (htb _ k_635) (fun _ h9 => h9) rfl (by decide +kernel) rfl rfl (Nat.le_of_ble_eq_true rfl) d_M_start_146 (fun H locs hP hD hS => ?_)
        have hP := P_eq (s_M_10) hP
        have hD := D_eq (s_M_10) hD
        refine lv_goto (tgt := 84) hx hb d_M_start_149 (by decide) ?_
        exact K84 _ _ _ _ ⟨(w1 (w1 (w3 (w3 σ 0 5 ((σ 0).1 9) ((σ 0).1 10)) 0 6 (((w3 σ 0 5 ((σ 0).1 9) ((σ 0).1 10)) 0).1 9) (vp_nar .boolean 0)) 0 9 ((((w3 (w3 σ 0 5 ((σ 0).1 9) ((σ 0).1 10)) 0 6 (((w3 σ 0 5 ((σ 0).1 9) ((σ 0).1 10)) 0).1 9) (vp_nar .boolean 0)) 0).1 9) + 1)) 0 10 ((((w1 (w3 (w3 σ 0 5 ((σ 0).1 9) ((σ 0).1 10)) 0 6 (((w3 σ 0 5 ((σ 0).1 9) ((σ 0).1 10)) 0).1 9) (vp_nar .boolean 0)) 0 9 ((((w3 (w3 σ 0 5 ((σ 0).1 9) ((σ 0).1 10)) 0 6 (((w3 σ 0 5 ((σ 0).1 9) ((σ 0).1 10)) 0).1 9) (vp_nar .boolean 0)) 0).1 9) + 1)) 0).1 10) + 1)), rfl, hM, lv_sub hl [0] rfl, hP, hD, hS⟩
  intro K84
  refine W_loop (pc := 59) (fun n59 H locs ls st => ∃ (σ : SX) (v1 : Int32), st = [] ∧ m_M_start_59 N n59 σ v1 = some σ0 ∧ lv_has ls 2 [(0, .ref (ad 0 0)), (1, .int v1)] ∧ va_P (dC, dI) classes (wM ad cs σ) H ∧ va_D A (wM ad cs σ) ∧ va_S A s.heap H locs) ?_ ?_ ?_
  · rintro H locs ls st ⟨σ, v1, -, hM, -⟩
    rw [m_M_start_59] at hM; cases hM
  · intro n59 K59 H locs ls st hI
    obtain ⟨σ, v1, rfl, hM, hl, hP, hD, hS⟩ := hI
    rw [m_M_start_59] at hM
    refine lv_iload_n hx hb d_M_start_59 rfl (lv_at hl 1 rfl) ?_
    refine lv_iconst (v := 3) hx hb d_M_start_60 (by decide) ?_
    refine lv_icmp_ge (tgt := 84) hx hb d_M_start_61 (by decide) (fun h61 => ?_) (fun h61 => ?_)
    · rw [if_pos h61] at hM
      exact K84 N _ _ _ _ ⟨σ, rfl, hM, lv_sub hl [0] rfl, hP, hD, hS⟩
    · rw [if_neg h61] at hM
      refine lv_aload_n hx hb d_M_start_64 rfl (lv_at hl 0 rfl) ?_
      refine va_get (D := (dC, dI)) (ci := 7) (v := .ref (ad 0 7)) (C := R_M) (T := F_M) (N := 33) hx hb htb in_M hown hK hP 0 (g_M) rfl 18 (by decide) (htb _ k_637) (fun _ h9 => h9) rfl d_M_start_65 ?_
      refine lv_iload_n hx hb d_M_start_68 rfl (lv_at hl 1 rfl) ?_
      refine lv_iconst (v := 1) hx hb d_M_start_69 (by decide) ?_
      have hg70 := gd_c hM
      have hM := gd_v hM
      refine va_iast (i := v1) (x := 1) hx hb hK hP hD hS 7 0 (g_M_a7) rfl (inb_in hg70) d_M_start_70 (fun H locs hP hD hS => ?_)
      have hP := P_eq (t_M_7) hP
      have hD := D_eq (t_M_7) hD
      refine lv_aload_n hx hb d_M_start_71 rfl (lv_at hl 0 rfl) ?_
      refine va_get (D := (dC, dI)) (ci := 7) (v := .ref (ad 0 11)) (C := R_M) (T := F_M) (N := 33) hx hb htb in_M hown hK hP 0 (g_M) rfl 24 (by decide) (htb _ k_643) (fun _ h9 => h9) rfl d_M_start_72 ?_
      refine lv_iload_n hx hb d_M_start_75 rfl (lv_at hl 1 rfl) ?_
      refine lv_iconst (v := 1) hx hb d_M_start_76 (by decide) ?_
      have hg77 := gd_c hM
      have hM := gd_v hM
      refine va_iast (i := v1) (x := 1) hx hb hK hP hD hS 11 0 (g_M_a11) rfl (inb_in hg77) d_M_start_77 (fun H locs hP hD hS => ?_)
      have hP := P_eq (t_M_11) hP
      have hD := D_eq (t_M_11) hD
      refine lv_iinc (k := 1) (v := (v1 + 1)) hx hb d_M_start_78 hl rfl rfl (by decide) (lv' := [(1, .int (v1 + 1)), (0, .ref (ad 0 0))]) rfl (fun ls hl => ?_)
      refine lv_goto (tgt := 59) hx hb d_M_start_81 (by decide) ?_
      exact K59 _ _ _ _ ⟨(w3 (w3 σ 0 7 v1 1) 0 11 v1 1), (v1 + 1), rfl, hM, lv_sub hl [1, 0] rfl, hP, hD, hS⟩
  intro K59
  refine W_cut (pc := 41) (fun H locs ls st => ∃ (σ : SX) (s0 : Int32), st = [.int s0, .ref (ad 0 0)] ∧ m_M_start_41 N σ s0 = some σ0 ∧ lv_has ls 2 [(0, .ref (ad 0 0))] ∧ va_P (dC, dI) classes (wM ad cs σ) H ∧ va_D A (wM ad cs σ) ∧ va_S A s.heap H locs) ?_ ?_
  · intro H locs ls st hI
    obtain ⟨σ, s0, rfl, hM, hl, hP, hD, hS⟩ := hI
    rw [m_M_start_41] at hM
    refine va_put (D := (dC, dI)) (ci := 7) (v := .int s0) (ty := .int) (C := R_M) (T := F_M) (N := 33) hx hb htb in_M ft_M ft_M_ok n_M hown hK hP hD hS 0 (g_M) rfl 7 (by decide) (htb _ k_626) (fun _ h9 => h9) rfl (by decide +kernel) rfl rfl (Nat.le_of_ble_eq_true rfl) d_M_start_41 (fun H locs hP hD hS => ?_)
    have hP := P_eq (s_M_4) hP
    have hD := D_eq (s_M_4) hD
    refine lv_aload_n hx hb d_M_start_44 rfl (lv_at hl 0 rfl) ?_
    refine va_get (D := (dC, dI)) (ci := 7) (v := .int (((w1 σ 0 4 s0) 0).1 2)) (C := R_M) (T := F_M) (N := 33) hx hb htb in_M hown hK hP 0 (g_M) rfl 2 (by decide) (htb _ k_621) (fun _ h9 => h9) rfl d_M_start_45 ?_
    refine lv_if_ne (tgt := 52) hx hb d_M_start_48 (by decide) (fun h48 => ?_) (fun h48 => ?_)
    · rw [if_neg h48] at hM
      refine lv_aload_n hx hb d_M_start_52 rfl (lv_at hl 0 rfl) ?_
      refine lv_iconst (v := 1) hx hb d_M_start_53 (by decide) ?_
      refine va_put (D := (dC, dI)) (ci := 7) (v := .int 1) (ty := .int) (C := R_M) (T := F_M) (N := 33) hx hb htb in_M ft_M ft_M_ok n_M hown hK hP hD hS 0 (g_M) rfl 19 (by decide) (htb _ k_638) (fun _ h9 => h9) rfl (by decide +kernel) rfl rfl (Nat.le_of_ble_eq_true rfl) d_M_start_54 (fun H locs hP hD hS => ?_)
      have hP := P_eq (s_M_12) hP
      have hD := D_eq (s_M_12) hD
      refine lv_iconst (v := 0) hx hb d_M_start_57 (by decide) ?_
      refine lv_istore_n hx hb d_M_start_58 rfl hl (by decide) (lv' := [(1, .int 0), (0, .ref (ad 0 0))]) rfl (fun ls hl => ?_)
      exact K59 N _ _ _ _ ⟨(w1 (w1 σ 0 4 s0) 0 12 1), 0, rfl, hM, lv_sub hl [1, 0] rfl, hP, hD, hS⟩
    · rw [if_pos h48] at hM
      have e9 := Option.some.inj hM
      exact W.vret hx hb hr (fun t ht hW => ⟨⟨(w1 σ 0 4 s0), rfl, e9, by rw [ht]; exact hP, va_K.moved hW.alike hK, hD⟩, hS.F ht⟩) hS.2.2 d_M_start_51
  intro K41
  refine W_cut (pc := 13) (fun H locs ls st => ∃ (σ : SX) (s0 : Int32), st = [.int s0, .ref (ad 0 0)] ∧ m_M_start_13 N σ s0 = some σ0 ∧ lv_has ls 2 [(0, .ref (ad 0 0))] ∧ va_P (dC, dI) classes (wM ad cs σ) H ∧ va_D A (wM ad cs σ) ∧ va_S A s.heap H locs) ?_ ?_
  · intro H locs ls st hI
    obtain ⟨σ, s0, rfl, hM, hl, hP, hD, hS⟩ := hI
    rw [m_M_start_13] at hM
    refine va_put (D := (dC, dI)) (ci := 7) (v := .int s0) (ty := .int) (C := R_M) (T := F_M) (N := 33) hx hb htb in_M ft_M ft_M_ok n_M hown hK hP hD hS 0 (g_M) rfl 0 (by decide) (htb _ k_619) (fun _ h9 => h9) rfl (by decide +kernel) rfl rfl (Nat.le_of_ble_eq_true rfl) d_M_start_13 (fun H locs hP hD hS => ?_)
    have hP := P_eq (s_M_0) hP
    have hD := D_eq (s_M_0) hD
    refine lv_aload_n hx hb d_M_start_16 rfl (lv_at hl 0 rfl) ?_
    refine va_get (D := (dC, dI)) (ci := 7) (v := .int (((w1 σ 0 0 s0) 0).1 0)) (C := R_M) (T := F_M) (N := 33) hx hb htb in_M hown hK hP 0 (g_M) rfl 0 (by decide) (htb _ k_619) (fun _ h9 => h9) rfl d_M_start_17 ?_
    refine lv_if_le (tgt := 24) hx hb d_M_start_20 (by decide) (fun h20 => ?_) (fun h20 => ?_)
    · rw [if_pos h20] at hM
      refine lv_aload_n hx hb d_M_start_24 rfl (lv_at hl 0 rfl) ?_
      have hF1 := free_all hD hS hA
      obtain ⟨y25, hq25, hM⟩ := bV_some hM
      refine va_callv (va_runV (As := []) (rest := []) ⟨hx, hb, hml, hown, hts⟩ (c_M_reset l dC dI ad cs _ N (w1 σ 0 0 s0) hq25) (cwV 0 hts (goodV k_751 k_753 ks_M_reset k_8 k_754) rfl rfl rfl ⟨rfl, by decide, by decide, by decide +kernel⟩ ⟨Nat.le_of_ble_eq_true rfl, Nat.le_of_ble_eq_true rfl⟩) ⟨blindM, va_recv hK hP rfl (g_M), payM hP hK hD hN⟩ rfl rfl hl.1 rfl (lv_room (Nat.le_of_ble_eq_true rfl)) d_M_start_25 ⟨Nat.zero_le _, Nat.zero_le _⟩) hS (fun q _ h => hF1 q h) hF1 (fun σ25 t H locs ht hvm hpost hB hz1 hk1 hS => ?_)
      subst hpost
      obtain ⟨hP1, hK1, hD1⟩ := hB
      rw [ht] at hP1
      have hP := hP1
      have hD := hD1.weaken (fun _ _ _ h => hF1 _ h)
      refine lv_aload_n hx hb d_M_start_28 rfl (lv_at hl 0 rfl) ?_
      refine lv_aload_n hx hb d_M_start_29 rfl (lv_at hl 0 rfl) ?_
      refine va_get (D := (dC, dI)) (ci := 7) (v := .int ((σ25 0).1 2)) (C := R_M) (T := F_M) (N := 33) hx hb htb in_M hown hK hP 0 (g_M) rfl 2 (by decide) (htb _ k_621) (fun _ h9 => h9) rfl d_M_start_30 ?_
      refine lv_if_ne (tgt := 40) hx hb d_M_start_33 (by decide) (fun h33 => ?_) (fun h33 => ?_)
      · rw [if_neg h33] at hM
        refine lv_iconst (v := 1) hx hb d_M_start_40 (by decide) ?_
        exact K41 _ _ _ _ ⟨σ25, 1, rfl, hM, lv_sub hl [0] rfl, hP, hD, hS⟩
      · rw [if_pos h33] at hM
        refine lv_iconst (v := 3) hx hb d_M_start_36 (by decide) ?_
        refine lv_goto (tgt := 41) hx hb d_M_start_37 (by decide) ?_
        exact K41 _ _ _ _ ⟨σ25, 3, rfl, hM, lv_sub hl [0] rfl, hP, hD, hS⟩
    · rw [if_neg h20] at hM
      have e9 := Option.some.inj hM
      exact W.vret hx hb hr (fun t ht hW => ⟨⟨(w1 σ 0 0 s0), rfl, e9, by rw [ht]; exact hP, va_K.moved hW.alike hK, hD⟩, hS.F ht⟩) hS.2.2 d_M_start_23
  intro K13
  refine lv_aload_n hx hb d_M_start_0 rfl (lv_at hl 0 rfl) ?_
  refine lv_aload_n hx hb d_M_start_1 rfl (lv_at hl 0 rfl) ?_
  refine va_get (D := (dC, dI)) (ci := 7) (v := .int ((σ 0).1 4)) (C := R_M) (T := F_M) (N := 33) hx hb htb in_M hown hK hP 0 (g_M) rfl 7 (by decide) (htb _ k_626) (fun _ h9 => h9) rfl d_M_start_2 ?_
  refine lv_if_le (tgt := 12) hx hb d_M_start_5 (by decide) (fun h5 => ?_) (fun h5 => ?_)
  · rw [if_pos h5] at hM
    refine lv_iconst (v := 0) hx hb d_M_start_12 (by decide) ?_
    exact K13 _ _ _ _ ⟨σ, 0, rfl, hM, lv_sub hl [0] rfl, hP, hD, hS⟩
  · rw [if_neg h5] at hM
    refine lv_iconst (v := 1) hx hb d_M_start_8 (by decide) ?_
    refine lv_goto (tgt := 13) hx hb d_M_start_9 (by decide) ?_
    exact K13 _ _ _ _ ⟨σ, 1, rfl, hM, lv_sub hl [0] rfl, hP, hD, hS⟩
