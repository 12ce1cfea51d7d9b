theorem d_M_lay_0 : decode b_M_lay 0 = .ok (.aload_n 0, 1) := by decide +kernel
theorem d_M_lay_1 : decode b_M_lay 1 = .ok (.invokevirtual 140, 3) := by decide +kernel
theorem d_M_lay_4 : decode b_M_lay 4 = .ok (.aload_n 0, 1) := by decide +kernel
theorem d_M_lay_5 : decode b_M_lay 5 = .ok (.invokevirtual 143, 3) := by decide +kernel
theorem d_M_lay_8 : decode b_M_lay 8 = .ok (.ifCond .ne 5, 3) := by decide +kernel
theorem d_M_lay_11 : decode b_M_lay 11 = .ok (.iconst 0, 1) := by decide +kernel
theorem d_M_lay_12 : decode b_M_lay 12 = .ok (.ireturn, 1) := by decide +kernel
theorem d_M_lay_13 : decode b_M_lay 13 = .ok (.aload_n 0, 1) := by decide +kernel
theorem d_M_lay_14 : decode b_M_lay 14 = .ok (.invokevirtual 147, 3) := by decide +kernel
theorem d_M_lay_17 : decode b_M_lay 17 = .ok (.aload_n 0, 1) := by decide +kernel
theorem d_M_lay_18 : decode b_M_lay 18 = .ok (.getfield 102, 3) := by decide +kernel
theorem d_M_lay_21 : decode b_M_lay 21 = .ok (.ifCond .le 7, 3) := by decide +kernel
theorem d_M_lay_24 : decode b_M_lay 24 = .ok (.aload_n 0, 1) := by decide +kernel
theorem d_M_lay_25 : decode b_M_lay 25 = .ok (.invokevirtual 150, 3) := by decide +kernel
theorem d_M_lay_28 : decode b_M_lay 28 = .ok (.aload_n 0, 1) := by decide +kernel
theorem d_M_lay_29 : decode b_M_lay 29 = .ok (.aload_n 0, 1) := by decide +kernel
theorem d_M_lay_30 : decode b_M_lay 30 = .ok (.getfield 102, 3) := by decide +kernel
theorem d_M_lay_33 : decode b_M_lay 33 = .ok (.iconst 1, 1) := by decide +kernel
theorem d_M_lay_34 : decode b_M_lay 34 = .ok (.iadd, 1) := by decide +kernel
theorem d_M_lay_35 : decode b_M_lay 35 = .ok (.putfield 102, 3) := by decide +kernel
theorem d_M_lay_38 : decode b_M_lay 38 = .ok (.aload_n 0, 1) := by decide +kernel
theorem d_M_lay_39 : decode b_M_lay 39 = .ok (.getfield 49, 3) := by decide +kernel
theorem d_M_lay_42 : decode b_M_lay 42 = .ok (.aload_n 0, 1) := by decide +kernel
theorem d_M_lay_43 : decode b_M_lay 43 = .ok (.getfield 108, 3) := by decide +kernel
theorem d_M_lay_46 : decode b_M_lay 46 = .ok (.aload_n 0, 1) := by decide +kernel
theorem d_M_lay_47 : decode b_M_lay 47 = .ok (.getfield 49, 3) := by decide +kernel
theorem d_M_lay_50 : decode b_M_lay 50 = .ok (.aload_n 0, 1) := by decide +kernel
theorem d_M_lay_51 : decode b_M_lay 51 = .ok (.getfield 108, 3) := by decide +kernel
theorem d_M_lay_54 : decode b_M_lay 54 = .ok (.iaload, 1) := by decide +kernel
theorem d_M_lay_55 : decode b_M_lay 55 = .ok (.iconst 1, 1) := by decide +kernel
theorem d_M_lay_56 : decode b_M_lay 56 = .ok (.isub, 1) := by decide +kernel
theorem d_M_lay_57 : decode b_M_lay 57 = .ok (.iastore, 1) := by decide +kernel
theorem d_M_lay_58 : decode b_M_lay 58 = .ok (.aload_n 0, 1) := by decide +kernel
theorem d_M_lay_59 : decode b_M_lay 59 = .ok (.aload_n 0, 1) := by decide +kernel
theorem d_M_lay_60 : decode b_M_lay 60 = .ok (.getfield 108, 3) := by decide +kernel
theorem d_M_lay_63 : decode b_M_lay 63 = .ok (.invokevirtual 153, 3) := by decide +kernel
theorem d_M_lay_66 : decode b_M_lay 66 = .ok (.aload_n 0, 1) := by decide +kernel
theorem d_M_lay_67 : decode b_M_lay 67 = .ok (.aload_n 0, 1) := by decide +kernel
theorem d_M_lay_68 : decode b_M_lay 68 = .ok (.getfield 96, 3) := by decide +kernel
theorem d_M_lay_71 : decode b_M_lay 71 = .ok (.ifCond .ne 7, 3) := by decide +kernel
theorem d_M_lay_74 : decode b_M_lay 74 = .ok (.iconst 2, 1) := by decide +kernel
theorem d_M_lay_75 : decode b_M_lay 75 = .ok (.goto 4, 3) := by decide +kernel
theorem d_M_lay_78 : decode b_M_lay 78 = .ok (.iconst 1, 1) := by decide +kernel
theorem d_M_lay_79 : decode b_M_lay 79 = .ok (.putfield 73, 3) := by decide +kernel
theorem d_M_lay_82 : decode b_M_lay 82 = .ok (.iconst 1, 1) := by decide +kernel
theorem d_M_lay_83 : decode b_M_lay 83 = .ok (.ireturn, 1) := by decide +kernel
def m_M_lay_28 (N : Nat) (σ : SX) : Option (Int32 × SX) :=
    (if inb (((w1 σ 0 11 (((σ 0).1 11) + 1)) 0).1 13) 4 = true then (if inb (((w1 σ 0 11 (((σ 0).1 11) + 1)) 0).1 13) 4 = true then (bV (m_M_append N (w3 (w1 σ 0 11 (((σ 0).1 11) + 1)) 0 11 (((w1 σ 0 11 (((σ 0).1 11) + 1)) 0).1 13) ((((w1 σ 0 11 (((σ 0).1 11) + 1)) 0).2 11 (((w1 σ 0 11 (((σ 0).1 11) + 1)) 0).1 13).toNatClampNeg) - 1)) (((w3 (w1 σ 0 11 (((σ 0).1 11) + 1)) 0 11 (((w1 σ 0 11 (((σ 0).1 11) + 1)) 0).1 13) ((((w1 σ 0 11 (((σ 0).1 11) + 1)) 0).2 11 (((w1 σ 0 11 (((σ 0).1 11) + 1)) 0).1 13).toNatClampNeg) - 1)) 0).1 13)) fun σ63 => (if ((σ63 0).1 9) = 0 then some (1, (w1 σ63 0 4 2)) else some (1, (w1 σ63 0 4 1)))) else none) else none)

def m_M_lay (N : Nat) (σ : SX) : Option (Int32 × SX) :=
  (bV (m_M_putAside N σ) fun σ1 => (bI (m_M_makeRun N σ1) fun r5 σ5 => (if r5 = 0 then some (0, σ5) else (bV (m_M_takeBack N σ5) fun σ14 => (if ((σ14 0).1 11) ≤ 0 then m_M_lay_28 N σ14 else (bV (m_M_findPlace N σ14) fun σ25 => m_M_lay_28 N σ25))))))

set_option maxHeartbeats 4000000 in
set_option maxRecDepth 100000 in
theorem c_M_lay (l : Launch) (dC : Nat → ClassId) (dI : Nat → Nat → Nat) (ad : Nat → Nat → Nat) (cs : Nat → ClassId) (sz N : Nat) (σ : SX) {r0 : Int32} {σ0 : SX} (hM : m_M_lay N σ = some (r0, σ0)) : Met l y_M_lay (wd y_M_lay b_M_lay 1 (some .boolean)) ({ frames := 4, cells := 0, slots := 0, locals := 92 }) (va_Pc [.ref (ad 0 0)] (preM dC dI ad cs sz σ)) (va_Qi (fun (r : Int32) (u : SX) => r = r0 ∧ u = σ0) (atM dC dI ad cs (va_A (wM ad cs σ) sz)) (va_A (wM ad cs σ) sz)) 0 0 (va_A (wM ad cs σ) sz) := by
  refine Met.ofW (cc := b_M_lay) (maxL := 1) (ret := (some .boolean)) (by decide) rfl ?_
  intro p e s m args below meth c s₁ B hml hv
  obtain ⟨rfl, hsz, hP, hK, hD0, hN⟩ := hv
  have hx := B.exec
  have hb := B.bytes
  have hr := B.returns
  have hts := atoms_spec (ws := (wd y_M_lay b_M_lay 1 (some .boolean))) B.pre
  have htb : ∀ w ∈ tb, w.before _ s = true := fun w h => hts w (List.mem_cons_of_mem _ h)
  have hown : s.vm.findClass R_M = some m.cls := findClass_of_methodNamed B.named
  have hlocks := B.notSynchronized
  subst hsz
  have hD := hD0.self (sz := s.heap.size)
  generalize hAe : va_A (wM ad cs σ) s.heap.size = A at hD ⊢
  have hA : ∀ q : Nat, s.heap.size ≤ q → A q := fun q h => by rw [← hAe]; exact Or.inr h
  have hS : va_S A s.heap s.heap [] := va_S.rf
  have hP : va_P (dC, dI) classes (wM ad cs σ) s.heap := hP
  have hl := lv_entry ([.ref (ad 0 0)]) (n := 1) (Nat.le_of_ble_eq_true rfl)
  rw [lg_entry_eq]
  generalize (lg_sl ([.ref (ad 0 0)]) ++ List.replicate (1 - (lg_sl ([.ref (ad 0 0)])).length) Slot.unset).toArray = ls at hl ⊢
  have hl : lv_has ls 1 [(0, .ref (ad 0 0))] := hl
  rw [m_M_lay] at hM
  refine W_cut (pc := 28) (fun H locs ls st => ∃ (σ : SX), st = [] ∧ m_M_lay_28 N σ = some (r0, σ0) ∧ lv_has ls 1 [(0, .ref (ad 0 0))] ∧ va_P (dC, dI) classes (wM ad cs σ) H ∧ va_D A (wM ad cs σ) ∧ va_S A s.heap H locs) ?_ ?_
  · intro H locs ls st hI
    obtain ⟨σ, rfl, hM, hl, hP, hD, hS⟩ := hI
    rw [m_M_lay_28] at hM
    refine lv_aload_n hx hb d_M_lay_28 rfl (lv_at hl 0 rfl) ?_
    refine lv_aload_n hx hb d_M_lay_29 rfl (lv_at hl 0 rfl) ?_
    refine va_get (D := (dC, dI)) (ci := 7) (v := .int ((σ 0).1 11)) (C := R_M) (T := F_M) (N := 33) hx hb htb in_M hown hK hP 0 (g_M) rfl 17 (by decide) (htb _ k_636) (fun _ h9 => h9) rfl d_M_lay_30 ?_
    refine lv_iconst (v := 1) hx hb d_M_lay_33 (by decide) ?_
    refine lv_iadd hx hb d_M_lay_34 ?_
    refine va_put (D := (dC, dI)) (ci := 7) (v := .int (((σ 0).1 11) + 1)) (ty := .int) (C := R_M) (T := F_M) (N := 33) hx hb htb in_M ft_M ft_M_ok n_M hown hK hP hD hS 0 (g_M) rfl 17 (by decide) (htb _ k_636) (fun _ h9 => h9) rfl (by decide +kernel) rfl rfl (Nat.le_of_ble_eq_true rfl) d_M_lay_35 (fun H locs hP hD hS => ?_)
    have hP := P_eq (s_M_11) hP
    have hD := D_eq (s_M_11) hD
    refine lv_aload_n hx hb d_M_lay_38 rfl (lv_at hl 0 rfl) ?_
    refine va_get (D := (dC, dI)) (ci := 7) (v := .ref (ad 0 11)) (C := R_M) (T := F_M) (N := 33) hx hb htb in_M hown hK hP 0 (g_M) rfl 24 (by decide) (htb _ k_643) (fun _ h9 => h9) rfl d_M_lay_39 ?_
    refine lv_aload_n hx hb d_M_lay_42 rfl (lv_at hl 0 rfl) ?_
    refine va_get (D := (dC, dI)) (ci := 7) (v := .int (((w1 σ 0 11 (((σ 0).1 11) + 1)) 0).1 13)) (C := R_M) (T := F_M) (N := 33) hx hb htb in_M hown hK hP 0 (g_M) rfl 20 (by decide) (htb _ k_639) (fun _ h9 => h9) rfl d_M_lay_43 ?_
    refine lv_aload_n hx hb d_M_lay_46 rfl (lv_at hl 0 rfl) ?_
    refine va_get (D := (dC, dI)) (ci := 7) (v := .ref (ad 0 11)) (C := R_M) (T := F_M) (N := 33) hx hb htb in_M hown hK hP 0 (g_M) rfl 24 (by decide) (htb _ k_643) (fun _ h9 => h9) rfl d_M_lay_47 ?_
    refine lv_aload_n hx hb d_M_lay_50 rfl (lv_at hl 0 rfl) ?_
    refine va_get (D := (dC, dI)) (ci := 7) (v := .int (((w1 σ 0 11 (((σ 0).1 11) + 1)) 0).1 13)) (C := R_M) (T := F_M) (N := 33) hx hb htb in_M hown hK hP 0 (g_M) rfl 20 (by decide) (htb _ k_639) (fun _ h9 => h9) rfl d_M_lay_51 ?_
    have hg54 := gd_c hM
    have hM := gd_v hM
    refine va_iald hx hb hK hP 11 0 (g_M_a11) rfl (inb_in hg54) d_M_lay_54 ?_
    refine lv_iconst (v := 1) hx hb d_M_lay_55 (by decide) ?_
    refine lv_isub hx hb d_M_lay_56 ?_
    have hg57 := gd_c hM
    have hM := gd_v hM
    refine va_iast (i := (((w1 σ 0 11 (((σ 0).1 11) + 1)) 0).1 13)) (x := ((((w1 σ 0 11 (((σ 0).1 11) + 1)) 0).2 11 (((w1 σ 0 11 (((σ 0).1 11) + 1)) 0).1 13).toNatClampNeg) - 1)) hx hb hK hP hD hS 11 0 (g_M_a11) rfl (inb_in hg57) d_M_lay_57 (fun H locs hP hD hS => ?_)
    have hP := P_eq (t_M_11) hP
    have hD := D_eq (t_M_11) hD
    refine lv_aload_n hx hb d_M_lay_58 rfl (lv_at hl 0 rfl) ?_
    refine lv_aload_n hx hb d_M_lay_59 rfl (lv_at hl 0 rfl) ?_
    refine va_get (D := (dC, dI)) (ci := 7) (v := .int (((w3 (w1 σ 0 11 (((σ 0).1 11) + 1)) 0 11 (((w1 σ 0 11 (((σ 0).1 11) + 1)) 0).1 13) ((((w1 σ 0 11 (((σ 0).1 11) + 1)) 0).2 11 (((w1 σ 0 11 (((σ 0).1 11) + 1)) 0).1 13).toNatClampNeg) - 1)) 0).1 13)) (C := R_M) (T := F_M) (N := 33) hx hb htb in_M hown hK hP 0 (g_M) rfl 20 (by decide) (htb _ k_639) (fun _ h9 => h9) rfl d_M_lay_60 ?_
    have hF1 := free_all hD hS hA
    obtain ⟨y63, hq63, hM⟩ := bV_some hM
    refine va_callv (va_runV (As := [.int (((w3 (w1 σ 0 11 (((σ 0).1 11) + 1)) 0 11 (((w1 σ 0 11 (((σ 0).1 11) + 1)) 0).1 13) ((((w1 σ 0 11 (((σ 0).1 11) + 1)) 0).2 11 (((w1 σ 0 11 (((σ 0).1 11) + 1)) 0).1 13).toNatClampNeg) - 1)) 0).1 13)]) (rest := []) ⟨hx, hb, hml, hown, hts⟩ (c_M_append l dC dI ad cs _ N (w3 (w1 σ 0 11 (((σ 0).1 11) + 1)) 0 11 (((w1 σ 0 11 (((σ 0).1 11) + 1)) 0).1 13) ((((w1 σ 0 11 (((σ 0).1 11) + 1)) 0).2 11 (((w1 σ 0 11 (((σ 0).1 11) + 1)) 0).1 13).toNatClampNeg) - 1)) (((w3 (w1 σ 0 11 (((σ 0).1 11) + 1)) 0 11 (((w1 σ 0 11 (((σ 0).1 11) + 1)) 0).1 13) ((((w1 σ 0 11 (((σ 0).1 11) + 1)) 0).2 11 (((w1 σ 0 11 (((σ 0).1 11) + 1)) 0).1 13).toNatClampNeg) - 1)) 0).1 13) hq63) (cwV 1 hts (goodV k_791 k_793 ks_M_append k_8 k_794) rfl rfl rfl ⟨rfl, by decide, by decide, by decide +kernel⟩ ⟨Nat.le_of_ble_eq_true rfl, Nat.le_of_ble_eq_true rfl⟩) ⟨blindM, va_recv hK hP rfl (g_M), payM hP hK hD hN⟩ rfl rfl hl.1 rfl (lv_room (Nat.le_of_ble_eq_true rfl)) d_M_lay_63 ⟨Nat.zero_le _, Nat.zero_le _⟩) hS (fun q _ h => hF1 q h) hF1 (fun σ63 t H locs ht hvm hpost hB hz1 hk1 hS => ?_)
    subst hpost
    obtain ⟨hP1, hK1, hD1⟩ := hB
    rw [ht] at hP1
    have hP := hP1
    have hD := hD1.weaken (fun _ _ _ h => hF1 _ h)
    refine lv_aload_n hx hb d_M_lay_66 rfl (lv_at hl 0 rfl) ?_
    refine lv_aload_n hx hb d_M_lay_67 rfl (lv_at hl 0 rfl) ?_
    refine va_get (D := (dC, dI)) (ci := 7) (v := .int ((σ63 0).1 9)) (C := R_M) (T := F_M) (N := 33) hx hb htb in_M hown hK hP 0 (g_M) rfl 13 (by decide) (htb _ k_632) (fun _ h9 => h9) rfl d_M_lay_68 ?_
    refine lv_if_ne (tgt := 78) hx hb d_M_lay_71 (by decide) (fun h71 => ?_) (fun h71 => ?_)
    · rw [if_neg h71] at hM
      refine lv_iconst (v := 1) hx hb d_M_lay_78 (by decide) ?_
      refine va_put (D := (dC, dI)) (ci := 7) (v := .int 1) (ty := .int) (C := R_M) (T := F_M) (N := 33) hx hb htb in_M ft_M ft_M_ok n_M hown hK hP hD hS 0 (g_M) rfl 7 (by decide) (htb _ k_626) (fun _ h9 => h9) rfl (by decide +kernel) rfl rfl (Nat.le_of_ble_eq_true rfl) d_M_lay_79 (fun H locs hP hD hS => ?_)
      have hP := P_eq (s_M_4) hP
      have hD := D_eq (s_M_4) hD
      refine lv_iconst (v := 1) hx hb d_M_lay_82 (by decide) ?_
      have e9 := Prod.mk.inj (Option.some.inj hM)
      exact W.zret (ty := .boolean) (v := 1) hx hb hr rfl (fun t ht hW => ⟨⟨1, (w1 σ63 0 4 1), rfl, e9, by rw [ht]; exact hP, va_K.moved hW.alike hK, hD⟩, hS.F ht⟩) hS.2.2 d_M_lay_83
    · rw [if_pos h71] at hM
      refine lv_iconst (v := 2) hx hb d_M_lay_74 (by decide) ?_
      refine lv_goto (tgt := 79) hx hb d_M_lay_75 (by decide) ?_
      refine va_put (D := (dC, dI)) (ci := 7) (v := .int 2) (ty := .int) (C := R_M) (T := F_M) (N := 33) hx hb htb in_M ft_M ft_M_ok n_M hown hK hP hD hS 0 (g_M) rfl 7 (by decide) (htb _ k_626) (fun _ h9 => h9) rfl (by decide +kernel) rfl rfl (Nat.le_of_ble_eq_true rfl) d_M_lay_79 (fun H locs hP hD hS => ?_)
      have hP := P_eq (s_M_4) hP
      have hD := D_eq (s_M_4) hD
      refine lv_iconst (v := 1) hx hb d_M_lay_82 (by decide) ?_
      have e9 := Prod.mk.inj (Option.some.inj hM)
      exact W.zret (ty := .boolean) (v := 1) hx hb hr rfl (fun t ht hW => ⟨⟨1, (w1 σ63 0 4 2), rfl, e9, by rw [ht]; exact hP, va_K.moved hW.alike hK, hD⟩, hS.F ht⟩) hS.2.2 d_M_lay_83
  intro K28
  refine lv_aload_n hx hb d_M_lay_0 rfl (lv_at hl 0 rfl) ?_
  have hF1 := free_all hD hS hA
  obtain ⟨y1, hq1, hM⟩ := bV_some hM
  refine va_callv (va_runV (As := []) (rest := []) ⟨hx, hb, hml, hown, hts⟩ (c_M_putAside l dC dI ad cs _ N σ hq1) (cwV 0 hts (goodV k_767 k_769 ks_M_putAside k_8 k_770) rfl rfl rfl ⟨rfl, by decide, by decide, by decide +kernel⟩ ⟨Nat.le_of_ble_eq_true rfl, Nat.le_of_ble_eq_true rfl⟩) ⟨blindM, va_recv hK hP rfl (g_M), payM hP hK hD hN⟩ rfl rfl hl.1 rfl (lv_room (Nat.le_of_ble_eq_true rfl)) d_M_lay_1 ⟨Nat.zero_le _, Nat.zero_le _⟩) hS (fun q _ h => hF1 q h) hF1 (fun σ1 t H locs ht hvm hpost hB hz1 hk1 hS => ?_)
  subst hpost
  obtain ⟨hP1, hK1, hD1⟩ := hB
  rw [ht] at hP1
  have hP := hP1
  have hD := hD1.weaken (fun _ _ _ h => hF1 _ h)
  refine lv_aload_n hx hb d_M_lay_4 rfl (lv_at hl 0 rfl) ?_
  have hF1 := free_all hD hS hA
  obtain ⟨x5, y5, hq5, hM⟩ := bI_some hM
  refine va_calli (va_runV (As := []) (rest := []) ⟨hx, hb, hml, hown, hts⟩ (c_M_makeRun l dC dI ad cs _ N σ1 hq5) (cwV 0 hts (goodV k_771 k_773 ks_M_makeRun k_8 k_774) rfl rfl rfl ⟨rfl, by decide, by decide, by decide +kernel⟩ ⟨Nat.le_of_ble_eq_true rfl, Nat.le_of_ble_eq_true rfl⟩) ⟨blindM, va_recv hK hP rfl (g_M), payM hP hK hD hN⟩ rfl rfl hl.1 rfl (lv_room (Nat.le_of_ble_eq_true rfl)) d_M_lay_5 ⟨Nat.zero_le _, Nat.zero_le _⟩) hS (fun q _ h => hF1 q h) hF1 (fun r5 σ5 t H locs ht hvm hpost hB hz1 hk1 hS => ?_)
  obtain ⟨e1, e2⟩ := hpost
  subst e1
  subst e2
  obtain ⟨hP1, hK1, hD1⟩ := hB
  rw [ht] at hP1
  have hP := hP1
  have hD := hD1.weaken (fun _ _ _ h => hF1 _ h)
  refine lv_if_ne (tgt := 13) hx hb d_M_lay_8 (by decide) (fun h8 => ?_) (fun h8 => ?_)
  · rw [if_neg h8] at hM
    refine lv_aload_n hx hb d_M_lay_13 rfl (lv_at hl 0 rfl) ?_
    have hF1 := free_all hD hS hA
    obtain ⟨y14, hq14, hM⟩ := bV_some hM
    refine va_callv (va_runV (As := []) (rest := []) ⟨hx, hb, hml, hown, hts⟩ (c_M_takeBack l dC dI ad cs _ N σ5 hq14) (cwV 0 hts (goodV k_783 k_785 ks_M_takeBack k_8 k_786) rfl rfl rfl ⟨rfl, by decide, by decide, by decide +kernel⟩ ⟨Nat.le_of_ble_eq_true rfl, Nat.le_of_ble_eq_true rfl⟩) ⟨blindM, va_recv hK hP rfl (g_M), payM hP hK hD hN⟩ rfl rfl hl.1 rfl (lv_room (Nat.le_of_ble_eq_true rfl)) d_M_lay_14 ⟨Nat.zero_le _, Nat.zero_le _⟩) hS (fun q _ h => hF1 q h) hF1 (fun σ14 t H locs ht hvm hpost hB hz1 hk1 hS => ?_)
    subst hpost
    obtain ⟨hP1, hK1, hD1⟩ := hB
    rw [ht] at hP1
    have hP := hP1
    have hD := hD1.weaken (fun _ _ _ h => hF1 _ h)
    refine lv_aload_n hx hb d_M_lay_17 rfl (lv_at hl 0 rfl) ?_
    refine va_get (D := (dC, dI)) (ci := 7) (v := .int ((σ14 0).1 11)) (C := R_M) (T := F_M) (N := 33) hx hb htb in_M hown hK hP 0 (g_M) rfl 17 (by decide) (htb _ k_636) (fun _ h9 => h9) rfl d_M_lay_18 ?_
    refine lv_if_le (tgt := 28) hx hb d_M_lay_21 (by decide) (fun h21 => ?_) (fun h21 => ?_)
    · rw [if_pos h21] at hM
      exact K28 _ _ _ _ ⟨σ14, rfl, hM, lv_sub hl [0] rfl, hP, hD, hS⟩
    · rw [if_neg h21] at hM
      refine lv_aload_n hx hb d_M_lay_24 rfl (lv_at hl 0 rfl) ?_
      have hF1 := free_all hD hS hA
      obtain ⟨y25, hq25, hM⟩ := bV_some hM
      refine va_callv (va_runV (As := []) (rest := []) ⟨hx, hb, hml, hown, hts⟩ (c_M_findPlace l dC dI ad cs _ N σ14 hq25) (cwV 0 hts (goodV k_787 k_789 ks_M_findPlace k_8 k_790) rfl rfl rfl ⟨rfl, by decide, by decide, by decide +kernel⟩ ⟨Nat.le_of_ble_eq_true rfl, Nat.le_of_ble_eq_true rfl⟩) ⟨blindM, va_recv hK hP rfl (g_M), payM hP hK hD hN⟩ rfl rfl hl.1 rfl (lv_room (Nat.le_of_ble_eq_true rfl)) d_M_lay_25 ⟨Nat.zero_le _, Nat.zero_le _⟩) hS (fun q _ h => hF1 q h) hF1 (fun σ25 t H locs ht hvm hpost hB hz1 hk1 hS => ?_)
      subst hpost
      obtain ⟨hP1, hK1, hD1⟩ := hB
      rw [ht] at hP1
      have hP := hP1
      have hD := hD1.weaken (fun _ _ _ h => hF1 _ h)
      exact K28 _ _ _ _ ⟨σ25, rfl, hM, lv_sub hl [0] rfl, hP, hD, hS⟩
  · rw [if_pos h8] at hM
    refine lv_iconst (v := 0) hx hb d_M_lay_11 (by decide) ?_
    have e9 := Prod.mk.inj (Option.some.inj hM)
    exact W.zret (ty := .boolean) (v := 0) hx hb hr rfl (fun t ht hW => ⟨⟨0, σ5, rfl, e9, by rw [ht]; exact hP, va_K.moved hW.alike hK, hD⟩, hS.F ht⟩) hS.2.2 d_M_lay_12

theorem d_M_isReadable_0 : decode b_M_isReadable 0 = .ok (.iconst 1, 1) := by decide +kernel
theorem d_M_isReadable_1 : decode b_M_isReadable 1 = .ok (.istore_n 1, 1) := by decide +kernel
theorem d_M_isReadable_2 : decode b_M_isReadable 2 = .ok (.iconst 0, 1) := by decide +kernel
theorem d_M_isReadable_3 : decode b_M_isReadable 3 = .ok (.istore_n 2, 1) := by decide +kernel
theorem d_M_isReadable_4 : decode b_M_isReadable 4 = .ok (.iload_n 2, 1) := by decide +kernel
theorem d_M_isReadable_5 : decode b_M_isReadable 5 = .ok (.iconst 3, 1) := by decide +kernel
theorem d_M_isReadable_6 : decode b_M_isReadable 6 = .ok (.if_icmp .ge 50, 3) := by decide +kernel
theorem d_M_isReadable_9 : decode b_M_isReadable 9 = .ok (.aload_n 0, 1) := by decide +kernel
theorem d_M_isReadable_10 : decode b_M_isReadable 10 = .ok (.getfield 52, 3) := by decide +kernel
theorem d_M_isReadable_13 : decode b_M_isReadable 13 = .ok (.iload_n 2, 1) := by decide +kernel
theorem d_M_isReadable_14 : decode b_M_isReadable 14 = .ok (.iaload, 1) := by decide +kernel
theorem d_M_isReadable_15 : decode b_M_isReadable 15 = .ok (.istore_n 3, 1) := by decide +kernel
theorem d_M_isReadable_16 : decode b_M_isReadable 16 = .ok (.aload_n 0, 1) := by decide +kernel
theorem d_M_isReadable_17 : decode b_M_isReadable 17 = .ok (.getfield 49, 3) := by decide +kernel
theorem d_M_isReadable_20 : decode b_M_isReadable 20 = .ok (.iload_n 3, 1) := by decide +kernel
theorem d_M_isReadable_21 : decode b_M_isReadable 21 = .ok (.iaload, 1) := by decide +kernel
theorem d_M_isReadable_22 : decode b_M_isReadable 22 = .ok (.ifCond .ne 28, 3) := by decide +kernel
theorem d_M_isReadable_25 : decode b_M_isReadable 25 = .ok (.aload_n 0, 1) := by decide +kernel
theorem d_M_isReadable_26 : decode b_M_isReadable 26 = .ok (.getfield 27, 3) := by decide +kernel
theorem d_M_isReadable_29 : decode b_M_isReadable 29 = .ok (.iload_n 3, 1) := by decide +kernel
theorem d_M_isReadable_30 : decode b_M_isReadable 30 = .ok (.iaload, 1) := by decide +kernel
theorem d_M_isReadable_31 : decode b_M_isReadable 31 = .ok (.ifCond .le 19, 3) := by decide +kernel
theorem d_M_isReadable_34 : decode b_M_isReadable 34 = .ok (.aload_n 0, 1) := by decide +kernel
theorem d_M_isReadable_35 : decode b_M_isReadable 35 = .ok (.getfield 27, 3) := by decide +kernel
theorem d_M_isReadable_38 : decode b_M_isReadable 38 = .ok (.iload_n 3, 1) := by decide +kernel
theorem d_M_isReadable_39 : decode b_M_isReadable 39 = .ok (.aload_n 0, 1) := by decide +kernel
theorem d_M_isReadable_40 : decode b_M_isReadable 40 = .ok (.getfield 27, 3) := by decide +kernel
theorem d_M_isReadable_43 : decode b_M_isReadable 43 = .ok (.iload_n 3, 1) := by decide +kernel
theorem d_M_isReadable_44 : decode b_M_isReadable 44 = .ok (.iaload, 1) := by decide +kernel
theorem d_M_isReadable_45 : decode b_M_isReadable 45 = .ok (.iconst 1, 1) := by decide +kernel
theorem d_M_isReadable_46 : decode b_M_isReadable 46 = .ok (.isub, 1) := by decide +kernel
theorem d_M_isReadable_47 : decode b_M_isReadable 47 = .ok (.iastore, 1) := by decide +kernel
theorem d_M_isReadable_48 : decode b_M_isReadable 48 = .ok (.iconst 0, 1) := by decide +kernel
theorem d_M_isReadable_49 : decode b_M_isReadable 49 = .ok (.istore_n 1, 1) := by decide +kernel
theorem d_M_isReadable_50 : decode b_M_isReadable 50 = .ok (.iinc 2 1, 3) := by decide +kernel
theorem d_M_isReadable_53 : decode b_M_isReadable 53 = .ok (.goto (-49), 3) := by decide +kernel
theorem d_M_isReadable_56 : decode b_M_isReadable 56 = .ok (.iload_n 1, 1) := by decide +kernel
theorem d_M_isReadable_57 : decode b_M_isReadable 57 = .ok (.ireturn, 1) := by decide +kernel
def m_M_isReadable_4 (N : Nat) : Nat → SX → Int32 → Int32 → Option (Int32 × SX)
  | 0, _, _, _ => none
  | n4 + 1, σ, v1, v2 =>
    (if 3 ≤ v2 then (if isB v1 = true then some (v1, σ) else none) else (if inb v2 4 = true then (if inb ((σ 0).2 12 v2.toNatClampNeg) 4 = true then (if ((σ 0).2 11 ((σ 0).2 12 v2.toNatClampNeg).toNatClampNeg) = 0 then (if inb ((σ 0).2 12 v2.toNatClampNeg) 4 = true then (if ((σ 0).2 4 ((σ 0).2 12 v2.toNatClampNeg).toNatClampNeg) ≤ 0 then m_M_isReadable_4 N n4 σ v1 (v2 + 1) else (if inb ((σ 0).2 12 v2.toNatClampNeg) 4 = true then (if inb ((σ 0).2 12 v2.toNatClampNeg) 4 = true then m_M_isReadable_4 N n4 (w3 σ 0 4 ((σ 0).2 12 v2.toNatClampNeg) (((σ 0).2 4 ((σ 0).2 12 v2.toNatClampNeg).toNatClampNeg) - 1)) 0 (v2 + 1) else none) else none)) else none) else m_M_isReadable_4 N n4 σ v1 (v2 + 1)) else none) else none))

def m_M_isReadable (N : Nat) (σ : SX) : Option (Int32 × SX) :=
  m_M_isReadable_4 N N σ 1 0

set_option maxHeartbeats 4000000 in
set_option maxRecDepth 100000 in
theorem c_M_isReadable (l : Launch) (dC : Nat → ClassId) (dI : Nat → Nat → Nat) (ad : Nat → Nat → Nat) (cs : Nat → ClassId) (sz N : Nat) (σ : SX) {r0 : Int32} {σ0 : SX} (hM : m_M_isReadable N σ = some (r0, σ0)) : Met l y_M_isReadable (wd y_M_isReadable b_M_isReadable 4 (some .boolean)) ({ frames := 0, cells := 0, slots := 0, locals := 0 }) (va_Pc [.ref (ad 0 0)] (preM dC dI ad cs sz σ)) (va_Qi (fun (r : Int32) (u : SX) => r = r0 ∧ u = σ0) (atM dC dI ad cs (va_A (wM ad cs σ) sz)) (va_A (wM ad cs σ) sz)) 0 0 (va_A (wM ad cs σ) sz) := by
  refine Met.ofW (cc := b_M_isReadable) (maxL := 4) (ret := (some .boolean)) (by decide) rfl ?_
  intro p e s m args below meth c s₁ B hml hv
  obtain ⟨rfl, hsz, hP, hK, hD0, hN⟩ := hv
  have hx := B.exec
  have hb := B.bytes
  have hr := B.returns
  have hts := atoms_spec (ws := (wd y_M_isReadable b_M_isReadable 4 (some .boolean))) B.pre
  have htb : ∀ w ∈ tb, w.before _ s = true := fun w h => hts w (List.mem_cons_of_mem _ h)
  have hown : s.vm.findClass R_M = some m.cls := findClass_of_methodNamed B.named
  have hlocks := B.notSynchronized
  subst hsz
  have hD := hD0.self (sz := s.heap.size)
  generalize hAe : va_A (wM ad cs σ) s.heap.size = A at hD ⊢
  have hA : ∀ q : Nat, s.heap.size ≤ q → A q := fun q h => by rw [← hAe]; exact Or.inr h
  have hS : va_S A s.heap s.heap [] := va_S.rf
  have hP : va_P (dC, dI) classes (wM ad cs σ) s.heap := hP
  have hl := lv_entry ([.ref (ad 0 0)]) (n := 4) (Nat.le_of_ble_eq_true rfl)
  rw [lg_entry_eq]
  generalize (lg_sl ([.ref (ad 0 0)]) ++ List.replicate (4 - (lg_sl ([.ref (ad 0 0)])).length) Slot.unset).toArray = ls at hl ⊢
  have hl : lv_has ls 4 [(0, .ref (ad 0 0))] := hl
  rw [m_M_isReadable] at hM
  refine W_loop (pc := 4) (fun n4 H locs ls st => ∃ (σ : SX) (v1 : Int32) (v2 : Int32), st = [] ∧ m_M_isReadable_4 N n4 σ v1 v2 = some (r0, σ0) ∧ lv_has ls 4 [(0, .ref (ad 0 0)), (1, .int v1), (2, .int v2)] ∧ va_P (dC, dI) classes (wM ad cs σ) H ∧ va_D A (wM ad cs σ) ∧ va_S A s.heap H locs) ?_ ?_ ?_
  · rintro H locs ls st ⟨σ, v1, v2, -, hM, -⟩
    rw [m_M_isReadable_4] at hM; cases hM
  · intro n4 K4 H locs ls st hI
    obtain ⟨σ, v1, v2, rfl, hM, hl, hP, hD, hS⟩ := hI
    rw [m_M_isReadable_4] at hM
    refine lv_iload_n hx hb d_M_isReadable_4 rfl (lv_at hl 2 rfl) ?_
    refine lv_iconst (v := 3) hx hb d_M_isReadable_5 (by decide) ?_
    refine lv_icmp_ge (tgt := 56) hx hb d_M_isReadable_6 (by decide) (fun h6 => ?_) (fun h6 => ?_)
    · rw [if_pos h6] at hM
      refine lv_iload_n hx hb d_M_isReadable_56 rfl (lv_at hl 1 rfl) ?_
      have hz57 := gd_c hM
      have hM := gd_v hM
      have e9 := Prod.mk.inj (Option.some.inj hM)
      exact W.zret (ty := .boolean) (v := v1) hx hb hr (isB_n hz57) (fun t ht hW => ⟨⟨v1, σ, rfl, e9, by rw [ht]; exact hP, va_K.moved hW.alike hK, hD⟩, hS.F ht⟩) hS.2.2 d_M_isReadable_57
    · rw [if_neg h6] at hM
      refine lv_aload_n hx hb d_M_isReadable_9 rfl (lv_at hl 0 rfl) ?_
      refine va_get (D := (dC, dI)) (ci := 7) (v := .ref (ad 0 12)) (C := R_M) (T := F_M) (N := 33) hx hb htb in_M hown hK hP 0 (g_M) rfl 25 (by decide) (htb _ k_644) (fun _ h9 => h9) rfl d_M_isReadable_10 ?_
      refine lv_iload_n hx hb d_M_isReadable_13 rfl (lv_at hl 2 rfl) ?_
      have hg14 := gd_c hM
      have hM := gd_v hM
      refine va_iald hx hb hK hP 12 0 (g_M_a12) rfl (inb_in hg14) d_M_isReadable_14 ?_
      refine lv_istore_n hx hb d_M_isReadable_15 rfl hl (by decide) (lv' := [(3, .int ((σ 0).2 12 v2.toNatClampNeg)), (0, .ref (ad 0 0)), (1, .int v1), (2, .int v2)]) rfl (fun ls hl => ?_)
      refine lv_aload_n hx hb d_M_isReadable_16 rfl (lv_at hl 1 rfl) ?_
      refine va_get (D := (dC, dI)) (ci := 7) (v := .ref (ad 0 11)) (C := R_M) (T := F_M) (N := 33) hx hb htb in_M hown hK hP 0 (g_M) rfl 24 (by decide) (htb _ k_643) (fun _ h9 => h9) rfl d_M_isReadable_17 ?_
      refine lv_iload_n hx hb d_M_isReadable_20 rfl (lv_at hl 0 rfl) ?_
      have hg21 := gd_c hM
      have hM := gd_v hM
      refine va_iald hx hb hK hP 11 0 (g_M_a11) rfl (inb_in hg21) d_M_isReadable_21 ?_
      refine lv_if_ne (tgt := 50) hx hb d_M_isReadable_22 (by decide) (fun h22 => ?_) (fun h22 => ?_)
      · rw [if_neg h22] at hM
        refine lv_iinc (k := 3) (v := (v2 + 1)) hx hb d_M_isReadable_50 hl rfl rfl (by decide) (lv' := [(2, .int (v2 + 1)), (3, .int ((σ 0).2 12 v2.toNatClampNeg)), (0, .ref (ad 0 0)), (1, .int v1)]) rfl (fun ls hl => ?_)
        refine lv_goto (tgt := 4) hx hb d_M_isReadable_53 (by decide) ?_
        exact K4 _ _ _ _ ⟨σ, v1, (v2 + 1), rfl, hM, lv_sub hl [2, 3, 0] rfl, hP, hD, hS⟩
      · rw [if_pos h22] at hM
        refine lv_aload_n hx hb d_M_isReadable_25 rfl (lv_at hl 1 rfl) ?_
        refine va_get (D := (dC, dI)) (ci := 7) (v := .ref (ad 0 4)) (C := R_M) (T := F_M) (N := 33) hx hb htb in_M hown hK hP 0 (g_M) rfl 12 (by decide) (htb _ k_631) (fun _ h9 => h9) rfl d_M_isReadable_26 ?_
        refine lv_iload_n hx hb d_M_isReadable_29 rfl (lv_at hl 0 rfl) ?_
        have hg30 := gd_c hM
        have hM := gd_v hM
        refine va_iald hx hb hK hP 4 0 (g_M_a4) rfl (inb_in hg30) d_M_isReadable_30 ?_
        refine lv_if_le (tgt := 50) hx hb d_M_isReadable_31 (by decide) (fun h31 => ?_) (fun h31 => ?_)
        · rw [if_pos h31] at hM
          refine lv_iinc (k := 3) (v := (v2 + 1)) hx hb d_M_isReadable_50 hl rfl rfl (by decide) (lv' := [(2, .int (v2 + 1)), (3, .int ((σ 0).2 12 v2.toNatClampNeg)), (0, .ref (ad 0 0)), (1, .int v1)]) rfl (fun ls hl => ?_)
          refine lv_goto (tgt := 4) hx hb d_M_isReadable_53 (by decide) ?_
          exact K4 _ _ _ _ ⟨σ, v1, (v2 + 1), rfl, hM, lv_sub hl [2, 3, 0] rfl, hP, hD, hS⟩
        · rw [if_neg h31] at hM
          refine lv_aload_n hx hb d_M_isReadable_34 rfl (lv_at hl 1 rfl) ?_
          refine va_get (D := (dC, dI)) (ci := 7) (v := .ref (ad 0 4)) (C := R_M) (T := F_M) (N := 33) hx hb htb in_M hown hK hP 0 (g_M) rfl 12 (by decide) (htb _ k_631) (fun _ h9 => h9) rfl d_M_isReadable_35 ?_
          refine lv_iload_n hx hb d_M_isReadable_38 rfl (lv_at hl 0 rfl) ?_
          refine lv_aload_n hx hb d_M_isReadable_39 rfl (lv_at hl 1 rfl) ?_
          refine va_get (D := (dC, dI)) (ci := 7) (v := .ref (ad 0 4)) (C := R_M) (T := F_M) (N := 33) hx hb htb in_M hown hK hP 0 (g_M) rfl 12 (by decide) (htb _ k_631) (fun _ h9 => h9) rfl d_M_isReadable_40 ?_
          refine lv_iload_n hx hb d_M_isReadable_43 rfl (lv_at hl 0 rfl) ?_
          have hg44 := gd_c hM
          have hM := gd_v hM
          refine va_iald hx hb hK hP 4 0 (g_M_a4) rfl (inb_in hg44) d_M_isReadable_44 ?_
          refine lv_iconst (v := 1) hx hb d_M_isReadable_45 (by decide) ?_
          refine lv_isub hx hb d_M_isReadable_46 ?_
          have hg47 := gd_c hM
          have hM := gd_v hM
          refine va_iast (i := ((σ 0).2 12 v2.toNatClampNeg)) (x := (((σ 0).2 4 ((σ 0).2 12 v2.toNatClampNeg).toNatClampNeg) - 1)) hx hb hK hP hD hS 4 0 (g_M_a4) rfl (inb_in hg47) d_M_isReadable_47 (fun H locs hP hD hS => ?_)
          have hP := P_eq (t_M_4) hP
          have hD := D_eq (t_M_4) hD
          refine lv_iconst (v := 0) hx hb d_M_isReadable_48 (by decide) ?_
          refine lv_istore_n hx hb d_M_isReadable_49 rfl hl (by decide) (lv' := [(1, .int 0), (3, .int ((σ 0).2 12 v2.toNatClampNeg)), (0, .ref (ad 0 0)), (2, .int v2)]) rfl (fun ls hl => ?_)
          refine lv_iinc (k := 3) (v := (v2 + 1)) hx hb d_M_isReadable_50 hl rfl rfl (by decide) (lv' := [(2, .int (v2 + 1)), (1, .int 0), (3, .int ((σ 0).2 12 v2.toNatClampNeg)), (0, .ref (ad 0 0))]) rfl (fun ls hl => ?_)
          refine lv_goto (tgt := 4) hx hb d_M_isReadable_53 (by decide) ?_
          exact K4 _ _ _ _ ⟨(w3 σ 0 4 ((σ 0).2 12 v2.toNatClampNeg) (((σ 0).2 4 ((σ 0).2 12 v2.toNatClampNeg).toNatClampNeg) - 1)), 0, (v2 + 1), rfl, hM, lv_sub hl [3, 1, 0] rfl, hP, hD, hS⟩
  intro K4
  refine lv_iconst (v := 1) hx hb d_M_isReadable_0 (by decide) ?_
  refine lv_istore_n hx hb d_M_isReadable_1 rfl hl (by decide) (lv' := [(1, .int 1), (0, .ref (ad 0 0))]) rfl (fun ls hl => ?_)
  refine lv_iconst (v := 0) hx hb d_M_isReadable_2 (by decide) ?_
  refine lv_istore_n hx hb d_M_isReadable_3 rfl hl (by decide) (lv' := [(2, .int 0), (1, .int 1), (0, .ref (ad 0 0))]) rfl (fun ls hl => ?_)
  exact K4 N _ _ _ _ ⟨σ, 1, 0, rfl, hM, lv_sub hl [2, 1, 0] rfl, hP, hD, hS⟩

theorem d_M_mergeRuns_0 : decode b_M_mergeRuns 0 = .ok (.aload_n 0, 1) := by decide +kernel
theorem d_M_mergeRuns_1 : decode b_M_mergeRuns 1 = .ok (.iconst 0, 1) := by decide +kernel
theorem d_M_mergeRuns_2 : decode b_M_mergeRuns 2 = .ok (.putfield 120, 3) := by decide +kernel
theorem d_M_mergeRuns_5 : decode b_M_mergeRuns 5 = .ok (.iconst 0, 1) := by decide +kernel
theorem d_M_mergeRuns_6 : decode b_M_mergeRuns 6 = .ok (.istore_n 1, 1) := by decide +kernel
theorem d_M_mergeRuns_7 : decode b_M_mergeRuns 7 = .ok (.iload_n 1, 1) := by decide +kernel
theorem d_M_mergeRuns_8 : decode b_M_mergeRuns 8 = .ok (.iconst 3, 1) := by decide +kernel
theorem d_M_mergeRuns_9 : decode b_M_mergeRuns 9 = .ok (.if_icmp .ge 16, 3) := by decide +kernel
theorem d_M_mergeRuns_12 : decode b_M_mergeRuns 12 = .ok (.aload_n 0, 1) := by decide +kernel
theorem d_M_mergeRuns_13 : decode b_M_mergeRuns 13 = .ok (.getfield 64, 3) := by decide +kernel
theorem d_M_mergeRuns_16 : decode b_M_mergeRuns 16 = .ok (.iload_n 1, 1) := by decide +kernel
theorem d_M_mergeRuns_17 : decode b_M_mergeRuns 17 = .ok (.iconst 0, 1) := by decide +kernel
theorem d_M_mergeRuns_18 : decode b_M_mergeRuns 18 = .ok (.iastore, 1) := by decide +kernel
theorem d_M_mergeRuns_19 : decode b_M_mergeRuns 19 = .ok (.iinc 1 1, 3) := by decide +kernel
theorem d_M_mergeRuns_22 : decode b_M_mergeRuns 22 = .ok (.goto (-15), 3) := by decide +kernel
theorem d_M_mergeRuns_25 : decode b_M_mergeRuns 25 = .ok (.iconst 0, 1) := by decide +kernel
theorem d_M_mergeRuns_26 : decode b_M_mergeRuns 26 = .ok (.istore_n 1, 1) := by decide +kernel
theorem d_M_mergeRuns_27 : decode b_M_mergeRuns 27 = .ok (.iload_n 1, 1) := by decide +kernel
theorem d_M_mergeRuns_28 : decode b_M_mergeRuns 28 = .ok (.ifCond .lt 153, 3) := by decide +kernel
theorem d_M_mergeRuns_31 : decode b_M_mergeRuns 31 = .ok (.iconst (-1), 1) := by decide +kernel
theorem d_M_mergeRuns_32 : decode b_M_mergeRuns 32 = .ok (.istore_n 1, 1) := by decide +kernel
theorem d_M_mergeRuns_33 : decode b_M_mergeRuns 33 = .ok (.iconst (-1), 1) := by decide +kernel
theorem d_M_mergeRuns_34 : decode b_M_mergeRuns 34 = .ok (.istore_n 2, 1) := by decide +kernel
theorem d_M_mergeRuns_35 : decode b_M_mergeRuns 35 = .ok (.iconst 0, 1) := by decide +kernel
theorem d_M_mergeRuns_36 : decode b_M_mergeRuns 36 = .ok (.istore_n 3, 1) := by decide +kernel
theorem d_M_mergeRuns_37 : decode b_M_mergeRuns 37 = .ok (.iload_n 3, 1) := by decide +kernel
theorem d_M_mergeRuns_38 : decode b_M_mergeRuns 38 = .ok (.iconst 3, 1) := by decide +kernel
theorem d_M_mergeRuns_39 : decode b_M_mergeRuns 39 = .ok (.if_icmp .ge 111, 3) := by decide +kernel
theorem d_M_mergeRuns_42 : decode b_M_mergeRuns 42 = .ok (.aload_n 0, 1) := by decide +kernel
theorem d_M_mergeRuns_43 : decode b_M_mergeRuns 43 = .ok (.getfield 52, 3) := by decide +kernel
theorem d_M_mergeRuns_46 : decode b_M_mergeRuns 46 = .ok (.iload_n 3, 1) := by decide +kernel
theorem d_M_mergeRuns_47 : decode b_M_mergeRuns 47 = .ok (.iaload, 1) := by decide +kernel
theorem d_M_mergeRuns_48 : decode b_M_mergeRuns 48 = .ok (.istore 4, 2) := by decide +kernel
theorem d_M_mergeRuns_50 : decode b_M_mergeRuns 50 = .ok (.aload_n 0, 1) := by decide +kernel
theorem d_M_mergeRuns_51 : decode b_M_mergeRuns 51 = .ok (.getfield 49, 3) := by decide +kernel
theorem d_M_mergeRuns_54 : decode b_M_mergeRuns 54 = .ok (.iload 4, 2) := by decide +kernel
theorem d_M_mergeRuns_56 : decode b_M_mergeRuns 56 = .ok (.iaload, 1) := by decide +kernel
theorem d_M_mergeRuns_57 : decode b_M_mergeRuns 57 = .ok (.ifCond .ne 87, 3) := by decide +kernel
theorem d_M_mergeRuns_60 : decode b_M_mergeRuns 60 = .ok (.aload_n 0, 1) := by decide +kernel
theorem d_M_mergeRuns_61 : decode b_M_mergeRuns 61 = .ok (.getfield 64, 3) := by decide +kernel
theorem d_M_mergeRuns_64 : decode b_M_mergeRuns 64 = .ok (.iload_n 3, 1) := by decide +kernel
theorem d_M_mergeRuns_65 : decode b_M_mergeRuns 65 = .ok (.iaload, 1) := by decide +kernel
theorem d_M_mergeRuns_66 : decode b_M_mergeRuns 66 = .ok (.aload_n 0, 1) := by decide +kernel
theorem d_M_mergeRuns_67 : decode b_M_mergeRuns 67 = .ok (.getfield 43, 3) := by decide +kernel
theorem d_M_mergeRuns_70 : decode b_M_mergeRuns 70 = .ok (.sipush 150, 3) := by decide +kernel
theorem d_M_mergeRuns_73 : decode b_M_mergeRuns 73 = .ok (.iload 4, 2) := by decide +kernel
theorem d_M_mergeRuns_75 : decode b_M_mergeRuns 75 = .ok (.imul, 1) := by decide +kernel
theorem d_M_mergeRuns_76 : decode b_M_mergeRuns 76 = .ok (.iaload, 1) := by decide +kernel
theorem d_M_mergeRuns_77 : decode b_M_mergeRuns 77 = .ok (.if_icmp .ge 67, 3) := by decide +kernel
theorem d_M_mergeRuns_80 : decode b_M_mergeRuns 80 = .ok (.aload_n 0, 1) := by decide +kernel
theorem d_M_mergeRuns_81 : decode b_M_mergeRuns 81 = .ok (.getfield 40, 3) := by decide +kernel
theorem d_M_mergeRuns_84 : decode b_M_mergeRuns 84 = .ok (.sipush 150, 3) := by decide +kernel
theorem d_M_mergeRuns_87 : decode b_M_mergeRuns 87 = .ok (.iload 4, 2) := by decide +kernel
theorem d_M_mergeRuns_89 : decode b_M_mergeRuns 89 = .ok (.imul, 1) := by decide +kernel
theorem d_M_mergeRuns_90 : decode b_M_mergeRuns 90 = .ok (.aload_n 0, 1) := by decide +kernel
theorem d_M_mergeRuns_91 : decode b_M_mergeRuns 91 = .ok (.getfield 64, 3) := by decide +kernel
theorem d_M_mergeRuns_94 : decode b_M_mergeRuns 94 = .ok (.iload_n 3, 1) := by decide +kernel
theorem d_M_mergeRuns_95 : decode b_M_mergeRuns 95 = .ok (.iaload, 1) := by decide +kernel
theorem d_M_mergeRuns_96 : decode b_M_mergeRuns 96 = .ok (.iadd, 1) := by decide +kernel
theorem d_M_mergeRuns_97 : decode b_M_mergeRuns 97 = .ok (.iaload, 1) := by decide +kernel
theorem d_M_mergeRuns_98 : decode b_M_mergeRuns 98 = .ok (.istore 5, 2) := by decide +kernel
theorem d_M_mergeRuns_100 : decode b_M_mergeRuns 100 = .ok (.iload_n 1, 1) := by decide +kernel
theorem d_M_mergeRuns_101 : decode b_M_mergeRuns 101 = .ok (.ifCond .lt 13, 3) := by decide +kernel
theorem d_M_mergeRuns_104 : decode b_M_mergeRuns 104 = .ok (.aload_n 0, 1) := by decide +kernel
theorem d_M_mergeRuns_105 : decode b_M_mergeRuns 105 = .ok (.iload 5, 2) := by decide +kernel
theorem d_M_mergeRuns_107 : decode b_M_mergeRuns 107 = .ok (.iload_n 2, 1) := by decide +kernel
theorem d_M_mergeRuns_108 : decode b_M_mergeRuns 108 = .ok (.invokevirtual 92, 3) := by decide +kernel
theorem d_M_mergeRuns_111 : decode b_M_mergeRuns 111 = .ok (.ifCond .eq 7, 3) := by decide +kernel
theorem d_M_mergeRuns_114 : decode b_M_mergeRuns 114 = .ok (.iconst 1, 1) := by decide +kernel
theorem d_M_mergeRuns_115 : decode b_M_mergeRuns 115 = .ok (.goto 4, 3) := by decide +kernel
theorem d_M_mergeRuns_118 : decode b_M_mergeRuns 118 = .ok (.iconst 0, 1) := by decide +kernel
theorem d_M_mergeRuns_119 : decode b_M_mergeRuns 119 = .ok (.istore 6, 2) := by decide +kernel
theorem d_M_mergeRuns_121 : decode b_M_mergeRuns 121 = .ok (.iload 6, 2) := by decide +kernel
theorem d_M_mergeRuns_123 : decode b_M_mergeRuns 123 = .ok (.ifCond .eq 7, 3) := by decide +kernel
theorem d_M_mergeRuns_126 : decode b_M_mergeRuns 126 = .ok (.iload_n 3, 1) := by decide +kernel
theorem d_M_mergeRuns_127 : decode b_M_mergeRuns 127 = .ok (.goto 4, 3) := by decide +kernel
theorem d_M_mergeRuns_130 : decode b_M_mergeRuns 130 = .ok (.iload_n 1, 1) := by decide +kernel
theorem d_M_mergeRuns_131 : decode b_M_mergeRuns 131 = .ok (.istore_n 1, 1) := by decide +kernel
theorem d_M_mergeRuns_132 : decode b_M_mergeRuns 132 = .ok (.iload 6, 2) := by decide +kernel
theorem d_M_mergeRuns_134 : decode b_M_mergeRuns 134 = .ok (.ifCond .eq 8, 3) := by decide +kernel
theorem d_M_mergeRuns_137 : decode b_M_mergeRuns 137 = .ok (.iload 5, 2) := by decide +kernel
theorem d_M_mergeRuns_139 : decode b_M_mergeRuns 139 = .ok (.goto 4, 3) := by decide +kernel
theorem d_M_mergeRuns_142 : decode b_M_mergeRuns 142 = .ok (.iload_n 2, 1) := by decide +kernel
theorem d_M_mergeRuns_143 : decode b_M_mergeRuns 143 = .ok (.istore_n 2, 1) := by decide +kernel
theorem d_M_mergeRuns_144 : decode b_M_mergeRuns 144 = .ok (.iinc 3 1, 3) := by decide +kernel
theorem d_M_mergeRuns_147 : decode b_M_mergeRuns 147 = .ok (.goto (-110), 3) := by decide +kernel
theorem d_M_mergeRuns_150 : decode b_M_mergeRuns 150 = .ok (.iload_n 1, 1) := by decide +kernel
theorem d_M_mergeRuns_151 : decode b_M_mergeRuns 151 = .ok (.ifCond .lt 27, 3) := by decide +kernel
theorem d_M_mergeRuns_154 : decode b_M_mergeRuns 154 = .ok (.aload_n 0, 1) := by decide +kernel
theorem d_M_mergeRuns_155 : decode b_M_mergeRuns 155 = .ok (.getfield 64, 3) := by decide +kernel
theorem d_M_mergeRuns_158 : decode b_M_mergeRuns 158 = .ok (.iload_n 1, 1) := by decide +kernel
theorem d_M_mergeRuns_159 : decode b_M_mergeRuns 159 = .ok (.aload_n 0, 1) := by decide +kernel
theorem d_M_mergeRuns_160 : decode b_M_mergeRuns 160 = .ok (.getfield 64, 3) := by decide +kernel
theorem d_M_mergeRuns_163 : decode b_M_mergeRuns 163 = .ok (.iload_n 1, 1) := by decide +kernel
theorem d_M_mergeRuns_164 : decode b_M_mergeRuns 164 = .ok (.iaload, 1) := by decide +kernel
theorem d_M_mergeRuns_165 : decode b_M_mergeRuns 165 = .ok (.iconst 1, 1) := by decide +kernel
theorem d_M_mergeRuns_166 : decode b_M_mergeRuns 166 = .ok (.iadd, 1) := by decide +kernel
theorem d_M_mergeRuns_167 : decode b_M_mergeRuns 167 = .ok (.iastore, 1) := by decide +kernel
theorem d_M_mergeRuns_168 : decode b_M_mergeRuns 168 = .ok (.aload_n 0, 1) := by decide +kernel
theorem d_M_mergeRuns_169 : decode b_M_mergeRuns 169 = .ok (.iload_n 2, 1) := by decide +kernel
theorem d_M_mergeRuns_170 : decode b_M_mergeRuns 170 = .ok (.invokevirtual 133, 3) := by decide +kernel
theorem d_M_mergeRuns_173 : decode b_M_mergeRuns 173 = .ok (.ifCond .ne 5, 3) := by decide +kernel
theorem d_M_mergeRuns_176 : decode b_M_mergeRuns 176 = .ok (.iconst 0, 1) := by decide +kernel
theorem d_M_mergeRuns_177 : decode b_M_mergeRuns 177 = .ok (.ireturn, 1) := by decide +kernel
theorem d_M_mergeRuns_178 : decode b_M_mergeRuns 178 = .ok (.goto (-151), 3) := by decide +kernel
theorem d_M_mergeRuns_181 : decode b_M_mergeRuns 181 = .ok (.iconst 1, 1) := by decide +kernel
theorem d_M_mergeRuns_182 : decode b_M_mergeRuns 182 = .ok (.ireturn, 1) := by decide +kernel
def m_M_mergeRuns_131 (N : Nat) (k27 : SX → Int32 → Option (Int32 × SX)) (k37 : SX → Int32 → Int32 → Int32 → Option (Int32 × SX)) (σ : SX) (v2 : Int32) (v3 : Int32) (v5 : Int32) (v6 : Int32) (s0 : Int32) : Option (Int32 × SX) :=
    (if v6 = 0 then k37 σ s0 v2 (v3 + 1) else k37 σ s0 v5 (v3 + 1))

def m_M_mergeRuns_119 (N : Nat) (k27 : SX → Int32 → Option (Int32 × SX)) (k37 : SX → Int32 → Int32 → Int32 → Option (Int32 × SX)) (σ : SX) (v1 : Int32) (v2 : Int32) (v3 : Int32) (v5 : Int32) (s0 : Int32) : Option (Int32 × SX) :=
    (if s0 = 0 then m_M_mergeRuns_131 N k27 k37 σ v2 v3 v5 s0 v1 else m_M_mergeRuns_131 N k27 k37 σ v2 v3 v5 s0 v3)

def m_M_mergeRuns_114 (N : Nat) (k27 : SX → Int32 → Option (Int32 × SX)) (k37 : SX → Int32 → Int32 → Int32 → Option (Int32 × SX)) (σ : SX) (v1 : Int32) (v2 : Int32) (v3 : Int32) (v5 : Int32) : Option (Int32 × SX) :=
    m_M_mergeRuns_119 N k27 k37 σ v1 v2 v3 v5 1

def m_M_mergeRuns_37 (N : Nat) (k27 : SX → Int32 → Option (Int32 × SX)) : Nat → SX → Int32 → Int32 → Int32 → Option (Int32 × SX)
  | 0, _, _, _, _ => none
  | n37 + 1, σ, v1, v2, v3 =>
    (if 3 ≤ v3 then (if v1 < 0 then k27 σ v1 else (if inb v1 3 = true then (if inb v1 3 = true then (bI (m_M_write N (w3 σ 0 16 v1 (((σ 0).2 16 v1.toNatClampNeg) + 1)) v2) fun r170 σ170 => (if r170 = 0 then some (0, σ170) else k27 σ170 v1)) else none) else none)) else (if inb v3 4 = true then (if inb ((σ 0).2 12 v3.toNatClampNeg) 4 = true then (if ((σ 0).2 11 ((σ 0).2 12 v3.toNatClampNeg).toNatClampNeg) = 0 then (if inb v3 3 = true then (if inb (150 * ((σ 0).2 12 v3.toNatClampNeg)) 600 = true then (if ((σ 0).2 9 (150 * ((σ 0).2 12 v3.toNatClampNeg)).toNatClampNeg) ≤ ((σ 0).2 16 v3.toNatClampNeg) then m_M_mergeRuns_37 N k27 n37 σ v1 v2 (v3 + 1) else (if inb v3 3 = true then (if inb ((150 * ((σ 0).2 12 v3.toNatClampNeg)) + ((σ 0).2 16 v3.toNatClampNeg)) 600 = true then (if v1 < 0 then m_M_mergeRuns_114 N k27 (m_M_mergeRuns_37 N k27 n37) σ v1 v2 v3 ((σ 0).2 8 ((150 * ((σ 0).2 12 v3.toNatClampNeg)) + ((σ 0).2 16 v3.toNatClampNeg)).toNatClampNeg) else (bI (m_M_comesFirst N σ ((σ 0).2 8 ((150 * ((σ 0).2 12 v3.toNatClampNeg)) + ((σ 0).2 16 v3.toNatClampNeg)).toNatClampNeg) v2) fun r108 σ108 => (if r108 = 0 then m_M_mergeRuns_119 N k27 (m_M_mergeRuns_37 N k27 n37) σ v1 v2 v3 ((σ 0).2 8 ((150 * ((σ 0).2 12 v3.toNatClampNeg)) + ((σ 0).2 16 v3.toNatClampNeg)).toNatClampNeg) 0 else m_M_mergeRuns_114 N k27 (m_M_mergeRuns_37 N k27 n37) σ v1 v2 v3 ((σ 0).2 8 ((150 * ((σ 0).2 12 v3.toNatClampNeg)) + ((σ 0).2 16 v3.toNatClampNeg)).toNatClampNeg)))) else none) else none)) else none) else none) else m_M_mergeRuns_37 N k27 n37 σ v1 v2 (v3 + 1)) else none) else none))

def m_M_mergeRuns_27 (N : Nat) : Nat → SX → Int32 → Option (Int32 × SX)
  | 0, _, _ => none
  | n27 + 1, σ, v1 =>
    (if v1 < 0 then some (1, σ) else m_M_mergeRuns_37 N (m_M_mergeRuns_27 N n27) N σ (-1) (-1) 0)

def m_M_mergeRuns_7 (N : Nat) : Nat → SX → Int32 → Option (Int32 × SX)
  | 0, _, _ => none
  | n7 + 1, σ, v1 =>
    (if 3 ≤ v1 then m_M_mergeRuns_27 N N σ 0 else (if inb v1 3 = true then m_M_mergeRuns_7 N n7 (w3 σ 0 16 v1 0) (v1 + 1) else none))

def m_M_mergeRuns (N : Nat) (σ : SX) : Option (Int32 × SX) :=
  m_M_mergeRuns_7 N N (w1 σ 0 16 0) 0

set_option maxHeartbeats 4000000 in
set_option maxRecDepth 100000 in
theorem c_M_mergeRuns (l : Launch) (dC : Nat → ClassId) (dI : Nat → Nat → Nat) (ad : Nat → Nat → Nat) (cs : Nat → ClassId) (sz N : Nat) (σ : SX) {r0 : Int32} {σ0 : SX} (hM : m_M_mergeRuns N σ = some (r0, σ0)) : Met l y_M_mergeRuns (wd y_M_mergeRuns b_M_mergeRuns 7 (some .boolean)) ({ frames := 2, cells := 0, slots := 0, locals := 48 }) (va_Pc [.ref (ad 0 0)] (preM dC dI ad cs sz σ)) (va_Qi (fun (r : Int32) (u : SX) => r = r0 ∧ u = σ0) (atM dC dI ad cs (va_A (wM ad cs σ) sz)) (va_A (wM ad cs σ) sz)) 0 0 (va_A (wM ad cs σ) sz) := by
  refine Met.ofW (cc := b_M_mergeRuns) (maxL := 7) (ret := (some .boolean)) (by decide) rfl ?_
  intro p e s m args below meth c s₁ B hml hv
  obtain ⟨rfl, hsz, hP, hK, hD0, hN⟩ := hv
  have hx := B.exec
  have hb := B.bytes
  have hr := B.returns
  have hts := atoms_spec (ws := (wd y_M_mergeRuns b_M_mergeRuns 7 (some .boolean))) B.pre
  have htb : ∀ w ∈ tb, w.before _ s = true := fun w h => hts w (List.mem_cons_of_mem _ h)
  have hown : s.vm.findClass R_M = some m.cls := findClass_of_methodNamed B.named
  have hlocks := B.notSynchronized
  subst hsz
  have hD := hD0.self (sz := s.heap.size)
  generalize hAe : va_A (wM ad cs σ) s.heap.size = A at hD ⊢
  have hA : ∀ q : Nat, s.heap.size ≤ q → A q := fun q h => by rw [← hAe]; exact Or.inr h
  have hS : va_S A s.heap s.heap [] := va_S.rf
  have hP : va_P (dC, dI) classes (wM ad cs σ) s.heap := hP
  have hl := lv_entry ([.ref (ad 0 0)]) (n := 7) (Nat.le_of_ble_eq_true rfl)
  rw [lg_entry_eq]
  generalize (lg_sl ([.ref (ad 0 0)]) ++ List.replicate (7 - (lg_sl ([.ref (ad 0 0)])).length) Slot.unset).toArray = ls at hl ⊢
  have hl : lv_has ls 7 [(0, .ref (ad 0 0))] := hl
  rw [m_M_mergeRuns] at hM
  refine W_loop (pc := 27) (fun n27 H locs ls st => ∃ (σ : SX) (v1 : Int32), st = [] ∧ m_M_mergeRuns_27 N n27 σ v1 = some (r0, σ0) ∧ lv_has ls 7 [(0, .ref (ad 0 0)), (1, .int v1)] ∧ va_P (dC, dI) classes (wM ad cs σ) H ∧ va_D A (wM ad cs σ) ∧ va_S A s.heap H locs) ?_ ?_ ?_
  · rintro H locs ls st ⟨σ, v1, -, hM, -⟩
    rw [m_M_mergeRuns_27] at hM; cases hM
  · intro n27 K27 H locs ls st hI
    obtain ⟨σ, v1, rfl, hM, hl, hP, hD, hS⟩ := hI
    rw [m_M_mergeRuns_27] at hM
    refine W_loop (pc := 37) (fun n37 H locs ls st => ∃ (σ : SX) (v1 : Int32) (v2 : Int32) (v3 : Int32), st = [] ∧ m_M_mergeRuns_37 N (m_M_mergeRuns_27 N n27) n37 σ v1 v2 v3 = some (r0, σ0) ∧ lv_has ls 7 [(0, .ref (ad 0 0)), (1, .int v1), (2, .int v2), (3, .int v3)] ∧ va_P (dC, dI) classes (wM ad cs σ) H ∧ va_D A (wM ad cs σ) ∧ va_S A s.heap H locs) ?_ ?_ ?_
    · rintro H locs ls st ⟨σ, v1, v2, v3, -, hM, -⟩
      rw [m_M_mergeRuns_37] at hM; cases hM
    · intro n37 K37 H locs ls st hI
      obtain ⟨σ, v1, v2, v3, rfl, hM, hl, hP, hD, hS⟩ := hI
      rw [m_M_mergeRuns_37] at hM
      refine W_cut (pc := 131) (fun H locs ls st => ∃ (σ : SX) (v2 : Int32) (v3 : Int32) (v5 : Int32) (v6 : Int32) (s0 : Int32), st = [.int s0] ∧ m_M_mergeRuns_131 N (m_M_mergeRuns_27 N n27) (m_M_mergeRuns_37 N (m_M_mergeRuns_27 N n27) n37) σ v2 v3 v5 v6 s0 = some (r0, σ0) ∧ lv_has ls 7 [(0, .ref (ad 0 0)), (2, .int v2), (3, .int v3), (5, .int v5), (6, .int v6)] ∧ va_P (dC, dI) classes (wM ad cs σ) H ∧ va_D A (wM ad cs σ) ∧ va_S A s.heap H locs) ?_ ?_
      · intro H locs ls st hI
        obtain ⟨σ, v2, v3, v5, v6, s0, rfl, hM, hl, hP, hD, hS⟩ := hI
        rw [m_M_mergeRuns_131] at hM
        refine lv_istore_n hx hb d_M_mergeRuns_131 rfl hl (by decide) (lv' := [(1, .int s0), (0, .ref (ad 0 0)), (2, .int v2), (3, .int v3), (5, .int v5), (6, .int v6)]) rfl (fun ls hl => ?_)
        refine lv_iload hx hb d_M_mergeRuns_132 (lv_at hl 5 rfl) ?_
        refine lv_if_eq (tgt := 142) hx hb d_M_mergeRuns_134 (by decide) (fun h134 => ?_) (fun h134 => ?_)
        · rw [if_pos h134] at hM
          refine lv_iload_n hx hb d_M_mergeRuns_142 rfl (lv_at hl 2 rfl) ?_
          refine lv_istore_n hx hb d_M_mergeRuns_143 rfl hl (by decide) (lv' := [(2, .int v2), (1, .int s0), (0, .ref (ad 0 0)), (3, .int v3), (5, .int v5), (6, .int v6)]) rfl (fun ls hl => ?_)
          refine lv_iinc (k := 3) (v := (v3 + 1)) hx hb d_M_mergeRuns_144 hl rfl rfl (by decide) (lv' := [(3, .int (v3 + 1)), (2, .int v2), (1, .int s0), (0, .ref (ad 0 0)), (5, .int v5), (6, .int v6)]) rfl (fun ls hl => ?_)
          refine lv_goto (tgt := 37) hx hb d_M_mergeRuns_147 (by decide) ?_
          exact K37 _ _ _ _ ⟨σ, s0, v2, (v3 + 1), rfl, hM, lv_sub hl [3, 2, 1, 0] rfl, hP, hD, hS⟩
        · rw [if_neg h134] at hM
          refine lv_iload hx hb d_M_mergeRuns_137 (lv_at hl 4 rfl) ?_
          refine lv_goto (tgt := 143) hx hb d_M_mergeRuns_139 (by decide) ?_
          refine lv_istore_n hx hb d_M_mergeRuns_143 rfl hl (by decide) (lv' := [(2, .int v5), (1, .int s0), (0, .ref (ad 0 0)), (3, .int v3), (5, .int v5), (6, .int v6)]) rfl (fun ls hl => ?_)
          refine lv_iinc (k := 3) (v := (v3 + 1)) hx hb d_M_mergeRuns_144 hl rfl rfl (by decide) (lv' := [(3, .int (v3 + 1)), (2, .int v5), (1, .int s0), (0, .ref (ad 0 0)), (5, .int v5), (6, .int v6)]) rfl (fun ls hl => ?_)
          refine lv_goto (tgt := 37) hx hb d_M_mergeRuns_147 (by decide) ?_
          exact K37 _ _ _ _ ⟨σ, s0, v5, (v3 + 1), rfl, hM, lv_sub hl [3, 2, 1, 0] rfl, hP, hD, hS⟩
      intro K131
      refine W_cut (pc := 119) (fun H locs ls st => ∃ (σ : SX) (v1 : Int32) (v2 : Int32) (v3 : Int32) (v5 : Int32) (s0 : Int32), st = [.int s0] ∧ m_M_mergeRuns_119 N (m_M_mergeRuns_27 N n27) (m_M_mergeRuns_37 N (m_M_mergeRuns_27 N n27) n37) σ v1 v2 v3 v5 s0 = some (r0, σ0) ∧ lv_has ls 7 [(0, .ref (ad 0 0)), (1, .int v1), (2, .int v2), (3, .int v3), (5, .int v5)] ∧ va_P (dC, dI) classes (wM ad cs σ) H ∧ va_D A (wM ad cs σ) ∧ va_S A s.heap H locs) ?_ ?_
      · intro H locs ls st hI
        obtain ⟨σ, v1, v2, v3, v5, s0, rfl, hM, hl, hP, hD, hS⟩ := hI
        rw [m_M_mergeRuns_119] at hM
        refine lv_istore hx hb d_M_mergeRuns_119 hl (by decide) (lv' := [(6, .int s0), (0, .ref (ad 0 0)), (1, .int v1), (2, .int v2), (3, .int v3), (5, .int v5)]) rfl (fun ls hl => ?_)
        refine lv_iload hx hb d_M_mergeRuns_121 (lv_at hl 0 rfl) ?_
        refine lv_if_eq (tgt := 130) hx hb d_M_mergeRuns_123 (by decide) (fun h123 => ?_) (fun h123 => ?_)
        · rw [if_pos h123] at hM
          refine lv_iload_n hx hb d_M_mergeRuns_130 rfl (lv_at hl 2 rfl) ?_
          exact K131 _ _ _ _ ⟨σ, v2, v3, v5, s0, v1, rfl, hM, lv_sub hl [1, 3, 4, 5, 0] rfl, hP, hD, hS⟩
        · rw [if_neg h123] at hM
          refine lv_iload_n hx hb d_M_mergeRuns_126 rfl (lv_at hl 4 rfl) ?_
          refine lv_goto (tgt := 131) hx hb d_M_mergeRuns_127 (by decide) ?_
          exact K131 _ _ _ _ ⟨σ, v2, v3, v5, s0, v3, rfl, hM, lv_sub hl [1, 3, 4, 5, 0] rfl, hP, hD, hS⟩
      intro K119
      refine W_cut (pc := 114) (fun H locs ls st => ∃ (σ : SX) (v1 : Int32) (v2 : Int32) (v3 : Int32) (v5 : Int32), st = [] ∧ m_M_mergeRuns_114 N (m_M_mergeRuns_27 N n27) (m_M_mergeRuns_37 N (m_M_mergeRuns_27 N n27) n37) σ v1 v2 v3 v5 = some (r0, σ0) ∧ lv_has ls 7 [(0, .ref (ad 0 0)), (1, .int v1), (2, .int v2), (3, .int v3), (5, .int v5)] ∧ va_P (dC, dI) classes (wM ad cs σ) H ∧ va_D A (wM ad cs σ) ∧ va_S A s.heap H locs) ?_ ?_
      · intro H locs ls st hI
        obtain ⟨σ, v1, v2, v3, v5, rfl, hM, hl, hP, hD, hS⟩ := hI
        rw [m_M_mergeRuns_114] at hM
        refine lv_iconst (v := 1) hx hb d_M_mergeRuns_114 (by decide) ?_
        refine lv_goto (tgt := 119) hx hb d_M_mergeRuns_115 (by decide) ?_
        exact K119 _ _ _ _ ⟨σ, v1, v2, v3, v5, 1, rfl, hM, lv_sub hl [0, 1, 2, 3, 4] rfl, hP, hD, hS⟩
      intro K114
      refine lv_iload_n hx hb d_M_mergeRuns_37 rfl (lv_at hl 3 rfl) ?_
      refine lv_iconst (v := 3) hx hb d_M_mergeRuns_38 (by decide) ?_
      refine lv_icmp_ge (tgt := 150) hx hb d_M_mergeRuns_39 (by decide) (fun h39 => ?_) (fun h39 => ?_)
      · rw [if_pos h39] at hM
        refine lv_iload_n hx hb d_M_mergeRuns_150 rfl (lv_at hl 1 rfl) ?_
        refine lv_if_lt (tgt := 178) hx hb d_M_mergeRuns_151 (by decide) (fun h151 => ?_) (fun h151 => ?_)
        · rw [if_pos h151] at hM
          refine lv_goto (tgt := 27) hx hb d_M_mergeRuns_178 (by decide) ?_
          exact K27 _ _ _ _ ⟨σ, v1, rfl, hM, lv_sub hl [0, 1] rfl, hP, hD, hS⟩
        · rw [if_neg h151] at hM
          refine lv_aload_n hx hb d_M_mergeRuns_154 rfl (lv_at hl 0 rfl) ?_
          refine va_get (D := (dC, dI)) (ci := 7) (v := .ref (ad 0 16)) (C := R_M) (T := F_M) (N := 33) hx hb htb in_M hown hK hP 0 (g_M) rfl 32 (by decide) (htb _ k_651) (fun _ h9 => h9) rfl d_M_mergeRuns_155 ?_
          refine lv_iload_n hx hb d_M_mergeRuns_158 rfl (lv_at hl 1 rfl) ?_
          refine lv_aload_n hx hb d_M_mergeRuns_159 rfl (lv_at hl 0 rfl) ?_
          refine va_get (D := (dC, dI)) (ci := 7) (v := .ref (ad 0 16)) (C := R_M) (T := F_M) (N := 33) hx hb htb in_M hown hK hP 0 (g_M) rfl 32 (by decide) (htb _ k_651) (fun _ h9 => h9) rfl d_M_mergeRuns_160 ?_
          refine lv_iload_n hx hb d_M_mergeRuns_163 rfl (lv_at hl 1 rfl) ?_
          have hg164 := gd_c hM
          have hM := gd_v hM
          refine va_iald hx hb hK hP 16 0 (g_M_a16) rfl (inb_in hg164) d_M_mergeRuns_164 ?_
          refine lv_iconst (v := 1) hx hb d_M_mergeRuns_165 (by decide) ?_
          refine lv_iadd hx hb d_M_mergeRuns_166 ?_
          have hg167 := gd_c hM
          have hM := gd_v hM
          refine va_iast (i := v1) (x := (((σ 0).2 16 v1.toNatClampNeg) + 1)) hx hb hK hP hD hS 16 0 (g_M_a16) rfl (inb_in hg167) d_M_mergeRuns_167 (fun H locs hP hD hS => ?_)
          have hP := P_eq (t_M_16) hP
          have hD := D_eq (t_M_16) hD
          refine lv_aload_n hx hb d_M_mergeRuns_168 rfl (lv_at hl 0 rfl) ?_
          refine lv_iload_n hx hb d_M_mergeRuns_169 rfl (lv_at hl 2 rfl) ?_
          have hF1 := free_all hD hS hA
          obtain ⟨x170, y170, hq170, hM⟩ := bI_some hM
          refine va_calli (va_runV (As := [.int v2]) (rest := []) ⟨hx, hb, hml, hown, hts⟩ (c_M_write l dC dI ad cs _ N (w3 σ 0 16 v1 (((σ 0).2 16 v1.toNatClampNeg) + 1)) v2 hq170) (cwV 1 hts (goodV k_779 k_781 ks_M_write k_8 k_782) rfl rfl rfl ⟨rfl, by decide, by decide, by decide +kernel⟩ ⟨Nat.le_of_ble_eq_true rfl, Nat.le_of_ble_eq_true rfl⟩) ⟨blindM, va_recv hK hP rfl (g_M), payM hP hK hD hN⟩ rfl rfl hl.1 rfl (lv_room (Nat.le_of_ble_eq_true rfl)) d_M_mergeRuns_170 ⟨Nat.zero_le _, Nat.zero_le _⟩) hS (fun q _ h => hF1 q h) hF1 (fun r170 σ170 t H locs ht hvm hpost hB hz1 hk1 hS => ?_)
          obtain ⟨e1, e2⟩ := hpost
          subst e1
          subst e2
          obtain ⟨hP1, hK1, hD1⟩ := hB
          rw [ht] at hP1
          have hP := hP1
          have hD := hD1.weaken (fun _ _ _ h => hF1 _ h)
          refine lv_if_ne (tgt := 178) hx hb d_M_mergeRuns_173 (by decide) (fun h173 => ?_) (fun h173 => ?_)
          · rw [if_neg h173] at hM
            refine lv_goto (tgt := 27) hx hb d_M_mergeRuns_178 (by decide) ?_
            exact K27 _ _ _ _ ⟨σ170, v1, rfl, hM, lv_sub hl [0, 1] rfl, hP, hD, hS⟩
          · rw [if_pos h173] at hM
            refine lv_iconst (v := 0) hx hb d_M_mergeRuns_176 (by decide) ?_
            have e9 := Prod.mk.inj (Option.some.inj hM)
            exact W.zret (ty := .boolean) (v := 0) hx hb hr rfl (fun t ht hW => ⟨⟨0, σ170, rfl, e9, by rw [ht]; exact hP, va_K.moved hW.alike hK, hD⟩, hS.F ht⟩) hS.2.2 d_M_mergeRuns_177
      · rw [if_neg h39] at hM
        refine lv_aload_n hx hb d_M_mergeRuns_42 rfl (lv_at hl 0 rfl) ?_
        refine va_get (D := (dC, dI)) (ci := 7) (v := .ref (ad 0 12)) (C := R_M) (T := F_M) (N := 33) hx hb htb in_M hown hK hP 0 (g_M) rfl 25 (by decide) (htb _ k_644) (fun _ h9 => h9) rfl d_M_mergeRuns_43 ?_
        refine lv_iload_n hx hb d_M_mergeRuns_46 rfl (lv_at hl 3 rfl) ?_
        have hg47 := gd_c hM
        have hM := gd_v hM
        refine va_iald hx hb hK hP 12 0 (g_M_a12) rfl (inb_in hg47) d_M_mergeRuns_47 ?_
        refine lv_istore hx hb d_M_mergeRuns_48 hl (by decide) (lv' := [(4, .int ((σ 0).2 12 v3.toNatClampNeg)), (0, .ref (ad 0 0)), (1, .int v1), (2, .int v2), (3, .int v3)]) rfl (fun ls hl => ?_)
        refine lv_aload_n hx hb d_M_mergeRuns_50 rfl (lv_at hl 1 rfl) ?_
        refine va_get (D := (dC, dI)) (ci := 7) (v := .ref (ad 0 11)) (C := R_M) (T := F_M) (N := 33) hx hb htb in_M hown hK hP 0 (g_M) rfl 24 (by decide) (htb _ k_643) (fun _ h9 => h9) rfl d_M_mergeRuns_51 ?_
        refine lv_iload hx hb d_M_mergeRuns_54 (lv_at hl 0 rfl) ?_
        have hg56 := gd_c hM
        have hM := gd_v hM
        refine va_iald hx hb hK hP 11 0 (g_M_a11) rfl (inb_in hg56) d_M_mergeRuns_56 ?_
        refine lv_if_ne (tgt := 144) hx hb d_M_mergeRuns_57 (by decide) (fun h57 => ?_) (fun h57 => ?_)
        · rw [if_neg h57] at hM
          refine lv_iinc (k := 4) (v := (v3 + 1)) hx hb d_M_mergeRuns_144 hl rfl rfl (by decide) (lv' := [(3, .int (v3 + 1)), (4, .int ((σ 0).2 12 v3.toNatClampNeg)), (0, .ref (ad 0 0)), (1, .int v1), (2, .int v2)]) rfl (fun ls hl => ?_)
          refine lv_goto (tgt := 37) hx hb d_M_mergeRuns_147 (by decide) ?_
          exact K37 _ _ _ _ ⟨σ, v1, v2, (v3 + 1), rfl, hM, lv_sub hl [2, 3, 4, 0] rfl, hP, hD, hS⟩
        · rw [if_pos h57] at hM
          refine lv_aload_n hx hb d_M_mergeRuns_60 rfl (lv_at hl 1 rfl) ?_
          refine va_get (D := (dC, dI)) (ci := 7) (v := .ref (ad 0 16)) (C := R_M) (T := F_M) (N := 33) hx hb htb in_M hown hK hP 0 (g_M) rfl 32 (by decide) (htb _ k_651) (fun _ h9 => h9) rfl d_M_mergeRuns_61 ?_
          refine lv_iload_n hx hb d_M_mergeRuns_64 rfl (lv_at hl 4 rfl) ?_
          have hg65 := gd_c hM
          have hM := gd_v hM
          refine va_iald hx hb hK hP 16 0 (g_M_a16) rfl (inb_in hg65) d_M_mergeRuns_65 ?_
          refine lv_aload_n hx hb d_M_mergeRuns_66 rfl (lv_at hl 1 rfl) ?_
          refine va_get (D := (dC, dI)) (ci := 7) (v := .ref (ad 0 9)) (C := R_M) (T := F_M) (N := 33) hx hb htb in_M hown hK hP 0 (g_M) rfl 22 (by decide) (htb _ k_641) (fun _ h9 => h9) rfl d_M_mergeRuns_67 ?_
          refine lv_sipush (v := 150) hx hb d_M_mergeRuns_70 (by decide) ?_
          refine lv_iload hx hb d_M_mergeRuns_73 (lv_at hl 0 rfl) ?_
          refine lv_imul hx hb d_M_mergeRuns_75 ?_
          have hg76 := gd_c hM
          have hM := gd_v hM
          refine va_iald hx hb hK hP 9 0 (g_M_a9) rfl (inb_in hg76) d_M_mergeRuns_76 ?_
          refine lv_icmp_ge (tgt := 144) hx hb d_M_mergeRuns_77 (by decide) (fun h77 => ?_) (fun h77 => ?_)
          · rw [if_pos h77] at hM
            refine lv_iinc (k := 4) (v := (v3 + 1)) hx hb d_M_mergeRuns_144 hl rfl rfl (by decide) (lv' := [(3, .int (v3 + 1)), (4, .int ((σ 0).2 12 v3.toNatClampNeg)), (0, .ref (ad 0 0)), (1, .int v1), (2, .int v2)]) rfl (fun ls hl => ?_)
            refine lv_goto (tgt := 37) hx hb d_M_mergeRuns_147 (by decide) ?_
            exact K37 _ _ _ _ ⟨σ, v1, v2, (v3 + 1), rfl, hM, lv_sub hl [2, 3, 4, 0] rfl, hP, hD, hS⟩
          · rw [if_neg h77] at hM
            refine lv_aload_n hx hb d_M_mergeRuns_80 rfl (lv_at hl 1 rfl) ?_
            refine va_get (D := (dC, dI)) (ci := 7) (v := .ref (ad 0 8)) (C := R_M) (T := F_M) (N := 33) hx hb htb in_M hown hK hP 0 (g_M) rfl 21 (by decide) (htb _ k_640) (fun _ h9 => h9) rfl d_M_mergeRuns_81 ?_
            refine lv_sipush (v := 150) hx hb d_M_mergeRuns_84 (by decide) ?_
            refine lv_iload hx hb d_M_mergeRuns_87 (lv_at hl 0 rfl) ?_
            refine lv_imul hx hb d_M_mergeRuns_89 ?_
            refine lv_aload_n hx hb d_M_mergeRuns_90 rfl (lv_at hl 1 rfl) ?_
            refine va_get (D := (dC, dI)) (ci := 7) (v := .ref (ad 0 16)) (C := R_M) (T := F_M) (N := 33) hx hb htb in_M hown hK hP 0 (g_M) rfl 32 (by decide) (htb _ k_651) (fun _ h9 => h9) rfl d_M_mergeRuns_91 ?_
            refine lv_iload_n hx hb d_M_mergeRuns_94 rfl (lv_at hl 4 rfl) ?_
            have hg95 := gd_c hM
            have hM := gd_v hM
            refine va_iald hx hb hK hP 16 0 (g_M_a16) rfl (inb_in hg95) d_M_mergeRuns_95 ?_
            refine lv_iadd hx hb d_M_mergeRuns_96 ?_
            have hg97 := gd_c hM
            have hM := gd_v hM
            refine va_iald hx hb hK hP 8 0 (g_M_a8) rfl (inb_in hg97) d_M_mergeRuns_97 ?_
            refine lv_istore hx hb d_M_mergeRuns_98 hl (by decide) (lv' := [(5, .int ((σ 0).2 8 ((150 * ((σ 0).2 12 v3.toNatClampNeg)) + ((σ 0).2 16 v3.toNatClampNeg)).toNatClampNeg)), (4, .int ((σ 0).2 12 v3.toNatClampNeg)), (0, .ref (ad 0 0)), (1, .int v1), (2, .int v2), (3, .int v3)]) rfl (fun ls hl => ?_)
            refine lv_iload_n hx hb d_M_mergeRuns_100 rfl (lv_at hl 3 rfl) ?_
            refine lv_if_lt (tgt := 114) hx hb d_M_mergeRuns_101 (by decide) (fun h101 => ?_) (fun h101 => ?_)
            · rw [if_pos h101] at hM
              exact K114 _ _ _ _ ⟨σ, v1, v2, v3, ((σ 0).2 8 ((150 * ((σ 0).2 12 v3.toNatClampNeg)) + ((σ 0).2 16 v3.toNatClampNeg)).toNatClampNeg), rfl, hM, lv_sub hl [2, 3, 4, 5, 0] rfl, hP, hD, hS⟩
            · rw [if_neg h101] at hM
              refine lv_aload_n hx hb d_M_mergeRuns_104 rfl (lv_at hl 2 rfl) ?_
              refine lv_iload hx hb d_M_mergeRuns_105 (lv_at hl 0 rfl) ?_
              refine lv_iload_n hx hb d_M_mergeRuns_107 rfl (lv_at hl 4 rfl) ?_
              obtain ⟨x108, y108, hq108, hM⟩ := bI_some hM
              refine va_calli (va_runV (As := [.int ((σ 0).2 8 ((150 * ((σ 0).2 12 v3.toNatClampNeg)) + ((σ 0).2 16 v3.toNatClampNeg)).toNatClampNeg), .int v2]) (rest := []) ⟨hx, hb, hml, hown, hts⟩ (c_M_comesFirst l dC dI ad cs _ N σ ((σ 0).2 8 ((150 * ((σ 0).2 12 v3.toNatClampNeg)) + ((σ 0).2 16 v3.toNatClampNeg)).toNatClampNeg) v2 hq108) (cwV 2 hts (goodV k_735 k_737 ks_M_comesFirst k_8 k_738) rfl rfl rfl ⟨rfl, by decide, by decide, by decide +kernel⟩ ⟨Nat.le_of_ble_eq_true rfl, Nat.le_of_ble_eq_true rfl⟩) ⟨blindM, va_recv hK hP rfl (g_M), payM hP hK hD hN⟩ rfl rfl hl.1 rfl (lv_room (Nat.le_of_ble_eq_true rfl)) d_M_mergeRuns_108 ⟨Nat.zero_le _, Nat.zero_le _⟩) hS (fun q h0 h => absurd h0 (Nat.not_lt.mpr h)) (fun q h => hA q (Nat.le_trans hS.1 h)) (fun r108 u t H locs ht hvm hpost hB hz1 hk1 hS => ?_)
              obtain ⟨e1, e2⟩ := hpost
              subst e1
              subst e2
              have hP := keepP hP hk1
              refine lv_if_eq (tgt := 118) hx hb d_M_mergeRuns_111 (by decide) (fun h111 => ?_) (fun h111 => ?_)
              · rw [if_pos h111] at hM
                refine lv_iconst (v := 0) hx hb d_M_mergeRuns_118 (by decide) ?_
                exact K119 _ _ _ _ ⟨σ, v1, v2, v3, ((σ 0).2 8 ((150 * ((σ 0).2 12 v3.toNatClampNeg)) + ((σ 0).2 16 v3.toNatClampNeg)).toNatClampNeg), 0, rfl, hM, lv_sub hl [2, 3, 4, 5, 0] rfl, hP, hD, hS⟩
              · rw [if_neg h111] at hM
                exact K114 _ _ _ _ ⟨σ, v1, v2, v3, ((σ 0).2 8 ((150 * ((σ 0).2 12 v3.toNatClampNeg)) + ((σ 0).2 16 v3.toNatClampNeg)).toNatClampNeg), rfl, hM, lv_sub hl [2, 3, 4, 5, 0] rfl, hP, hD, hS⟩
    intro K37
    refine lv_iload_n hx hb d_M_mergeRuns_27 rfl (lv_at hl 1 rfl) ?_
    refine lv_if_lt (tgt := 181) hx hb d_M_mergeRuns_28 (by decide) (fun h28 => ?_) (fun h28 => ?_)
    · rw [if_pos h28] at hM
      refine lv_iconst (v := 1) hx hb d_M_mergeRuns_181 (by decide) ?_
      have e9 := Prod.mk.inj (Option.some.inj hM)
      exact W.zret (ty := .boolean) (v := 1) hx hb hr rfl (fun t ht hW => ⟨⟨1, σ, rfl, e9, by rw [ht]; exact hP, va_K.moved hW.alike hK, hD⟩, hS.F ht⟩) hS.2.2 d_M_mergeRuns_182
    · rw [if_neg h28] at hM
      refine lv_iconst (v := (-1)) hx hb d_M_mergeRuns_31 (by decide) ?_
      refine lv_istore_n hx hb d_M_mergeRuns_32 rfl hl (by decide) (lv' := [(1, .int (-1)), (0, .ref (ad 0 0))]) rfl (fun ls hl => ?_)
      refine lv_iconst (v := (-1)) hx hb d_M_mergeRuns_33 (by decide) ?_
      refine lv_istore_n hx hb d_M_mergeRuns_34 rfl hl (by decide) (lv' := [(2, .int (-1)), (1, .int (-1)), (0, .ref (ad 0 0))]) rfl (fun ls hl => ?_)
      refine lv_iconst (v := 0) hx hb d_M_mergeRuns_35 (by decide) ?_
      refine lv_istore_n hx hb d_M_mergeRuns_36 rfl hl (by decide) (lv' := [(3, .int 0), (2, .int (-1)), (1, .int (-1)), (0, .ref (ad 0 0))]) rfl (fun ls hl => ?_)
      exact K37 N _ _ _ _ ⟨σ, (-1), (-1), 0, rfl, hM, lv_sub hl [3, 2, 1, 0] rfl, hP, hD, hS⟩
  intro K27
  refine W_loop (pc := 7) (fun n7 H locs ls st => ∃ (σ : SX) (v1 : Int32), st = [] ∧ m_M_mergeRuns_7 N n7 σ v1 = some (r0, σ0) ∧ lv_has ls 7 [(0, .ref (ad 0 0)), (1, .int v1)] ∧ va_P (dC, dI) classes (wM ad cs σ) H ∧ va_D A (wM ad cs σ) ∧ va_S A s.heap H locs) ?_ ?_ ?_
  · rintro H locs ls st ⟨σ, v1, -, hM, -⟩
    rw [m_M_mergeRuns_7] at hM; cases hM
  · intro n7 K7 H locs ls st hI
    obtain ⟨σ, v1, rfl, hM, hl, hP, hD, hS⟩ := hI
    rw [m_M_mergeRuns_7] at hM
    refine lv_iload_n hx hb d_M_mergeRuns_7 rfl (lv_at hl 1 rfl) ?_
    refine lv_iconst (v := 3) hx hb d_M_mergeRuns_8 (by decide) ?_
    refine lv_icmp_ge (tgt := 25) hx hb d_M_mergeRuns_9 (by decide) (fun h9 => ?_) (fun h9 => ?_)
    · rw [if_pos h9] at hM
      refine lv_iconst (v := 0) hx hb d_M_mergeRuns_25 (by decide) ?_
      refine lv_istore_n hx hb d_M_mergeRuns_26 rfl hl (by decide) (lv' := [(1, .int 0), (0, .ref (ad 0 0))]) rfl (fun ls hl => ?_)
      exact K27 N _ _ _ _ ⟨σ, 0, rfl, hM, lv_sub hl [1, 0] rfl, hP, hD, hS⟩
    · rw [if_neg h9] at hM
      refine lv_aload_n hx hb d_M_mergeRuns_12 rfl (lv_at hl 0 rfl) ?_
      refine va_get (D := (dC, dI)) (ci := 7) (v := .ref (ad 0 16)) (C := R_M) (T := F_M) (N := 33) hx hb htb in_M hown hK hP 0 (g_M) rfl 32 (by decide) (htb _ k_651) (fun _ h9 => h9) rfl d_M_mergeRuns_13 ?_
      refine lv_iload_n hx hb d_M_mergeRuns_16 rfl (lv_at hl 1 rfl) ?_
      refine lv_iconst (v := 0) hx hb d_M_mergeRuns_17 (by decide) ?_
      have hg18 := gd_c hM
      have hM := gd_v hM
      refine va_iast (i := v1) (x := 0) hx hb hK hP hD hS 16 0 (g_M_a16) rfl (inb_in hg18) d_M_mergeRuns_18 (fun H locs hP hD hS => ?_)
      have hP := P_eq (t_M_16) hP
      have hD := D_eq (t_M_16) hD
      refine lv_iinc (k := 1) (v := (v1 + 1)) hx hb d_M_mergeRuns_19 hl rfl rfl (by decide) (lv' := [(1, .int (v1 + 1)), (0, .ref (ad 0 0))]) rfl (fun ls hl => ?_)
      refine lv_goto (tgt := 7) hx hb d_M_mergeRuns_22 (by decide) ?_
      exact K7 _ _ _ _ ⟨(w3 σ 0 16 v1 0), (v1 + 1), rfl, hM, lv_sub hl [1, 0] rfl, hP, hD, hS⟩
  intro K7
  refine lv_aload_n hx hb d_M_mergeRuns_0 rfl (lv_at hl 0 rfl) ?_
  refine lv_iconst (v := 0) hx hb d_M_mergeRuns_1 (by decide) ?_
  refine va_put (D := (dC, dI)) (ci := 7) (v := .int 0) (ty := .int) (C := R_M) (T := F_M) (N := 33) hx hb htb in_M ft_M ft_M_ok n_M hown hK hP hD hS 0 (g_M) rfl 30 (by decide) (htb _ k_649) (fun _ h9 => h9) rfl (by decide +kernel) rfl rfl (Nat.le_of_ble_eq_true rfl) d_M_mergeRuns_2 (fun H locs hP hD hS => ?_)
  have hP := P_eq (s_M_16) hP
  have hD := D_eq (s_M_16) hD
  refine lv_iconst (v := 0) hx hb d_M_mergeRuns_5 (by decide) ?_
  refine lv_istore_n hx hb d_M_mergeRuns_6 rfl hl (by decide) (lv' := [(1, .int 0), (0, .ref (ad 0 0))]) rfl (fun ls hl => ?_)
  exact K7 N _ _ _ _ ⟨(w1 σ 0 16 0), 0, rfl, hM, lv_sub hl [1, 0] rfl, hP, hD, hS⟩
