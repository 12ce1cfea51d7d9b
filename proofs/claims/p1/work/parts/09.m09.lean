theorem d_D_comesBefore_0 : decode b_D_comesBefore 0 = .ok (.iconst 0, 1) := by decide +kernel
theorem d_D_comesBefore_1 : decode b_D_comesBefore 1 = .ok (.istore_n 3, 1) := by decide +kernel
theorem d_D_comesBefore_2 : decode b_D_comesBefore 2 = .ok (.iload_n 3, 1) := by decide +kernel
theorem d_D_comesBefore_3 : decode b_D_comesBefore 3 = .ok (.aload_n 0, 1) := by decide +kernel
theorem d_D_comesBefore_4 : decode b_D_comesBefore 4 = .ok (.getfield 27, 3) := by decide +kernel
theorem d_D_comesBefore_7 : decode b_D_comesBefore 7 = .ok (.if_icmp .ge 75, 3) := by decide +kernel
theorem d_D_comesBefore_10 : decode b_D_comesBefore 10 = .ok (.aload_n 0, 1) := by decide +kernel
theorem d_D_comesBefore_11 : decode b_D_comesBefore 11 = .ok (.getfield 20, 3) := by decide +kernel
theorem d_D_comesBefore_14 : decode b_D_comesBefore 14 = .ok (.iload_n 3, 1) := by decide +kernel
theorem d_D_comesBefore_15 : decode b_D_comesBefore 15 = .ok (.iaload, 1) := by decide +kernel
theorem d_D_comesBefore_16 : decode b_D_comesBefore 16 = .ok (.aload_n 0, 1) := by decide +kernel
theorem d_D_comesBefore_17 : decode b_D_comesBefore 17 = .ok (.iload_n 1, 1) := by decide +kernel
theorem d_D_comesBefore_18 : decode b_D_comesBefore 18 = .ok (.aload_n 0, 1) := by decide +kernel
theorem d_D_comesBefore_19 : decode b_D_comesBefore 19 = .ok (.getfield 16, 3) := by decide +kernel
theorem d_D_comesBefore_22 : decode b_D_comesBefore 22 = .ok (.iload_n 3, 1) := by decide +kernel
theorem d_D_comesBefore_23 : decode b_D_comesBefore 23 = .ok (.iaload, 1) := by decide +kernel
theorem d_D_comesBefore_24 : decode b_D_comesBefore 24 = .ok (.invokevirtual 44, 3) := by decide +kernel
theorem d_D_comesBefore_27 : decode b_D_comesBefore 27 = .ok (.invokestatic 48, 3) := by decide +kernel
theorem d_D_comesBefore_30 : decode b_D_comesBefore 30 = .ok (.lstore 4, 2) := by decide +kernel
theorem d_D_comesBefore_32 : decode b_D_comesBefore 32 = .ok (.aload_n 0, 1) := by decide +kernel
theorem d_D_comesBefore_33 : decode b_D_comesBefore 33 = .ok (.getfield 20, 3) := by decide +kernel
theorem d_D_comesBefore_36 : decode b_D_comesBefore 36 = .ok (.iload_n 3, 1) := by decide +kernel
theorem d_D_comesBefore_37 : decode b_D_comesBefore 37 = .ok (.iaload, 1) := by decide +kernel
theorem d_D_comesBefore_38 : decode b_D_comesBefore 38 = .ok (.aload_n 0, 1) := by decide +kernel
theorem d_D_comesBefore_39 : decode b_D_comesBefore 39 = .ok (.iload_n 2, 1) := by decide +kernel
theorem d_D_comesBefore_40 : decode b_D_comesBefore 40 = .ok (.aload_n 0, 1) := by decide +kernel
theorem d_D_comesBefore_41 : decode b_D_comesBefore 41 = .ok (.getfield 16, 3) := by decide +kernel
theorem d_D_comesBefore_44 : decode b_D_comesBefore 44 = .ok (.iload_n 3, 1) := by decide +kernel
theorem d_D_comesBefore_45 : decode b_D_comesBefore 45 = .ok (.iaload, 1) := by decide +kernel
theorem d_D_comesBefore_46 : decode b_D_comesBefore 46 = .ok (.invokevirtual 44, 3) := by decide +kernel
theorem d_D_comesBefore_49 : decode b_D_comesBefore 49 = .ok (.invokestatic 48, 3) := by decide +kernel
theorem d_D_comesBefore_52 : decode b_D_comesBefore 52 = .ok (.lstore 6, 2) := by decide +kernel
theorem d_D_comesBefore_54 : decode b_D_comesBefore 54 = .ok (.lload 4, 2) := by decide +kernel
theorem d_D_comesBefore_56 : decode b_D_comesBefore 56 = .ok (.lload 6, 2) := by decide +kernel
theorem d_D_comesBefore_58 : decode b_D_comesBefore 58 = .ok (.lcmp, 1) := by decide +kernel
theorem d_D_comesBefore_59 : decode b_D_comesBefore 59 = .ok (.ifCond .eq 17, 3) := by decide +kernel
theorem d_D_comesBefore_62 : decode b_D_comesBefore 62 = .ok (.lload 4, 2) := by decide +kernel
theorem d_D_comesBefore_64 : decode b_D_comesBefore 64 = .ok (.lload 6, 2) := by decide +kernel
theorem d_D_comesBefore_66 : decode b_D_comesBefore 66 = .ok (.lcmp, 1) := by decide +kernel
theorem d_D_comesBefore_67 : decode b_D_comesBefore 67 = .ok (.ifCond .ge 7, 3) := by decide +kernel
theorem d_D_comesBefore_70 : decode b_D_comesBefore 70 = .ok (.iconst 1, 1) := by decide +kernel
theorem d_D_comesBefore_71 : decode b_D_comesBefore 71 = .ok (.goto 4, 3) := by decide +kernel
theorem d_D_comesBefore_74 : decode b_D_comesBefore 74 = .ok (.iconst 0, 1) := by decide +kernel
theorem d_D_comesBefore_75 : decode b_D_comesBefore 75 = .ok (.ireturn, 1) := by decide +kernel
theorem d_D_comesBefore_76 : decode b_D_comesBefore 76 = .ok (.iinc 3 1, 3) := by decide +kernel
theorem d_D_comesBefore_79 : decode b_D_comesBefore 79 = .ok (.goto (-77), 3) := by decide +kernel
theorem d_D_comesBefore_82 : decode b_D_comesBefore 82 = .ok (.iload_n 1, 1) := by decide +kernel
theorem d_D_comesBefore_83 : decode b_D_comesBefore 83 = .ok (.iload_n 2, 1) := by decide +kernel
theorem d_D_comesBefore_84 : decode b_D_comesBefore 84 = .ok (.if_icmp .ge 7, 3) := by decide +kernel
theorem d_D_comesBefore_87 : decode b_D_comesBefore 87 = .ok (.iconst 1, 1) := by decide +kernel
theorem d_D_comesBefore_88 : decode b_D_comesBefore 88 = .ok (.goto 4, 3) := by decide +kernel
theorem d_D_comesBefore_91 : decode b_D_comesBefore 91 = .ok (.iconst 0, 1) := by decide +kernel
theorem d_D_comesBefore_92 : decode b_D_comesBefore 92 = .ok (.ireturn, 1) := by decide +kernel
def m_D_comesBefore_2 (N : Nat) : Nat → SX → Int32 → Int32 → Int32 → Option (Int32 × SX)
  | 0, _, _, _, _ => none
  | n2 + 1, σ, v1, v2, v3 =>
    (if ((σ 1).1 1) ≤ v3 then (if v2 ≤ v1 then some (0, σ) else some (1, σ)) else (if inb v3 3 = true then (if inb v3 3 = true then (bI (m_D_value N σ v1 ((σ 1).2 3 v3.toNatClampNeg)) fun r24 σ24 => (bL (m_D_rank ((σ 1).2 4 v3.toNatClampNeg) r24) fun r27 => (if inb v3 3 = true then (if inb v3 3 = true then (bI (m_D_value N σ v2 ((σ 1).2 3 v3.toNatClampNeg)) fun r46 σ46 => (bL (m_D_rank ((σ 1).2 4 v3.toNatClampNeg) r46) fun r49 => (if (lg_cmp r27 r49) = 0 then m_D_comesBefore_2 N n2 σ v1 v2 (v3 + 1) else (if 0 ≤ (lg_cmp r27 r49) then some (0, σ) else some (1, σ))))) else none) else none))) else none) else none))

def m_D_comesBefore (N : Nat) (σ : SX) (a1 : Int32) (a2 : Int32) : Option (Int32 × SX) :=
  m_D_comesBefore_2 N N σ a1 a2 0

set_option maxHeartbeats 4000000 in
set_option maxRecDepth 100000 in
theorem c_D_comesBefore (l : Launch) (dC : Nat → ClassId) (dI : Nat → Nat → Nat) (ad : Nat → Nat → Nat) (cs : Nat → ClassId) (sz N : Nat) (σ : SX) (a1 : Int32) (a2 : Int32) {r0 : Int32} {σ0 : SX} (hM : m_D_comesBefore N σ a1 a2 = some (r0, σ0)) : Met l y_D_comesBefore (wd y_D_comesBefore b_D_comesBefore 8 (some .boolean)) ({ frames := 2, cells := 0, slots := 0, locals := 43 }) (va_Pc [.ref (ad 1 0), .int a1, .int a2] (preX dC dI ad cs sz σ)) (va_Qi (fun (r : Int32) (_ : Unit) => r = r0 ∧ σ = σ0) (fun _ _ => True) (fun q => sz ≤ q)) 0 0 (fun q => sz ≤ q) := by
  refine Met.ofW (cc := b_D_comesBefore) (maxL := 8) (ret := (some .boolean)) (by decide) rfl ?_
  intro p e s m args below meth c s₁ B hml hv
  obtain ⟨rfl, hsz, hP, hK, hD0, hN⟩ := hv
  have hx := B.exec
  have hb := B.bytes
  have hr := B.returns
  have hts := atoms_spec (ws := (wd y_D_comesBefore b_D_comesBefore 8 (some .boolean))) B.pre
  have htb : ∀ w ∈ tb, w.before _ s = true := fun w h => hts w (List.mem_cons_of_mem _ h)
  have hown : s.vm.findClass R_D = some m.cls := findClass_of_methodNamed B.named
  have hlocks := B.notSynchronized
  subst hsz
  have hD := hD0
  have hA : ∀ q : Nat, s.heap.size ≤ q → s.heap.size ≤ q := fun q h => h
  have hS : va_S (fun q => s.heap.size ≤ q) s.heap s.heap [] := va_S.rf
  have hP : va_P (dC, dI) classes (wX ad cs σ) s.heap := hP
  have hl := lv_entry ([.ref (ad 1 0), .int a1, .int a2]) (n := 8) (Nat.le_of_ble_eq_true rfl)
  rw [lg_entry_eq]
  generalize (lg_sl ([.ref (ad 1 0), .int a1, .int a2]) ++ List.replicate (8 - (lg_sl ([.ref (ad 1 0), .int a1, .int a2])).length) Slot.unset).toArray = ls at hl ⊢
  have hl : lv_has ls 8 [(0, .ref (ad 1 0)), (1, .int a1), (2, .int a2)] := hl
  rw [m_D_comesBefore] at hM
  refine W_loop (pc := 2) (fun n2 H locs ls st => ∃ (v1 : Int32) (v2 : Int32) (v3 : Int32), st = [] ∧ m_D_comesBefore_2 N n2 σ v1 v2 v3 = some (r0, σ0) ∧ lv_has ls 8 [(0, .ref (ad 1 0)), (1, .int v1), (2, .int v2), (3, .int v3)] ∧ va_P (dC, dI) classes (wX ad cs σ) H ∧ va_D (fun _ => True) (wX ad cs σ) ∧ va_S (fun q => s.heap.size ≤ q) s.heap H locs) ?_ ?_ ?_
  · rintro H locs ls st ⟨v1, v2, v3, -, hM, -⟩
    rw [m_D_comesBefore_2] at hM; cases hM
  · intro n2 K2 H locs ls st hI
    obtain ⟨v1, v2, v3, rfl, hM, hl, hP, hD, hS⟩ := hI
    rw [m_D_comesBefore_2] at hM
    refine lv_iload_n hx hb d_D_comesBefore_2 rfl (lv_at hl 3 rfl) ?_
    refine lv_aload_n hx hb d_D_comesBefore_3 rfl (lv_at hl 0 rfl) ?_
    refine va_get (D := (dC, dI)) (ci := 1) (v := .int ((σ 1).1 1)) (C := R_D) (T := F_D) (N := 5) hx hb htb in_D hown hK hP 1 (g_D) rfl 4 (by decide) (htb _ k_36) (fun _ h9 => h9) rfl d_D_comesBefore_4 ?_
    refine lv_icmp_ge (tgt := 82) hx hb d_D_comesBefore_7 (by decide) (fun h7 => ?_) (fun h7 => ?_)
    · rw [if_pos h7] at hM
      refine lv_iload_n hx hb d_D_comesBefore_82 rfl (lv_at hl 1 rfl) ?_
      refine lv_iload_n hx hb d_D_comesBefore_83 rfl (lv_at hl 2 rfl) ?_
      refine lv_icmp_ge (tgt := 91) hx hb d_D_comesBefore_84 (by decide) (fun h84 => ?_) (fun h84 => ?_)
      · rw [if_pos h84] at hM
        refine lv_iconst (v := 0) hx hb d_D_comesBefore_91 (by decide) ?_
        have e9 := Prod.mk.inj (Option.some.inj hM)
        exact W.zret (ty := .boolean) (v := 0) hx hb hr rfl (fun t ht hW => ⟨⟨0, (), rfl, e9, trivial⟩, hS.F ht⟩) hS.2.2 d_D_comesBefore_92
      · rw [if_neg h84] at hM
        refine lv_iconst (v := 1) hx hb d_D_comesBefore_87 (by decide) ?_
        refine lv_goto (tgt := 92) hx hb d_D_comesBefore_88 (by decide) ?_
        have e9 := Prod.mk.inj (Option.some.inj hM)
        exact W.zret (ty := .boolean) (v := 1) hx hb hr rfl (fun t ht hW => ⟨⟨1, (), rfl, e9, trivial⟩, hS.F ht⟩) hS.2.2 d_D_comesBefore_92
    · rw [if_neg h7] at hM
      refine lv_aload_n hx hb d_D_comesBefore_10 rfl (lv_at hl 0 rfl) ?_
      refine va_get (D := (dC, dI)) (ci := 1) (v := .ref (ad 1 4)) (C := R_D) (T := F_D) (N := 5) hx hb htb in_D hown hK hP 1 (g_D) rfl 2 (by decide) (htb _ k_34) (fun _ h9 => h9) rfl d_D_comesBefore_11 ?_
      refine lv_iload_n hx hb d_D_comesBefore_14 rfl (lv_at hl 3 rfl) ?_
      have hg15 := gd_c hM
      have hM := gd_v hM
      refine va_iald hx hb hK hP 6 0 (g_D_a4) rfl (inb_in hg15) d_D_comesBefore_15 ?_
      refine lv_aload_n hx hb d_D_comesBefore_16 rfl (lv_at hl 0 rfl) ?_
      refine lv_iload_n hx hb d_D_comesBefore_17 rfl (lv_at hl 1 rfl) ?_
      refine lv_aload_n hx hb d_D_comesBefore_18 rfl (lv_at hl 0 rfl) ?_
      refine va_get (D := (dC, dI)) (ci := 1) (v := .ref (ad 1 3)) (C := R_D) (T := F_D) (N := 5) hx hb htb in_D hown hK hP 1 (g_D) rfl 1 (by decide) (htb _ k_33) (fun _ h9 => h9) rfl d_D_comesBefore_19 ?_
      refine lv_iload_n hx hb d_D_comesBefore_22 rfl (lv_at hl 3 rfl) ?_
      have hg23 := gd_c hM
      have hM := gd_v hM
      refine va_iald hx hb hK hP 5 0 (g_D_a3) rfl (inb_in hg23) d_D_comesBefore_23 ?_
      obtain ⟨x24, y24, hq24, hM⟩ := bI_some hM
      refine va_calli (va_runV (As := [.int v1, .int ((σ 1).2 3 v3.toNatClampNeg)]) (rest := [.int ((σ 1).2 4 v3.toNatClampNeg)]) ⟨hx, hb, hml, hown, hts⟩ (c_D_value l dC dI ad cs _ N σ v1 ((σ 1).2 3 v3.toNatClampNeg) hq24) (cwV 2 hts (goodV k_321 k_322 k_323 k_2 k_324) rfl rfl rfl ⟨rfl, by decide, by decide, by decide +kernel⟩ ⟨Nat.le_of_ble_eq_true rfl, Nat.le_of_ble_eq_true rfl⟩) ⟨blindX, va_recv hK hP rfl (g_D), payX hP hK hD hN⟩ rfl rfl hl.1 rfl (lv_room (Nat.le_of_ble_eq_true rfl)) d_D_comesBefore_24 ⟨Nat.zero_le _, Nat.zero_le _⟩) hS (fun q h0 h => absurd h0 (Nat.not_lt.mpr h)) (fun q h => hA q (Nat.le_trans hS.1 h)) (fun r24 u t H locs ht hvm hpost hB hz1 hk1 hS => ?_)
      obtain ⟨e1, e2⟩ := hpost
      subst e1
      subst e2
      have hP := keepP hP hk1
      obtain ⟨x27, hq27, hM⟩ := bL_some hM
      refine va_calll (va_runS (As := [.int ((σ 1).2 4 v3.toNatClampNeg), .int r24]) (rest := []) ⟨hx, hb, hml, hown, hts⟩ (c_D_rank l _ ((σ 1).2 4 v3.toNatClampNeg) r24 hq27) (cwS 2 hts (goodS k_329 k_330 k_2 k_331) rfl rfl rfl ⟨rfl, by decide, by decide, by decide +kernel⟩ ⟨Nat.le_of_ble_eq_true rfl, Nat.le_of_ble_eq_true rfl⟩) ⟨blindS, payS⟩ rfl rfl hl.1 rfl (lv_room (Nat.le_of_ble_eq_true rfl)) d_D_comesBefore_27 ⟨Nat.zero_le _, Nat.zero_le _⟩) hS (fun q h0 h => absurd h0 (Nat.not_lt.mpr h)) (fun q h => hA q (Nat.le_trans hS.1 h)) (fun r27 u t H locs ht hvm hpost hB hz1 hk1 hS => ?_)
      subst hpost
      have hP := keepP hP hk1
      refine lv_lstore hx hb d_D_comesBefore_30 hl (by decide) (lv' := [(4, .long r27), (0, .ref (ad 1 0)), (1, .int v1), (2, .int v2), (3, .int v3)]) rfl (fun ls hl => ?_)
      refine lv_aload_n hx hb d_D_comesBefore_32 rfl (lv_at hl 1 rfl) ?_
      refine va_get (D := (dC, dI)) (ci := 1) (v := .ref (ad 1 4)) (C := R_D) (T := F_D) (N := 5) hx hb htb in_D hown hK hP 1 (g_D) rfl 2 (by decide) (htb _ k_34) (fun _ h9 => h9) rfl d_D_comesBefore_33 ?_
      refine lv_iload_n hx hb d_D_comesBefore_36 rfl (lv_at hl 4 rfl) ?_
      have hg37 := gd_c hM
      have hM := gd_v hM
      refine va_iald hx hb hK hP 6 0 (g_D_a4) rfl (inb_in hg37) d_D_comesBefore_37 ?_
      refine lv_aload_n hx hb d_D_comesBefore_38 rfl (lv_at hl 1 rfl) ?_
      refine lv_iload_n hx hb d_D_comesBefore_39 rfl (lv_at hl 3 rfl) ?_
      refine lv_aload_n hx hb d_D_comesBefore_40 rfl (lv_at hl 1 rfl) ?_
      refine va_get (D := (dC, dI)) (ci := 1) (v := .ref (ad 1 3)) (C := R_D) (T := F_D) (N := 5) hx hb htb in_D hown hK hP 1 (g_D) rfl 1 (by decide) (htb _ k_33) (fun _ h9 => h9) rfl d_D_comesBefore_41 ?_
      refine lv_iload_n hx hb d_D_comesBefore_44 rfl (lv_at hl 4 rfl) ?_
      have hg45 := gd_c hM
      have hM := gd_v hM
      refine va_iald hx hb hK hP 5 0 (g_D_a3) rfl (inb_in hg45) d_D_comesBefore_45 ?_
      obtain ⟨x46, y46, hq46, hM⟩ := bI_some hM
      refine va_calli (va_runV (As := [.int v2, .int ((σ 1).2 3 v3.toNatClampNeg)]) (rest := [.int ((σ 1).2 4 v3.toNatClampNeg)]) ⟨hx, hb, hml, hown, hts⟩ (c_D_value l dC dI ad cs _ N σ v2 ((σ 1).2 3 v3.toNatClampNeg) hq46) (cwV 2 hts (goodV k_321 k_322 k_323 k_2 k_324) rfl rfl rfl ⟨rfl, by decide, by decide, by decide +kernel⟩ ⟨Nat.le_of_ble_eq_true rfl, Nat.le_of_ble_eq_true rfl⟩) ⟨blindX, va_recv hK hP rfl (g_D), payX hP hK hD hN⟩ rfl rfl hl.1 rfl (lv_room (Nat.le_of_ble_eq_true rfl)) d_D_comesBefore_46 ⟨Nat.zero_le _, Nat.zero_le _⟩) hS (fun q h0 h => absurd h0 (Nat.not_lt.mpr h)) (fun q h => hA q (Nat.le_trans hS.1 h)) (fun r46 u t H locs ht hvm hpost hB hz1 hk1 hS => ?_)
      obtain ⟨e1, e2⟩ := hpost
      subst e1
      subst e2
      have hP := keepP hP hk1
      obtain ⟨x49, hq49, hM⟩ := bL_some hM
      refine va_calll (va_runS (As := [.int ((σ 1).2 4 v3.toNatClampNeg), .int r46]) (rest := []) ⟨hx, hb, hml, hown, hts⟩ (c_D_rank l _ ((σ 1).2 4 v3.toNatClampNeg) r46 hq49) (cwS 2 hts (goodS k_329 k_330 k_2 k_331) rfl rfl rfl ⟨rfl, by decide, by decide, by decide +kernel⟩ ⟨Nat.le_of_ble_eq_true rfl, Nat.le_of_ble_eq_true rfl⟩) ⟨blindS, payS⟩ rfl rfl hl.1 rfl (lv_room (Nat.le_of_ble_eq_true rfl)) d_D_comesBefore_49 ⟨Nat.zero_le _, Nat.zero_le _⟩) hS (fun q h0 h => absurd h0 (Nat.not_lt.mpr h)) (fun q h => hA q (Nat.le_trans hS.1 h)) (fun r49 u t H locs ht hvm hpost hB hz1 hk1 hS => ?_)
      subst hpost
      have hP := keepP hP hk1
      refine lv_lstore hx hb d_D_comesBefore_52 hl (by decide) (lv' := [(6, .long r49), (4, .long r27), (0, .ref (ad 1 0)), (1, .int v1), (2, .int v2), (3, .int v3)]) rfl (fun ls hl => ?_)
      refine lv_lload hx hb d_D_comesBefore_54 (lv_at hl 1 rfl) ?_
      refine lv_lload hx hb d_D_comesBefore_56 (lv_at hl 0 rfl) ?_
      refine W.lcmp hx hb d_D_comesBefore_58 ?_
      refine lv_if_eq (tgt := 76) hx hb d_D_comesBefore_59 (by decide) (fun h59 => ?_) (fun h59 => ?_)
      · rw [if_pos h59] at hM
        refine lv_iinc (k := 5) (v := (v3 + 1)) hx hb d_D_comesBefore_76 hl rfl rfl (by decide) (lv' := [(3, .int (v3 + 1)), (6, .long r49), (4, .long r27), (0, .ref (ad 1 0)), (1, .int v1), (2, .int v2)]) rfl (fun ls hl => ?_)
        refine lv_goto (tgt := 2) hx hb d_D_comesBefore_79 (by decide) ?_
        exact K2 _ _ _ _ ⟨v1, v2, (v3 + 1), rfl, hM, lv_sub hl [3, 4, 5, 0] rfl, hP, hD, hS⟩
      · rw [if_neg h59] at hM
        refine lv_lload hx hb d_D_comesBefore_62 (lv_at hl 1 rfl) ?_
        refine lv_lload hx hb d_D_comesBefore_64 (lv_at hl 0 rfl) ?_
        refine W.lcmp hx hb d_D_comesBefore_66 ?_
        refine lv_if_ge (tgt := 74) hx hb d_D_comesBefore_67 (by decide) (fun h67 => ?_) (fun h67 => ?_)
        · rw [if_pos h67] at hM
          refine lv_iconst (v := 0) hx hb d_D_comesBefore_74 (by decide) ?_
          have e9 := Prod.mk.inj (Option.some.inj hM)
          exact W.zret (ty := .boolean) (v := 0) hx hb hr rfl (fun t ht hW => ⟨⟨0, (), rfl, e9, trivial⟩, hS.F ht⟩) hS.2.2 d_D_comesBefore_75
        · rw [if_neg h67] at hM
          refine lv_iconst (v := 1) hx hb d_D_comesBefore_70 (by decide) ?_
          refine lv_goto (tgt := 75) hx hb d_D_comesBefore_71 (by decide) ?_
          have e9 := Prod.mk.inj (Option.some.inj hM)
          exact W.zret (ty := .boolean) (v := 1) hx hb hr rfl (fun t ht hW => ⟨⟨1, (), rfl, e9, trivial⟩, hS.F ht⟩) hS.2.2 d_D_comesBefore_75
  intro K2
  refine lv_iconst (v := 0) hx hb d_D_comesBefore_0 (by decide) ?_
  refine lv_istore_n hx hb d_D_comesBefore_1 rfl hl (by decide) (lv' := [(3, .int 0), (0, .ref (ad 1 0)), (1, .int a1), (2, .int a2)]) rfl (fun ls hl => ?_)
  exact K2 N _ _ _ _ ⟨a1, a2, 0, rfl, hM, lv_sub hl [1, 2, 3, 0] rfl, hP, hD, hS⟩

theorem d_O_compare_0 : decode b_O_compare 0 = .ok (.iload_n 1, 1) := by decide +kernel
theorem d_O_compare_1 : decode b_O_compare 1 = .ok (.iload_n 2, 1) := by decide +kernel
theorem d_O_compare_2 : decode b_O_compare 2 = .ok (.if_icmp .eq 25, 3) := by decide +kernel
theorem d_O_compare_5 : decode b_O_compare 5 = .ok (.aload_n 0, 1) := by decide +kernel
theorem d_O_compare_6 : decode b_O_compare 6 = .ok (.getfield 10, 3) := by decide +kernel
theorem d_O_compare_9 : decode b_O_compare 9 = .ok (.iload_n 1, 1) := by decide +kernel
theorem d_O_compare_10 : decode b_O_compare 10 = .ok (.invokevirtual 165, 3) := by decide +kernel
theorem d_O_compare_13 : decode b_O_compare 13 = .ok (.ifCond .eq 14, 3) := by decide +kernel
theorem d_O_compare_16 : decode b_O_compare 16 = .ok (.aload_n 0, 1) := by decide +kernel
theorem d_O_compare_17 : decode b_O_compare 17 = .ok (.getfield 10, 3) := by decide +kernel
theorem d_O_compare_20 : decode b_O_compare 20 = .ok (.iload_n 2, 1) := by decide +kernel
theorem d_O_compare_21 : decode b_O_compare 21 = .ok (.invokevirtual 165, 3) := by decide +kernel
theorem d_O_compare_24 : decode b_O_compare 24 = .ok (.ifCond .ne 5, 3) := by decide +kernel
theorem d_O_compare_27 : decode b_O_compare 27 = .ok (.iconst 0, 1) := by decide +kernel
theorem d_O_compare_28 : decode b_O_compare 28 = .ok (.ireturn, 1) := by decide +kernel
theorem d_O_compare_29 : decode b_O_compare 29 = .ok (.aload_n 0, 1) := by decide +kernel
theorem d_O_compare_30 : decode b_O_compare 30 = .ok (.getfield 10, 3) := by decide +kernel
theorem d_O_compare_33 : decode b_O_compare 33 = .ok (.iload_n 1, 1) := by decide +kernel
theorem d_O_compare_34 : decode b_O_compare 34 = .ok (.iload_n 2, 1) := by decide +kernel
theorem d_O_compare_35 : decode b_O_compare 35 = .ok (.invokevirtual 168, 3) := by decide +kernel
theorem d_O_compare_38 : decode b_O_compare 38 = .ok (.ifCond .eq 7, 3) := by decide +kernel
theorem d_O_compare_41 : decode b_O_compare 41 = .ok (.iconst (-1), 1) := by decide +kernel
theorem d_O_compare_42 : decode b_O_compare 42 = .ok (.goto 4, 3) := by decide +kernel
theorem d_O_compare_45 : decode b_O_compare 45 = .ok (.iconst 1, 1) := by decide +kernel
theorem d_O_compare_46 : decode b_O_compare 46 = .ok (.ireturn, 1) := by decide +kernel
def m_O_compare (N : Nat) (σ : SX) (a1 : Int32) (a2 : Int32) : Option (Int32 × SX) :=
  (if a1 = a2 then some (0, σ) else (bI (m_D_hasCard N σ a1) fun r10 σ10 => (if r10 = 0 then some (0, σ) else (bI (m_D_hasCard N σ a2) fun r21 σ21 => (if r21 = 0 then some (0, σ) else (bI (m_D_comesBefore N σ a1 a2) fun r35 σ35 => (if r35 = 0 then some (1, σ) else some ((-1), σ))))))))

set_option maxHeartbeats 4000000 in
set_option maxRecDepth 100000 in
theorem c_O_compare (l : Launch) (dC : Nat → ClassId) (dI : Nat → Nat → Nat) (ad : Nat → Nat → Nat) (cs : Nat → ClassId) (sz N : Nat) (σ : SX) (a1 : Int32) (a2 : Int32) {r0 : Int32} {σ0 : SX} (hM : m_O_compare N σ a1 a2 = some (r0, σ0)) : Met l y_O_compare (wd y_O_compare b_O_compare 3 (some .int)) ({ frames := 3, cells := 0, slots := 0, locals := 70 }) (va_Pc [.ref (ad 0 0), .int a1, .int a2] (preX dC dI ad cs sz σ)) (va_Qi (fun (r : Int32) (_ : Unit) => r = r0 ∧ σ = σ0) (fun _ _ => True) (fun q => sz ≤ q)) 0 0 (fun q => sz ≤ q) := by
  refine Met.ofW (cc := b_O_compare) (maxL := 3) (ret := (some .int)) (by decide) rfl ?_
  intro p e s m args below meth c s₁ B hml hv
  obtain ⟨rfl, hsz, hP, hK, hD0, hN⟩ := hv
  have hx := B.exec
  have hb := B.bytes
  have hr := B.returns
  have hts := atoms_spec (ws := (wd y_O_compare b_O_compare 3 (some .int))) B.pre
  have htb : ∀ w ∈ tb, w.before _ s = true := fun w h => hts w (List.mem_cons_of_mem _ h)
  have hown : s.vm.findClass R_O = some m.cls := findClass_of_methodNamed B.named
  have hlocks := B.notSynchronized
  subst hsz
  have hD := hD0
  have hA : ∀ q : Nat, s.heap.size ≤ q → s.heap.size ≤ q := fun q h => h
  have hS : va_S (fun q => s.heap.size ≤ q) s.heap s.heap [] := va_S.rf
  have hP : va_P (dC, dI) classes (wX ad cs σ) s.heap := hP
  have hl := lv_entry ([.ref (ad 0 0), .int a1, .int a2]) (n := 3) (Nat.le_of_ble_eq_true rfl)
  rw [lg_entry_eq]
  generalize (lg_sl ([.ref (ad 0 0), .int a1, .int a2]) ++ List.replicate (3 - (lg_sl ([.ref (ad 0 0), .int a1, .int a2])).length) Slot.unset).toArray = ls at hl ⊢
  have hl : lv_has ls 3 [(0, .ref (ad 0 0)), (1, .int a1), (2, .int a2)] := hl
  rw [m_O_compare] at hM
  refine lv_iload_n hx hb d_O_compare_0 rfl (lv_at hl 1 rfl) ?_
  refine lv_iload_n hx hb d_O_compare_1 rfl (lv_at hl 2 rfl) ?_
  refine lv_icmp_eq (tgt := 27) hx hb d_O_compare_2 (by decide) (fun h2 => ?_) (fun h2 => ?_)
  · rw [if_pos h2] at hM
    refine lv_iconst (v := 0) hx hb d_O_compare_27 (by decide) ?_
    have e9 := Prod.mk.inj (Option.some.inj hM)
    exact W.iret (v := 0) hx hb hr (fun t ht hW => ⟨⟨0, (), rfl, e9, trivial⟩, hS.F ht⟩) hS.2.2 d_O_compare_28
  · rw [if_neg h2] at hM
    refine lv_aload_n hx hb d_O_compare_5 rfl (lv_at hl 0 rfl) ?_
    refine va_get (D := (dC, dI)) (ci := 0) (v := .ref (ad 1 0)) (C := R_O) (T := F_O) (N := 12) hx hb htb in_O hown hK hP 0 (g_O) rfl 0 (by decide) (htb _ k_148) (fun _ h9 => h9) rfl d_O_compare_6 ?_
    refine lv_iload_n hx hb d_O_compare_9 rfl (lv_at hl 1 rfl) ?_
    obtain ⟨x10, y10, hq10, hM⟩ := bI_some hM
    refine va_calli (va_runV (As := [.int a1]) (rest := []) ⟨hx, hb, hml, hown, hts⟩ (c_D_hasCard l dC dI ad cs _ N σ a1 hq10) (cwV 1 hts (goodV k_313 k_314 k_315 k_2 k_316) rfl rfl rfl ⟨rfl, by decide, by decide, by decide +kernel⟩ ⟨Nat.le_of_ble_eq_true rfl, Nat.le_of_ble_eq_true rfl⟩) ⟨blindX, va_recv hK hP rfl (g_D), payX hP hK hD hN⟩ rfl rfl hl.1 rfl (lv_room (Nat.le_of_ble_eq_true rfl)) d_O_compare_10 ⟨Nat.zero_le _, Nat.zero_le _⟩) hS (fun q h0 h => absurd h0 (Nat.not_lt.mpr h)) (fun q h => hA q (Nat.le_trans hS.1 h)) (fun r10 u t H locs ht hvm hpost hB hz1 hk1 hS => ?_)
    obtain ⟨e1, e2⟩ := hpost
    subst e1
    subst e2
    have hP := keepP hP hk1
    refine lv_if_eq (tgt := 27) hx hb d_O_compare_13 (by decide) (fun h13 => ?_) (fun h13 => ?_)
    · rw [if_pos h13] at hM
      refine lv_iconst (v := 0) hx hb d_O_compare_27 (by decide) ?_
      have e9 := Prod.mk.inj (Option.some.inj hM)
      exact W.iret (v := 0) hx hb hr (fun t ht hW => ⟨⟨0, (), rfl, e9, trivial⟩, hS.F ht⟩) hS.2.2 d_O_compare_28
    · rw [if_neg h13] at hM
      refine lv_aload_n hx hb d_O_compare_16 rfl (lv_at hl 0 rfl) ?_
      refine va_get (D := (dC, dI)) (ci := 0) (v := .ref (ad 1 0)) (C := R_O) (T := F_O) (N := 12) hx hb htb in_O hown hK hP 0 (g_O) rfl 0 (by decide) (htb _ k_148) (fun _ h9 => h9) rfl d_O_compare_17 ?_
      refine lv_iload_n hx hb d_O_compare_20 rfl (lv_at hl 2 rfl) ?_
      obtain ⟨x21, y21, hq21, hM⟩ := bI_some hM
      refine va_calli (va_runV (As := [.int a2]) (rest := []) ⟨hx, hb, hml, hown, hts⟩ (c_D_hasCard l dC dI ad cs _ N σ a2 hq21) (cwV 1 hts (goodV k_313 k_314 k_315 k_2 k_316) rfl rfl rfl ⟨rfl, by decide, by decide, by decide +kernel⟩ ⟨Nat.le_of_ble_eq_true rfl, Nat.le_of_ble_eq_true rfl⟩) ⟨blindX, va_recv hK hP rfl (g_D), payX hP hK hD hN⟩ rfl rfl hl.1 rfl (lv_room (Nat.le_of_ble_eq_true rfl)) d_O_compare_21 ⟨Nat.zero_le _, Nat.zero_le _⟩) hS (fun q h0 h => absurd h0 (Nat.not_lt.mpr h)) (fun q h => hA q (Nat.le_trans hS.1 h)) (fun r21 u t H locs ht hvm hpost hB hz1 hk1 hS => ?_)
      obtain ⟨e1, e2⟩ := hpost
      subst e1
      subst e2
      have hP := keepP hP hk1
      refine lv_if_ne (tgt := 29) hx hb d_O_compare_24 (by decide) (fun h24 => ?_) (fun h24 => ?_)
      · rw [if_neg h24] at hM
        refine lv_aload_n hx hb d_O_compare_29 rfl (lv_at hl 0 rfl) ?_
        refine va_get (D := (dC, dI)) (ci := 0) (v := .ref (ad 1 0)) (C := R_O) (T := F_O) (N := 12) hx hb htb in_O hown hK hP 0 (g_O) rfl 0 (by decide) (htb _ k_148) (fun _ h9 => h9) rfl d_O_compare_30 ?_
        refine lv_iload_n hx hb d_O_compare_33 rfl (lv_at hl 1 rfl) ?_
        refine lv_iload_n hx hb d_O_compare_34 rfl (lv_at hl 2 rfl) ?_
        obtain ⟨x35, y35, hq35, hM⟩ := bI_some hM
        refine va_calli (va_runV (As := [.int a1, .int a2]) (rest := []) ⟨hx, hb, hml, hown, hts⟩ (c_D_comesBefore l dC dI ad cs _ N σ a1 a2 hq35) (cwV 2 hts (goodV k_317 k_318 k_319 k_2 k_320) rfl rfl rfl ⟨rfl, by decide, by decide, by decide +kernel⟩ ⟨Nat.le_of_ble_eq_true rfl, Nat.le_of_ble_eq_true rfl⟩) ⟨blindX, va_recv hK hP rfl (g_D), payX hP hK hD hN⟩ rfl rfl hl.1 rfl (lv_room (Nat.le_of_ble_eq_true rfl)) d_O_compare_35 ⟨Nat.zero_le _, Nat.zero_le _⟩) hS (fun q h0 h => absurd h0 (Nat.not_lt.mpr h)) (fun q h => hA q (Nat.le_trans hS.1 h)) (fun r35 u t H locs ht hvm hpost hB hz1 hk1 hS => ?_)
        obtain ⟨e1, e2⟩ := hpost
        subst e1
        subst e2
        have hP := keepP hP hk1
        refine lv_if_eq (tgt := 45) hx hb d_O_compare_38 (by decide) (fun h38 => ?_) (fun h38 => ?_)
        · rw [if_pos h38] at hM
          refine lv_iconst (v := 1) hx hb d_O_compare_45 (by decide) ?_
          have e9 := Prod.mk.inj (Option.some.inj hM)
          exact W.iret (v := 1) hx hb hr (fun t ht hW => ⟨⟨1, (), rfl, e9, trivial⟩, hS.F ht⟩) hS.2.2 d_O_compare_46
        · rw [if_neg h38] at hM
          refine lv_iconst (v := (-1)) hx hb d_O_compare_41 (by decide) ?_
          refine lv_goto (tgt := 46) hx hb d_O_compare_42 (by decide) ?_
          have e9 := Prod.mk.inj (Option.some.inj hM)
          exact W.iret (v := (-1)) hx hb hr (fun t ht hW => ⟨⟨(-1), (), rfl, e9, trivial⟩, hS.F ht⟩) hS.2.2 d_O_compare_46
      · rw [if_pos h24] at hM
        refine lv_iconst (v := 0) hx hb d_O_compare_27 (by decide) ?_
        have e9 := Prod.mk.inj (Option.some.inj hM)
        exact W.iret (v := 0) hx hb hr (fun t ht hW => ⟨⟨0, (), rfl, e9, trivial⟩, hS.F ht⟩) hS.2.2 d_O_compare_28

theorem d_O_field_0 : decode b_O_field 0 = .ok (.aload_n 0, 1) := by decide +kernel
theorem d_O_field_1 : decode b_O_field 1 = .ok (.getfield 10, 3) := by decide +kernel
theorem d_O_field_4 : decode b_O_field 4 = .ok (.iload_n 1, 1) := by decide +kernel
theorem d_O_field_5 : decode b_O_field 5 = .ok (.iload_n 2, 1) := by decide +kernel
theorem d_O_field_6 : decode b_O_field 6 = .ok (.invokevirtual 172, 3) := by decide +kernel
theorem d_O_field_9 : decode b_O_field 9 = .ok (.ireturn, 1) := by decide +kernel
def m_O_field (N : Nat) (σ : SX) (a1 : Int32) (a2 : Int32) : Option (Int32 × SX) :=
  (bI (m_D_value N σ a1 a2) fun r6 σ6 => some (r6, σ))

set_option maxHeartbeats 4000000 in
set_option maxRecDepth 100000 in
theorem c_O_field (l : Launch) (dC : Nat → ClassId) (dI : Nat → Nat → Nat) (ad : Nat → Nat → Nat) (cs : Nat → ClassId) (sz N : Nat) (σ : SX) (a1 : Int32) (a2 : Int32) {r0 : Int32} {σ0 : SX} (hM : m_O_field N σ a1 a2 = some (r0, σ0)) : Met l y_O_field (wd y_O_field b_O_field 3 (some .int)) ({ frames := 2, cells := 0, slots := 0, locals := 43 }) (va_Pc [.ref (ad 0 0), .int a1, .int a2] (preX dC dI ad cs sz σ)) (va_Qi (fun (r : Int32) (_ : Unit) => r = r0 ∧ σ = σ0) (fun _ _ => True) (fun q => sz ≤ q)) 0 0 (fun q => sz ≤ q) := by
  refine Met.ofW (cc := b_O_field) (maxL := 3) (ret := (some .int)) (by decide) rfl ?_
  intro p e s m args below meth c s₁ B hml hv
  obtain ⟨rfl, hsz, hP, hK, hD0, hN⟩ := hv
  have hx := B.exec
  have hb := B.bytes
  have hr := B.returns
  have hts := atoms_spec (ws := (wd y_O_field b_O_field 3 (some .int))) B.pre
  have htb : ∀ w ∈ tb, w.before _ s = true := fun w h => hts w (List.mem_cons_of_mem _ h)
  have hown : s.vm.findClass R_O = some m.cls := findClass_of_methodNamed B.named
  have hlocks := B.notSynchronized
  subst hsz
  have hD := hD0
  have hA : ∀ q : Nat, s.heap.size ≤ q → s.heap.size ≤ q := fun q h => h
  have hS : va_S (fun q => s.heap.size ≤ q) s.heap s.heap [] := va_S.rf
  have hP : va_P (dC, dI) classes (wX ad cs σ) s.heap := hP
  have hl := lv_entry ([.ref (ad 0 0), .int a1, .int a2]) (n := 3) (Nat.le_of_ble_eq_true rfl)
  rw [lg_entry_eq]
  generalize (lg_sl ([.ref (ad 0 0), .int a1, .int a2]) ++ List.replicate (3 - (lg_sl ([.ref (ad 0 0), .int a1, .int a2])).length) Slot.unset).toArray = ls at hl ⊢
  have hl : lv_has ls 3 [(0, .ref (ad 0 0)), (1, .int a1), (2, .int a2)] := hl
  rw [m_O_field] at hM
  refine lv_aload_n hx hb d_O_field_0 rfl (lv_at hl 0 rfl) ?_
  refine va_get (D := (dC, dI)) (ci := 0) (v := .ref (ad 1 0)) (C := R_O) (T := F_O) (N := 12) hx hb htb in_O hown hK hP 0 (g_O) rfl 0 (by decide) (htb _ k_148) (fun _ h9 => h9) rfl d_O_field_1 ?_
  refine lv_iload_n hx hb d_O_field_4 rfl (lv_at hl 1 rfl) ?_
  refine lv_iload_n hx hb d_O_field_5 rfl (lv_at hl 2 rfl) ?_
  obtain ⟨x6, y6, hq6, hM⟩ := bI_some hM
  refine va_calli (va_runV (As := [.int a1, .int a2]) (rest := []) ⟨hx, hb, hml, hown, hts⟩ (c_D_value l dC dI ad cs _ N σ a1 a2 hq6) (cwV 2 hts (goodV k_337 k_322 k_323 k_2 k_324) rfl rfl rfl ⟨rfl, by decide, by decide, by decide +kernel⟩ ⟨Nat.le_of_ble_eq_true rfl, Nat.le_of_ble_eq_true rfl⟩) ⟨blindX, va_recv hK hP rfl (g_D), payX hP hK hD hN⟩ rfl rfl hl.1 rfl (lv_room (Nat.le_of_ble_eq_true rfl)) d_O_field_6 ⟨Nat.zero_le _, Nat.zero_le _⟩) hS (fun q h0 h => absurd h0 (Nat.not_lt.mpr h)) (fun q h => hA q (Nat.le_trans hS.1 h)) (fun r6 u t H locs ht hvm hpost hB hz1 hk1 hS => ?_)
  obtain ⟨e1, e2⟩ := hpost
  subst e1
  subst e2
  have hP := keepP hP hk1
  have e9 := Prod.mk.inj (Option.some.inj hM)
  exact W.iret (v := r6) hx hb hr (fun t ht hW => ⟨⟨r6, (), rfl, e9, trivial⟩, hS.F ht⟩) hS.2.2 d_O_field_9

theorem d_S_copyFrom_0 : decode b_S_copyFrom 0 = .ok (.aload_n 0, 1) := by decide +kernel
theorem d_S_copyFrom_1 : decode b_S_copyFrom 1 = .ok (.aload_n 1, 1) := by decide +kernel
theorem d_S_copyFrom_2 : decode b_S_copyFrom 2 = .ok (.getfield 19, 3) := by decide +kernel
theorem d_S_copyFrom_5 : decode b_S_copyFrom 5 = .ok (.putfield 19, 3) := by decide +kernel
theorem d_S_copyFrom_8 : decode b_S_copyFrom 8 = .ok (.aload_n 0, 1) := by decide +kernel
theorem d_S_copyFrom_9 : decode b_S_copyFrom 9 = .ok (.aload_n 1, 1) := by decide +kernel
theorem d_S_copyFrom_10 : decode b_S_copyFrom 10 = .ok (.getfield 23, 3) := by decide +kernel
theorem d_S_copyFrom_13 : decode b_S_copyFrom 13 = .ok (.putfield 23, 3) := by decide +kernel
theorem d_S_copyFrom_16 : decode b_S_copyFrom 16 = .ok (.iconst 0, 1) := by decide +kernel
theorem d_S_copyFrom_17 : decode b_S_copyFrom 17 = .ok (.istore_n 2, 1) := by decide +kernel
theorem d_S_copyFrom_18 : decode b_S_copyFrom 18 = .ok (.iload_n 2, 1) := by decide +kernel
theorem d_S_copyFrom_19 : decode b_S_copyFrom 19 = .ok (.aload_n 0, 1) := by decide +kernel
theorem d_S_copyFrom_20 : decode b_S_copyFrom 20 = .ok (.getfield 19, 3) := by decide +kernel
theorem d_S_copyFrom_23 : decode b_S_copyFrom 23 = .ok (.if_icmp .ge 33, 3) := by decide +kernel
theorem d_S_copyFrom_26 : decode b_S_copyFrom 26 = .ok (.aload_n 0, 1) := by decide +kernel
theorem d_S_copyFrom_27 : decode b_S_copyFrom 27 = .ok (.getfield 9, 3) := by decide +kernel
theorem d_S_copyFrom_30 : decode b_S_copyFrom 30 = .ok (.iload_n 2, 1) := by decide +kernel
theorem d_S_copyFrom_31 : decode b_S_copyFrom 31 = .ok (.aload_n 1, 1) := by decide +kernel
theorem d_S_copyFrom_32 : decode b_S_copyFrom 32 = .ok (.getfield 9, 3) := by decide +kernel
theorem d_S_copyFrom_35 : decode b_S_copyFrom 35 = .ok (.iload_n 2, 1) := by decide +kernel
theorem d_S_copyFrom_36 : decode b_S_copyFrom 36 = .ok (.iaload, 1) := by decide +kernel
theorem d_S_copyFrom_37 : decode b_S_copyFrom 37 = .ok (.iastore, 1) := by decide +kernel
theorem d_S_copyFrom_38 : decode b_S_copyFrom 38 = .ok (.aload_n 0, 1) := by decide +kernel
theorem d_S_copyFrom_39 : decode b_S_copyFrom 39 = .ok (.getfield 15, 3) := by decide +kernel
theorem d_S_copyFrom_42 : decode b_S_copyFrom 42 = .ok (.iload_n 2, 1) := by decide +kernel
theorem d_S_copyFrom_43 : decode b_S_copyFrom 43 = .ok (.aload_n 1, 1) := by decide +kernel
theorem d_S_copyFrom_44 : decode b_S_copyFrom 44 = .ok (.getfield 15, 3) := by decide +kernel
theorem d_S_copyFrom_47 : decode b_S_copyFrom 47 = .ok (.iload_n 2, 1) := by decide +kernel
theorem d_S_copyFrom_48 : decode b_S_copyFrom 48 = .ok (.baload, 1) := by decide +kernel
theorem d_S_copyFrom_49 : decode b_S_copyFrom 49 = .ok (.bastore, 1) := by decide +kernel
theorem d_S_copyFrom_50 : decode b_S_copyFrom 50 = .ok (.iinc 2 1, 3) := by decide +kernel
theorem d_S_copyFrom_53 : decode b_S_copyFrom 53 = .ok (.goto (-35), 3) := by decide +kernel
theorem d_S_copyFrom_56 : decode b_S_copyFrom 56 = .ok (.return_, 1) := by decide +kernel
def m_S_copyFrom_18 (N : Nat) (j : Nat) (j2 : Nat) : Nat → SX → Int32 → Option (SX)
  | 0, _, _ => none
  | n18 + 1, σ, v2 =>
    (if ((σ j).1 1) ≤ v2 then some σ else (if inb v2 8 = true then (if inb v2 8 = true then (if inb v2 8 = true then (if inb v2 8 = true then m_S_copyFrom_18 N j j2 n18 (w3 (w3 σ j 1 v2 ((σ j2).2 1 v2.toNatClampNeg)) j 2 v2 (vp_nar .boolean (((w3 σ j 1 v2 ((σ j2).2 1 v2.toNatClampNeg)) j2).2 2 v2.toNatClampNeg))) (v2 + 1) else none) else none) else none) else none))

def m_S_copyFrom (N : Nat) (σ : SX) (j : Nat) (j2 : Nat) : Option (SX) :=
  m_S_copyFrom_18 N j j2 N (w1 (w1 σ j 1 ((σ j2).1 1)) j 2 (((w1 σ j 1 ((σ j2).1 1)) j2).1 2)) 0

set_option maxHeartbeats 4000000 in
set_option maxRecDepth 100000 in
theorem c_S_copyFrom (l : Launch) (dC : Nat → ClassId) (dI : Nat → Nat → Nat) (ad : Nat → Nat → Nat) (cs : Nat → ClassId) (sz N : Nat) (σ : SX) (j : Nat) (hj : j = 2 ∨ j = 3) (j2 : Nat) (hj2 : j2 = 2 ∨ j2 = 3) {σ0 : SX} (hM : m_S_copyFrom N σ j j2 = some σ0) : Met l y_S_copyFrom (wd y_S_copyFrom b_S_copyFrom 3 none) ({ frames := 0, cells := 0, slots := 0, locals := 0 }) (va_Pc [.ref (ad j 0), .ref (ad j2 0)] (preX dC dI ad cs sz σ)) (va_Qv (fun (u : SX) => u = σ0) (atX dC dI ad cs (va_A (wX ad cs σ) sz)) (va_A (wX ad cs σ) sz)) 0 0 (va_A (wX ad cs σ) sz) := by
  refine Met.ofW (cc := b_S_copyFrom) (maxL := 3) (ret := none) (by decide) rfl ?_
  intro p e s m args below meth c s₁ B hml hv
  obtain ⟨rfl, hsz, hP, hK, hD0, hN⟩ := hv
  have hx := B.exec
  have hb := B.bytes
  have hr := B.returns
  have hts := atoms_spec (ws := (wd y_S_copyFrom b_S_copyFrom 3 none)) B.pre
  have htb : ∀ w ∈ tb, w.before _ s = true := fun w h => hts w (List.mem_cons_of_mem _ h)
  have hown : s.vm.findClass R_S = some m.cls := findClass_of_methodNamed B.named
  have hlocks := B.notSynchronized
  subst hsz
  have hD := hD0.self (sz := s.heap.size)
  generalize hAe : va_A (wX ad cs σ) s.heap.size = A at hD ⊢
  have hA : ∀ q : Nat, s.heap.size ≤ q → A q := fun q h => by rw [← hAe]; exact Or.inr h
  have hS : va_S A s.heap s.heap [] := va_S.rf
  have hP : va_P (dC, dI) classes (wX ad cs σ) s.heap := hP
  have hl := lv_entry ([.ref (ad j 0), .ref (ad j2 0)]) (n := 3) (Nat.le_of_ble_eq_true rfl)
  rw [lg_entry_eq]
  generalize (lg_sl ([.ref (ad j 0), .ref (ad j2 0)]) ++ List.replicate (3 - (lg_sl ([.ref (ad j 0), .ref (ad j2 0)])).length) Slot.unset).toArray = ls at hl ⊢
  have hl : lv_has ls 3 [(0, .ref (ad j 0)), (1, .ref (ad j2 0))] := hl
  rw [m_S_copyFrom] at hM
  refine W_loop (pc := 18) (fun n18 H locs ls st => ∃ (σ : SX) (v2 : Int32), st = [] ∧ m_S_copyFrom_18 N j j2 n18 σ v2 = some σ0 ∧ lv_has ls 3 [(0, .ref (ad j 0)), (1, .ref (ad j2 0)), (2, .int v2)] ∧ va_P (dC, dI) classes (wX ad cs σ) H ∧ va_D A (wX ad cs σ) ∧ va_S A s.heap H locs) ?_ ?_ ?_
  · rintro H locs ls st ⟨σ, v2, -, hM, -⟩
    rw [m_S_copyFrom_18] at hM; cases hM
  · intro n18 K18 H locs ls st hI
    obtain ⟨σ, v2, rfl, hM, hl, hP, hD, hS⟩ := hI
    rw [m_S_copyFrom_18] at hM
    refine lv_iload_n hx hb d_S_copyFrom_18 rfl (lv_at hl 2 rfl) ?_
    refine lv_aload_n hx hb d_S_copyFrom_19 rfl (lv_at hl 0 rfl) ?_
    refine va_get (D := (dC, dI)) (ci := 2) (v := .int ((σ j).1 1)) (C := R_S) (T := F_S) (N := 5) hx hb htb in_S hown hK hP (3 * j + 1) (g_S hj) rfl 3 (by decide) (htb _ k_110) (fun _ h9 => h9) rfl d_S_copyFrom_20 ?_
    refine lv_icmp_ge (tgt := 56) hx hb d_S_copyFrom_23 (by decide) (fun h23 => ?_) (fun h23 => ?_)
    · rw [if_pos h23] at hM
      have e9 := Option.some.inj hM
      exact W.vret hx hb hr (fun t ht hW => ⟨⟨σ, rfl, e9, by rw [ht]; exact hP, va_K.moved hW.alike hK, hD⟩, hS.F ht⟩) hS.2.2 d_S_copyFrom_56
    · rw [if_neg h23] at hM
      refine lv_aload_n hx hb d_S_copyFrom_26 rfl (lv_at hl 0 rfl) ?_
      refine va_get (D := (dC, dI)) (ci := 2) (v := .ref (ad j 1)) (C := R_S) (T := F_S) (N := 5) hx hb htb in_S hown hK hP (3 * j + 1) (g_S hj) rfl 1 (by decide) (htb _ k_108) (fun _ h9 => h9) rfl d_S_copyFrom_27 ?_
      refine lv_iload_n hx hb d_S_copyFrom_30 rfl (lv_at hl 2 rfl) ?_
      refine lv_aload_n hx hb d_S_copyFrom_31 rfl (lv_at hl 1 rfl) ?_
      refine va_get (D := (dC, dI)) (ci := 2) (v := .ref (ad j2 1)) (C := R_S) (T := F_S) (N := 5) hx hb htb in_S hown hK hP (3 * j2 + 1) (g_S hj2) rfl 1 (by decide) (htb _ k_108) (fun _ h9 => h9) rfl d_S_copyFrom_32 ?_
      refine lv_iload_n hx hb d_S_copyFrom_35 rfl (lv_at hl 2 rfl) ?_
      have hg36 := gd_c hM
      have hM := gd_v hM
      refine va_iald hx hb hK hP (3 * j2 + 2) 0 (g_S_a1 hj2) rfl (inb_in hg36) d_S_copyFrom_36 ?_
      have hg37 := gd_c hM
      have hM := gd_v hM
      refine va_iast (i := v2) (x := ((σ j2).2 1 v2.toNatClampNeg)) hx hb hK hP hD hS (3 * j + 2) 0 (g_S_a1 hj) rfl (inb_in hg37) d_S_copyFrom_37 (fun H locs hP hD hS => ?_)
      have hP := P_eq (t_S_1 hj) hP
      have hD := D_eq (t_S_1 hj) hD
      refine lv_aload_n hx hb d_S_copyFrom_38 rfl (lv_at hl 0 rfl) ?_
      refine va_get (D := (dC, dI)) (ci := 2) (v := .ref (ad j 2)) (C := R_S) (T := F_S) (N := 5) hx hb htb in_S hown hK hP (3 * j + 1) (g_S hj) rfl 2 (by decide) (htb _ k_109) (fun _ h9 => h9) rfl d_S_copyFrom_39 ?_
      refine lv_iload_n hx hb d_S_copyFrom_42 rfl (lv_at hl 2 rfl) ?_
      refine lv_aload_n hx hb d_S_copyFrom_43 rfl (lv_at hl 1 rfl) ?_
      refine va_get (D := (dC, dI)) (ci := 2) (v := .ref (ad j2 2)) (C := R_S) (T := F_S) (N := 5) hx hb htb in_S hown hK hP (3 * j2 + 1) (g_S hj2) rfl 2 (by decide) (htb _ k_109) (fun _ h9 => h9) rfl d_S_copyFrom_44 ?_
      refine lv_iload_n hx hb d_S_copyFrom_47 rfl (lv_at hl 2 rfl) ?_
      have hg48 := gd_c hM
      have hM := gd_v hM
      refine va_zald hx hb hK hP (3 * j2 + 3) 1 (g_S_a2 hj2) rfl (inb_in hg48) d_S_copyFrom_48 ?_
      have hg49 := gd_c hM
      have hM := gd_v hM
      refine va_zast (i := v2) (x := (((w3 σ j 1 v2 ((σ j2).2 1 v2.toNatClampNeg)) j2).2 2 v2.toNatClampNeg)) hx hb hK hP hD hS (3 * j + 3) 1 (g_S_a2 hj) rfl (inb_in hg49) d_S_copyFrom_49 (fun H locs hP hD hS => ?_)
      have hP := P_eq (t_S_2 hj) hP
      have hD := D_eq (t_S_2 hj) hD
      refine lv_iinc (k := 2) (v := (v2 + 1)) hx hb d_S_copyFrom_50 hl rfl rfl (by decide) (lv' := [(2, .int (v2 + 1)), (0, .ref (ad j 0)), (1, .ref (ad j2 0))]) rfl (fun ls hl => ?_)
      refine lv_goto (tgt := 18) hx hb d_S_copyFrom_53 (by decide) ?_
      exact K18 _ _ _ _ ⟨(w3 (w3 σ j 1 v2 ((σ j2).2 1 v2.toNatClampNeg)) j 2 v2 (vp_nar .boolean (((w3 σ j 1 v2 ((σ j2).2 1 v2.toNatClampNeg)) j2).2 2 v2.toNatClampNeg))), (v2 + 1), rfl, hM, lv_sub hl [1, 2, 0] rfl, hP, hD, hS⟩
  intro K18
  refine lv_aload_n hx hb d_S_copyFrom_0 rfl (lv_at hl 0 rfl) ?_
  refine lv_aload_n hx hb d_S_copyFrom_1 rfl (lv_at hl 1 rfl) ?_
  refine va_get (D := (dC, dI)) (ci := 2) (v := .int ((σ j2).1 1)) (C := R_S) (T := F_S) (N := 5) hx hb htb in_S hown hK hP (3 * j2 + 1) (g_S hj2) rfl 3 (by decide) (htb _ k_110) (fun _ h9 => h9) rfl d_S_copyFrom_2 ?_
  refine va_put (D := (dC, dI)) (ci := 2) (v := .int ((σ j2).1 1)) (ty := .int) (C := R_S) (T := F_S) (N := 5) hx hb htb in_S ft_S ft_S_ok n_S hown hK hP hD hS (3 * j + 1) (g_S hj) rfl 3 (by decide) (htb _ k_110) (fun _ h9 => h9) rfl (by decide +kernel) rfl rfl (Nat.le_of_ble_eq_true rfl) d_S_copyFrom_5 (fun H locs hP hD hS => ?_)
  have hP := P_eq (s_S_1 hj) hP
  have hD := D_eq (s_S_1 hj) hD
  refine lv_aload_n hx hb d_S_copyFrom_8 rfl (lv_at hl 0 rfl) ?_
  refine lv_aload_n hx hb d_S_copyFrom_9 rfl (lv_at hl 1 rfl) ?_
  refine va_get (D := (dC, dI)) (ci := 2) (v := .int (((w1 σ j 1 ((σ j2).1 1)) j2).1 2)) (C := R_S) (T := F_S) (N := 5) hx hb htb in_S hown hK hP (3 * j2 + 1) (g_S hj2) rfl 4 (by decide) (htb _ k_111) (fun _ h9 => h9) rfl d_S_copyFrom_10 ?_
  refine va_put (D := (dC, dI)) (ci := 2) (v := .int (((w1 σ j 1 ((σ j2).1 1)) j2).1 2)) (ty := .int) (C := R_S) (T := F_S) (N := 5) hx hb htb in_S ft_S ft_S_ok n_S hown hK hP hD hS (3 * j + 1) (g_S hj) rfl 4 (by decide) (htb _ k_111) (fun _ h9 => h9) rfl (by decide +kernel) rfl rfl (Nat.le_of_ble_eq_true rfl) d_S_copyFrom_13 (fun H locs hP hD hS => ?_)
  have hP := P_eq (s_S_2 hj) hP
  have hD := D_eq (s_S_2 hj) hD
  refine lv_iconst (v := 0) hx hb d_S_copyFrom_16 (by decide) ?_
  refine lv_istore_n hx hb d_S_copyFrom_17 rfl hl (by decide) (lv' := [(2, .int 0), (0, .ref (ad j 0)), (1, .ref (ad j2 0))]) rfl (fun ls hl => ?_)
  exact K18 N _ _ _ _ ⟨(w1 (w1 σ j 1 ((σ j2).1 1)) j 2 (((w1 σ j 1 ((σ j2).1 1)) j2).1 2)), 0, rfl, hM, lv_sub hl [1, 2, 0] rfl, hP, hD, hS⟩

theorem d_S_slotOfFirst_0 : decode b_S_slotOfFirst 0 = .ok (.iconst (-1), 1) := by decide +kernel
theorem d_S_slotOfFirst_1 : decode b_S_slotOfFirst 1 = .ok (.istore_n 2, 1) := by decide +kernel
theorem d_S_slotOfFirst_2 : decode b_S_slotOfFirst 2 = .ok (.iconst 0, 1) := by decide +kernel
theorem d_S_slotOfFirst_3 : decode b_S_slotOfFirst 3 = .ok (.istore_n 3, 1) := by decide +kernel
theorem d_S_slotOfFirst_4 : decode b_S_slotOfFirst 4 = .ok (.iload_n 3, 1) := by decide +kernel
theorem d_S_slotOfFirst_5 : decode b_S_slotOfFirst 5 = .ok (.aload_n 0, 1) := by decide +kernel
theorem d_S_slotOfFirst_6 : decode b_S_slotOfFirst 6 = .ok (.getfield 19, 3) := by decide +kernel
theorem d_S_slotOfFirst_9 : decode b_S_slotOfFirst 9 = .ok (.if_icmp .ge 44, 3) := by decide +kernel
theorem d_S_slotOfFirst_12 : decode b_S_slotOfFirst 12 = .ok (.aload_n 0, 1) := by decide +kernel
theorem d_S_slotOfFirst_13 : decode b_S_slotOfFirst 13 = .ok (.getfield 15, 3) := by decide +kernel
theorem d_S_slotOfFirst_16 : decode b_S_slotOfFirst 16 = .ok (.iload_n 3, 1) := by decide +kernel
theorem d_S_slotOfFirst_17 : decode b_S_slotOfFirst 17 = .ok (.baload, 1) := by decide +kernel
theorem d_S_slotOfFirst_18 : decode b_S_slotOfFirst 18 = .ok (.ifCond .ne 29, 3) := by decide +kernel
theorem d_S_slotOfFirst_21 : decode b_S_slotOfFirst 21 = .ok (.iload_n 2, 1) := by decide +kernel
theorem d_S_slotOfFirst_22 : decode b_S_slotOfFirst 22 = .ok (.iconst (-1), 1) := by decide +kernel
theorem d_S_slotOfFirst_23 : decode b_S_slotOfFirst 23 = .ok (.if_icmp .eq 22, 3) := by decide +kernel
theorem d_S_slotOfFirst_26 : decode b_S_slotOfFirst 26 = .ok (.aload_n 1, 1) := by decide +kernel
theorem d_S_slotOfFirst_27 : decode b_S_slotOfFirst 27 = .ok (.aload_n 0, 1) := by decide +kernel
theorem d_S_slotOfFirst_28 : decode b_S_slotOfFirst 28 = .ok (.getfield 9, 3) := by decide +kernel
theorem d_S_slotOfFirst_31 : decode b_S_slotOfFirst 31 = .ok (.iload_n 3, 1) := by decide +kernel
theorem d_S_slotOfFirst_32 : decode b_S_slotOfFirst 32 = .ok (.iaload, 1) := by decide +kernel
theorem d_S_slotOfFirst_33 : decode b_S_slotOfFirst 33 = .ok (.aload_n 0, 1) := by decide +kernel
theorem d_S_slotOfFirst_34 : decode b_S_slotOfFirst 34 = .ok (.getfield 9, 3) := by decide +kernel
theorem d_S_slotOfFirst_37 : decode b_S_slotOfFirst 37 = .ok (.iload_n 2, 1) := by decide +kernel
theorem d_S_slotOfFirst_38 : decode b_S_slotOfFirst 38 = .ok (.iaload, 1) := by decide +kernel
theorem d_S_slotOfFirst_39 : decode b_S_slotOfFirst 39 = .ok (.invokevirtual 41, 3) := by decide +kernel
theorem d_S_slotOfFirst_42 : decode b_S_slotOfFirst 42 = .ok (.ifCond .eq 5, 3) := by decide +kernel
theorem d_S_slotOfFirst_45 : decode b_S_slotOfFirst 45 = .ok (.iload_n 3, 1) := by decide +kernel
theorem d_S_slotOfFirst_46 : decode b_S_slotOfFirst 46 = .ok (.istore_n 2, 1) := by decide +kernel
theorem d_S_slotOfFirst_47 : decode b_S_slotOfFirst 47 = .ok (.iinc 3 1, 3) := by decide +kernel
theorem d_S_slotOfFirst_50 : decode b_S_slotOfFirst 50 = .ok (.goto (-46), 3) := by decide +kernel
theorem d_S_slotOfFirst_53 : decode b_S_slotOfFirst 53 = .ok (.iload_n 2, 1) := by decide +kernel
theorem d_S_slotOfFirst_54 : decode b_S_slotOfFirst 54 = .ok (.ireturn, 1) := by decide +kernel
def m_S_slotOfFirst_4 (N : Nat) (j : Nat) : Nat → SX → Int32 → Int32 → Option (Int32 × SX)
  | 0, _, _, _ => none
  | n4 + 1, σ, v2, v3 =>
    (if ((σ j).1 1) ≤ v3 then some (v2, σ) else (if inb v3 8 = true then (if ((σ j).2 2 v3.toNatClampNeg) = 0 then (if v2 = (-1) then m_S_slotOfFirst_4 N j n4 σ v3 (v3 + 1) else (if inb v3 8 = true then (if inb v2 8 = true then (bI (m_D_comesBefore N σ ((σ j).2 1 v3.toNatClampNeg) ((σ j).2 1 v2.toNatClampNeg)) fun r39 σ39 => (if r39 = 0 then m_S_slotOfFirst_4 N j n4 σ v2 (v3 + 1) else m_S_slotOfFirst_4 N j n4 σ v3 (v3 + 1))) else none) else none)) else m_S_slotOfFirst_4 N j n4 σ v2 (v3 + 1)) else none))

def m_S_slotOfFirst (N : Nat) (σ : SX) (j : Nat) : Option (Int32 × SX) :=
  m_S_slotOfFirst_4 N j N σ (-1) 0

set_option maxHeartbeats 4000000 in
set_option maxRecDepth 100000 in
theorem c_S_slotOfFirst (l : Launch) (dC : Nat → ClassId) (dI : Nat → Nat → Nat) (ad : Nat → Nat → Nat) (cs : Nat → ClassId) (sz N : Nat) (σ : SX) (j : Nat) (hj : j = 2 ∨ j = 3) {r0 : Int32} {σ0 : SX} (hM : m_S_slotOfFirst N σ j = some (r0, σ0)) : Met l y_S_slotOfFirst (wd y_S_slotOfFirst b_S_slotOfFirst 4 (some .int)) ({ frames := 3, cells := 0, slots := 0, locals := 70 }) (va_Pc [.ref (ad j 0), .ref (ad 1 0)] (preX dC dI ad cs sz σ)) (va_Qi (fun (r : Int32) (_ : Unit) => r = r0 ∧ σ = σ0) (fun _ _ => True) (fun q => sz ≤ q)) 0 0 (fun q => sz ≤ q) := by
  refine Met.ofW (cc := b_S_slotOfFirst) (maxL := 4) (ret := (some .int)) (by decide) rfl ?_
  intro p e s m args below meth c s₁ B hml hv
  obtain ⟨rfl, hsz, hP, hK, hD0, hN⟩ := hv
  have hx := B.exec
  have hb := B.bytes
  have hr := B.returns
  have hts := atoms_spec (ws := (wd y_S_slotOfFirst b_S_slotOfFirst 4 (some .int))) B.pre
  have htb : ∀ w ∈ tb, w.before _ s = true := fun w h => hts w (List.mem_cons_of_mem _ h)
  have hown : s.vm.findClass R_S = some m.cls := findClass_of_methodNamed B.named
  have hlocks := B.notSynchronized
  subst hsz
  have hD := hD0
  have hA : ∀ q : Nat, s.heap.size ≤ q → s.heap.size ≤ q := fun q h => h
  have hS : va_S (fun q => s.heap.size ≤ q) s.heap s.heap [] := va_S.rf
  have hP : va_P (dC, dI) classes (wX ad cs σ) s.heap := hP
  have hl := lv_entry ([.ref (ad j 0), .ref (ad 1 0)]) (n := 4) (Nat.le_of_ble_eq_true rfl)
  rw [lg_entry_eq]
  generalize (lg_sl ([.ref (ad j 0), .ref (ad 1 0)]) ++ List.replicate (4 - (lg_sl ([.ref (ad j 0), .ref (ad 1 0)])).length) Slot.unset).toArray = ls at hl ⊢
  have hl : lv_has ls 4 [(0, .ref (ad j 0)), (1, .ref (ad 1 0))] := hl
  rw [m_S_slotOfFirst] at hM
  refine W_loop (pc := 4) (fun n4 H locs ls st => ∃ (v2 : Int32) (v3 : Int32), st = [] ∧ m_S_slotOfFirst_4 N j n4 σ v2 v3 = some (r0, σ0) ∧ lv_has ls 4 [(0, .ref (ad j 0)), (1, .ref (ad 1 0)), (2, .int v2), (3, .int v3)] ∧ va_P (dC, dI) classes (wX ad cs σ) H ∧ va_D (fun _ => True) (wX ad cs σ) ∧ va_S (fun q => s.heap.size ≤ q) s.heap H locs) ?_ ?_ ?_
  · rintro H locs ls st ⟨v2, v3, -, hM, -⟩
    rw [m_S_slotOfFirst_4] at hM; cases hM
  · intro n4 K4 H locs ls st hI
    obtain ⟨v2, v3, rfl, hM, hl, hP, hD, hS⟩ := hI
    rw [m_S_slotOfFirst_4] at hM
    refine lv_iload_n hx hb d_S_slotOfFirst_4 rfl (lv_at hl 3 rfl) ?_
    refine lv_aload_n hx hb d_S_slotOfFirst_5 rfl (lv_at hl 0 rfl) ?_
    refine va_get (D := (dC, dI)) (ci := 2) (v := .int ((σ j).1 1)) (C := R_S) (T := F_S) (N := 5) hx hb htb in_S hown hK hP (3 * j + 1) (g_S hj) rfl 3 (by decide) (htb _ k_110) (fun _ h9 => h9) rfl d_S_slotOfFirst_6 ?_
    refine lv_icmp_ge (tgt := 53) hx hb d_S_slotOfFirst_9 (by decide) (fun h9 => ?_) (fun h9 => ?_)
    · rw [if_pos h9] at hM
      refine lv_iload_n hx hb d_S_slotOfFirst_53 rfl (lv_at hl 2 rfl) ?_
      have e9 := Prod.mk.inj (Option.some.inj hM)
      exact W.iret (v := v2) hx hb hr (fun t ht hW => ⟨⟨v2, (), rfl, e9, trivial⟩, hS.F ht⟩) hS.2.2 d_S_slotOfFirst_54
    · rw [if_neg h9] at hM
      refine lv_aload_n hx hb d_S_slotOfFirst_12 rfl (lv_at hl 0 rfl) ?_
      refine va_get (D := (dC, dI)) (ci := 2) (v := .ref (ad j 2)) (C := R_S) (T := F_S) (N := 5) hx hb htb in_S hown hK hP (3 * j + 1) (g_S hj) rfl 2 (by decide) (htb _ k_109) (fun _ h9 => h9) rfl d_S_slotOfFirst_13 ?_
      refine lv_iload_n hx hb d_S_slotOfFirst_16 rfl (lv_at hl 3 rfl) ?_
      have hg17 := gd_c hM
      have hM := gd_v hM
      refine va_zald hx hb hK hP (3 * j + 3) 1 (g_S_a2 hj) rfl (inb_in hg17) d_S_slotOfFirst_17 ?_
      refine lv_if_ne (tgt := 47) hx hb d_S_slotOfFirst_18 (by decide) (fun h18 => ?_) (fun h18 => ?_)
      · rw [if_neg h18] at hM
        refine lv_iinc (k := 3) (v := (v3 + 1)) hx hb d_S_slotOfFirst_47 hl rfl rfl (by decide) (lv' := [(3, .int (v3 + 1)), (0, .ref (ad j 0)), (1, .ref (ad 1 0)), (2, .int v2)]) rfl (fun ls hl => ?_)
        refine lv_goto (tgt := 4) hx hb d_S_slotOfFirst_50 (by decide) ?_
        exact K4 _ _ _ _ ⟨v2, (v3 + 1), rfl, hM, lv_sub hl [1, 2, 3, 0] rfl, hP, hD, hS⟩
      · rw [if_pos h18] at hM
        refine lv_iload_n hx hb d_S_slotOfFirst_21 rfl (lv_at hl 2 rfl) ?_
        refine lv_iconst (v := (-1)) hx hb d_S_slotOfFirst_22 (by decide) ?_
        refine lv_icmp_eq (tgt := 45) hx hb d_S_slotOfFirst_23 (by decide) (fun h23 => ?_) (fun h23 => ?_)
        · rw [if_pos h23] at hM
          refine lv_iload_n hx hb d_S_slotOfFirst_45 rfl (lv_at hl 3 rfl) ?_
          refine lv_istore_n hx hb d_S_slotOfFirst_46 rfl hl (by decide) (lv' := [(2, .int v3), (0, .ref (ad j 0)), (1, .ref (ad 1 0)), (3, .int v3)]) rfl (fun ls hl => ?_)
          refine lv_iinc (k := 3) (v := (v3 + 1)) hx hb d_S_slotOfFirst_47 hl rfl rfl (by decide) (lv' := [(3, .int (v3 + 1)), (2, .int v3), (0, .ref (ad j 0)), (1, .ref (ad 1 0))]) rfl (fun ls hl => ?_)
          refine lv_goto (tgt := 4) hx hb d_S_slotOfFirst_50 (by decide) ?_
          exact K4 _ _ _ _ ⟨v3, (v3 + 1), rfl, hM, lv_sub hl [2, 3, 1, 0] rfl, hP, hD, hS⟩
        · rw [if_neg h23] at hM
          refine lv_aload_n hx hb d_S_slotOfFirst_26 rfl (lv_at hl 1 rfl) ?_
          refine lv_aload_n hx hb d_S_slotOfFirst_27 rfl (lv_at hl 0 rfl) ?_
          refine va_get (D := (dC, dI)) (ci := 2) (v := .ref (ad j 1)) (C := R_S) (T := F_S) (N := 5) hx hb htb in_S hown hK hP (3 * j + 1) (g_S hj) rfl 1 (by decide) (htb _ k_108) (fun _ h9 => h9) rfl d_S_slotOfFirst_28 ?_
          refine lv_iload_n hx hb d_S_slotOfFirst_31 rfl (lv_at hl 3 rfl) ?_
          have hg32 := gd_c hM
          have hM := gd_v hM
          refine va_iald hx hb hK hP (3 * j + 2) 0 (g_S_a1 hj) rfl (inb_in hg32) d_S_slotOfFirst_32 ?_
          refine lv_aload_n hx hb d_S_slotOfFirst_33 rfl (lv_at hl 0 rfl) ?_
          refine va_get (D := (dC, dI)) (ci := 2) (v := .ref (ad j 1)) (C := R_S) (T := F_S) (N := 5) hx hb htb in_S hown hK hP (3 * j + 1) (g_S hj) rfl 1 (by decide) (htb _ k_108) (fun _ h9 => h9) rfl d_S_slotOfFirst_34 ?_
          refine lv_iload_n hx hb d_S_slotOfFirst_37 rfl (lv_at hl 2 rfl) ?_
          have hg38 := gd_c hM
          have hM := gd_v hM
          refine va_iald hx hb hK hP (3 * j + 2) 0 (g_S_a1 hj) rfl (inb_in hg38) d_S_slotOfFirst_38 ?_
          obtain ⟨x39, y39, hq39, hM⟩ := bI_some hM
          refine va_calli (va_runV (As := [.int ((σ j).2 1 v3.toNatClampNeg), .int ((σ j).2 1 v2.toNatClampNeg)]) (rest := []) ⟨hx, hb, hml, hown, hts⟩ (c_D_comesBefore l dC dI ad cs _ N σ ((σ j).2 1 v3.toNatClampNeg) ((σ j).2 1 v2.toNatClampNeg) hq39) (cwV 2 hts (goodV k_507 k_318 k_319 k_2 k_320) rfl rfl rfl ⟨rfl, by decide, by decide, by decide +kernel⟩ ⟨Nat.le_of_ble_eq_true rfl, Nat.le_of_ble_eq_true rfl⟩) ⟨blindX, va_recv hK hP rfl (g_D), payX hP hK hD hN⟩ rfl rfl hl.1 rfl (lv_room (Nat.le_of_ble_eq_true rfl)) d_S_slotOfFirst_39 ⟨Nat.zero_le _, Nat.zero_le _⟩) hS (fun q h0 h => absurd h0 (Nat.not_lt.mpr h)) (fun q h => hA q (Nat.le_trans hS.1 h)) (fun r39 u t H locs ht hvm hpost hB hz1 hk1 hS => ?_)
          obtain ⟨e1, e2⟩ := hpost
          subst e1
          subst e2
          have hP := keepP hP hk1
          refine lv_if_eq (tgt := 47) hx hb d_S_slotOfFirst_42 (by decide) (fun h42 => ?_) (fun h42 => ?_)
          · rw [if_pos h42] at hM
            refine lv_iinc (k := 3) (v := (v3 + 1)) hx hb d_S_slotOfFirst_47 hl rfl rfl (by decide) (lv' := [(3, .int (v3 + 1)), (0, .ref (ad j 0)), (1, .ref (ad 1 0)), (2, .int v2)]) rfl (fun ls hl => ?_)
            refine lv_goto (tgt := 4) hx hb d_S_slotOfFirst_50 (by decide) ?_
            exact K4 _ _ _ _ ⟨v2, (v3 + 1), rfl, hM, lv_sub hl [1, 2, 3, 0] rfl, hP, hD, hS⟩
          · rw [if_neg h42] at hM
            refine lv_iload_n hx hb d_S_slotOfFirst_45 rfl (lv_at hl 3 rfl) ?_
            refine lv_istore_n hx hb d_S_slotOfFirst_46 rfl hl (by decide) (lv' := [(2, .int v3), (0, .ref (ad j 0)), (1, .ref (ad 1 0)), (3, .int v3)]) rfl (fun ls hl => ?_)
            refine lv_iinc (k := 3) (v := (v3 + 1)) hx hb d_S_slotOfFirst_47 hl rfl rfl (by decide) (lv' := [(3, .int (v3 + 1)), (2, .int v3), (0, .ref (ad j 0)), (1, .ref (ad 1 0))]) rfl (fun ls hl => ?_)
            refine lv_goto (tgt := 4) hx hb d_S_slotOfFirst_50 (by decide) ?_
            exact K4 _ _ _ _ ⟨v3, (v3 + 1), rfl, hM, lv_sub hl [2, 3, 1, 0] rfl, hP, hD, hS⟩
  intro K4
  refine lv_iconst (v := (-1)) hx hb d_S_slotOfFirst_0 (by decide) ?_
  refine lv_istore_n hx hb d_S_slotOfFirst_1 rfl hl (by decide) (lv' := [(2, .int (-1)), (0, .ref (ad j 0)), (1, .ref (ad 1 0))]) rfl (fun ls hl => ?_)
  refine lv_iconst (v := 0) hx hb d_S_slotOfFirst_2 (by decide) ?_
  refine lv_istore_n hx hb d_S_slotOfFirst_3 rfl hl (by decide) (lv' := [(3, .int 0), (2, .int (-1)), (0, .ref (ad j 0)), (1, .ref (ad 1 0))]) rfl (fun ls hl => ?_)
  exact K4 N _ _ _ _ ⟨(-1), 0, rfl, hM, lv_sub hl [2, 3, 1, 0] rfl, hP, hD, hS⟩

theorem d_V_writeCard_0 : decode b_V_writeCard 0 = .ok (.aload_n 0, 1) := by decide +kernel
theorem d_V_writeCard_1 : decode b_V_writeCard 1 = .ok (.getfield 17, 3) := by decide +kernel
theorem d_V_writeCard_4 : decode b_V_writeCard 4 = .ok (.ifCond .eq 22, 3) := by decide +kernel
theorem d_V_writeCard_7 : decode b_V_writeCard 7 = .ok (.aload_n 0, 1) := by decide +kernel
theorem d_V_writeCard_8 : decode b_V_writeCard 8 = .ok (.getfield 20, 3) := by decide +kernel
theorem d_V_writeCard_11 : decode b_V_writeCard 11 = .ok (.ifCond .ne 15, 3) := by decide +kernel
theorem d_V_writeCard_14 : decode b_V_writeCard 14 = .ok (.aload_n 0, 1) := by decide +kernel
theorem d_V_writeCard_15 : decode b_V_writeCard 15 = .ok (.iconst 0, 1) := by decide +kernel
theorem d_V_writeCard_16 : decode b_V_writeCard 16 = .ok (.putfield 17, 3) := by decide +kernel
theorem d_V_writeCard_19 : decode b_V_writeCard 19 = .ok (.aload_n 0, 1) := by decide +kernel
theorem d_V_writeCard_20 : decode b_V_writeCard 20 = .ok (.iconst 0, 1) := by decide +kernel
theorem d_V_writeCard_21 : decode b_V_writeCard 21 = .ok (.putfield 13, 3) := by decide +kernel
theorem d_V_writeCard_24 : decode b_V_writeCard 24 = .ok (.iconst 0, 1) := by decide +kernel
theorem d_V_writeCard_25 : decode b_V_writeCard 25 = .ok (.ireturn, 1) := by decide +kernel
theorem d_V_writeCard_26 : decode b_V_writeCard 26 = .ok (.aload_n 0, 1) := by decide +kernel
theorem d_V_writeCard_27 : decode b_V_writeCard 27 = .ok (.getfield 17, 3) := by decide +kernel
theorem d_V_writeCard_30 : decode b_V_writeCard 30 = .ok (.ifCond .eq 13, 3) := by decide +kernel
theorem d_V_writeCard_33 : decode b_V_writeCard 33 = .ok (.aload_n 0, 1) := by decide +kernel
theorem d_V_writeCard_34 : decode b_V_writeCard 34 = .ok (.dup, 1) := by decide +kernel
theorem d_V_writeCard_35 : decode b_V_writeCard 35 = .ok (.getfield 20, 3) := by decide +kernel
theorem d_V_writeCard_38 : decode b_V_writeCard 38 = .ok (.iconst 1, 1) := by decide +kernel
theorem d_V_writeCard_39 : decode b_V_writeCard 39 = .ok (.isub, 1) := by decide +kernel
theorem d_V_writeCard_40 : decode b_V_writeCard 40 = .ok (.putfield 20, 3) := by decide +kernel
theorem d_V_writeCard_43 : decode b_V_writeCard 43 = .ok (.aload_n 0, 1) := by decide +kernel
theorem d_V_writeCard_44 : decode b_V_writeCard 44 = .ok (.dup, 1) := by decide +kernel
theorem d_V_writeCard_45 : decode b_V_writeCard 45 = .ok (.getfield 7, 3) := by decide +kernel
theorem d_V_writeCard_48 : decode b_V_writeCard 48 = .ok (.iconst 1, 1) := by decide +kernel
theorem d_V_writeCard_49 : decode b_V_writeCard 49 = .ok (.iadd, 1) := by decide +kernel
theorem d_V_writeCard_50 : decode b_V_writeCard 50 = .ok (.putfield 7, 3) := by decide +kernel
theorem d_V_writeCard_53 : decode b_V_writeCard 53 = .ok (.iconst 1, 1) := by decide +kernel
theorem d_V_writeCard_54 : decode b_V_writeCard 54 = .ok (.ireturn, 1) := by decide +kernel
def m_V_writeCard_43 (N : Nat) (σ : SX) : Option (Int32 × SX) :=
    some (1, (w1 σ 5 0 (((σ 5).1 0) + 1)))

def m_V_writeCard_26 (N : Nat) (σ : SX) : Option (Int32 × SX) :=
    (if ((σ 5).1 2) = 0 then m_V_writeCard_43 N σ else m_V_writeCard_43 N (w1 σ 5 3 (((σ 5).1 3) - 1)))

def m_V_writeCard (N : Nat) (σ : SX) : Option (Int32 × SX) :=
  (if ((σ 5).1 2) = 0 then m_V_writeCard_26 N σ else (if ((σ 5).1 3) = 0 then some (0, (w1 (w1 σ 5 2 0) 5 1 0)) else m_V_writeCard_26 N σ))

set_option maxHeartbeats 4000000 in
set_option maxRecDepth 100000 in
theorem c_V_writeCard (l : Launch) (dC : Nat → ClassId) (dI : Nat → Nat → Nat) (ad : Nat → Nat → Nat) (cs : Nat → ClassId) (sz N : Nat) (σ : SX) {r0 : Int32} {σ0 : SX} (hM : m_V_writeCard N σ = some (r0, σ0)) : Met l y_V_writeCard (wd y_V_writeCard b_V_writeCard 1 (some .boolean)) ({ frames := 0, cells := 0, slots := 0, locals := 0 }) (va_Pc [.ref (ad 5 0)] (preX dC dI ad cs sz σ)) (va_Qi (fun (r : Int32) (u : SX) => r = r0 ∧ u = σ0) (atX dC dI ad cs (va_A (wX ad cs σ) sz)) (va_A (wX ad cs σ) sz)) 0 0 (va_A (wX ad cs σ) sz) := by
  refine Met.ofW (cc := b_V_writeCard) (maxL := 1) (ret := (some .boolean)) (by decide) rfl ?_
  intro p e s m args below meth c s₁ B hml hv
  obtain ⟨rfl, hsz, hP, hK, hD0, hN⟩ := hv
  have hx := B.exec
  have hb := B.bytes
  have hr := B.returns
  have hts := atoms_spec (ws := (wd y_V_writeCard b_V_writeCard 1 (some .boolean))) B.pre
  have htb : ∀ w ∈ tb, w.before _ s = true := fun w h => hts w (List.mem_cons_of_mem _ h)
  have hown : s.vm.findClass R_V = some m.cls := findClass_of_methodNamed B.named
  have hlocks := B.notSynchronized
  subst hsz
  have hD := hD0.self (sz := s.heap.size)
  generalize hAe : va_A (wX ad cs σ) s.heap.size = A at hD ⊢
  have hA : ∀ q : Nat, s.heap.size ≤ q → A q := fun q h => by rw [← hAe]; exact Or.inr h
  have hS : va_S A s.heap s.heap [] := va_S.rf
  have hP : va_P (dC, dI) classes (wX ad cs σ) s.heap := hP
  have hl := lv_entry ([.ref (ad 5 0)]) (n := 1) (Nat.le_of_ble_eq_true rfl)
  rw [lg_entry_eq]
  generalize (lg_sl ([.ref (ad 5 0)]) ++ List.replicate (1 - (lg_sl ([.ref (ad 5 0)])).length) Slot.unset).toArray = ls at hl ⊢
  have hl : lv_has ls 1 [(0, .ref (ad 5 0))] := hl
  rw [m_V_writeCard] at hM
  refine W_cut (pc := 43) (fun H locs ls st => ∃ (σ : SX), st = [] ∧ m_V_writeCard_43 N σ = some (r0, σ0) ∧ lv_has ls 1 [(0, .ref (ad 5 0))] ∧ va_P (dC, dI) classes (wX ad cs σ) H ∧ va_D A (wX ad cs σ) ∧ va_S A s.heap H locs) ?_ ?_
  · intro H locs ls st hI
    obtain ⟨σ, rfl, hM, hl, hP, hD, hS⟩ := hI
    rw [m_V_writeCard_43] at hM
    refine lv_aload_n hx hb d_V_writeCard_43 rfl (lv_at hl 0 rfl) ?_
    refine lv_dup hx hb d_V_writeCard_44 rfl ?_
    refine va_get (D := (dC, dI)) (ci := 4) (v := .int ((σ 5).1 0)) (C := R_V) (T := F_V) (N := 4) hx hb htb in_V hown hK hP 15 (g_V) rfl 0 (by decide) (htb _ k_71) (fun _ h9 => h9) rfl d_V_writeCard_45 ?_
    refine lv_iconst (v := 1) hx hb d_V_writeCard_48 (by decide) ?_
    refine lv_iadd hx hb d_V_writeCard_49 ?_
    refine va_put (D := (dC, dI)) (ci := 4) (v := .int (((σ 5).1 0) + 1)) (ty := .int) (C := R_V) (T := F_V) (N := 4) hx hb htb in_V ft_V ft_V_ok n_V hown hK hP hD hS 15 (g_V) rfl 0 (by decide) (htb _ k_71) (fun _ h9 => h9) rfl (by decide +kernel) rfl rfl (Nat.le_of_ble_eq_true rfl) d_V_writeCard_50 (fun H locs hP hD hS => ?_)
    have hP := P_eq (s_V_0) hP
    have hD := D_eq (s_V_0) hD
    refine lv_iconst (v := 1) hx hb d_V_writeCard_53 (by decide) ?_
    have e9 := Prod.mk.inj (Option.some.inj hM)
    exact W.zret (ty := .boolean) (v := 1) hx hb hr rfl (fun t ht hW => ⟨⟨1, (w1 σ 5 0 (((σ 5).1 0) + 1)), rfl, e9, by rw [ht]; exact hP, va_K.moved hW.alike hK, hD⟩, hS.F ht⟩) hS.2.2 d_V_writeCard_54
  intro K43
  refine W_cut (pc := 26) (fun H locs ls st => ∃ (σ : SX), st = [] ∧ m_V_writeCard_26 N σ = some (r0, σ0) ∧ lv_has ls 1 [(0, .ref (ad 5 0))] ∧ va_P (dC, dI) classes (wX ad cs σ) H ∧ va_D A (wX ad cs σ) ∧ va_S A s.heap H locs) ?_ ?_
  · intro H locs ls st hI
    obtain ⟨σ, rfl, hM, hl, hP, hD, hS⟩ := hI
    rw [m_V_writeCard_26] at hM
    refine lv_aload_n hx hb d_V_writeCard_26 rfl (lv_at hl 0 rfl) ?_
    refine va_get (D := (dC, dI)) (ci := 4) (v := .int ((σ 5).1 2)) (C := R_V) (T := F_V) (N := 4) hx hb htb in_V hown hK hP 15 (g_V) rfl 2 (by decide) (htb _ k_73) (fun _ h9 => h9) rfl d_V_writeCard_27 ?_
    refine lv_if_eq (tgt := 43) hx hb d_V_writeCard_30 (by decide) (fun h30 => ?_) (fun h30 => ?_)
    · rw [if_pos h30] at hM
      exact K43 _ _ _ _ ⟨σ, rfl, hM, lv_sub hl [0] rfl, hP, hD, hS⟩
    · rw [if_neg h30] at hM
      refine lv_aload_n hx hb d_V_writeCard_33 rfl (lv_at hl 0 rfl) ?_
      refine lv_dup hx hb d_V_writeCard_34 rfl ?_
      refine va_get (D := (dC, dI)) (ci := 4) (v := .int ((σ 5).1 3)) (C := R_V) (T := F_V) (N := 4) hx hb htb in_V hown hK hP 15 (g_V) rfl 3 (by decide) (htb _ k_74) (fun _ h9 => h9) rfl d_V_writeCard_35 ?_
      refine lv_iconst (v := 1) hx hb d_V_writeCard_38 (by decide) ?_
      refine lv_isub hx hb d_V_writeCard_39 ?_
      refine va_put (D := (dC, dI)) (ci := 4) (v := .int (((σ 5).1 3) - 1)) (ty := .int) (C := R_V) (T := F_V) (N := 4) hx hb htb in_V ft_V ft_V_ok n_V hown hK hP hD hS 15 (g_V) rfl 3 (by decide) (htb _ k_74) (fun _ h9 => h9) rfl (by decide +kernel) rfl rfl (Nat.le_of_ble_eq_true rfl) d_V_writeCard_40 (fun H locs hP hD hS => ?_)
      have hP := P_eq (s_V_3) hP
      have hD := D_eq (s_V_3) hD
      exact K43 _ _ _ _ ⟨(w1 σ 5 3 (((σ 5).1 3) - 1)), rfl, hM, lv_sub hl [0] rfl, hP, hD, hS⟩
  intro K26
  refine lv_aload_n hx hb d_V_writeCard_0 rfl (lv_at hl 0 rfl) ?_
  refine va_get (D := (dC, dI)) (ci := 4) (v := .int ((σ 5).1 2)) (C := R_V) (T := F_V) (N := 4) hx hb htb in_V hown hK hP 15 (g_V) rfl 2 (by decide) (htb _ k_73) (fun _ h9 => h9) rfl d_V_writeCard_1 ?_
  refine lv_if_eq (tgt := 26) hx hb d_V_writeCard_4 (by decide) (fun h4 => ?_) (fun h4 => ?_)
  · rw [if_pos h4] at hM
    exact K26 _ _ _ _ ⟨σ, rfl, hM, lv_sub hl [0] rfl, hP, hD, hS⟩
  · rw [if_neg h4] at hM
    refine lv_aload_n hx hb d_V_writeCard_7 rfl (lv_at hl 0 rfl) ?_
    refine va_get (D := (dC, dI)) (ci := 4) (v := .int ((σ 5).1 3)) (C := R_V) (T := F_V) (N := 4) hx hb htb in_V hown hK hP 15 (g_V) rfl 3 (by decide) (htb _ k_74) (fun _ h9 => h9) rfl d_V_writeCard_8 ?_
    refine lv_if_ne (tgt := 26) hx hb d_V_writeCard_11 (by decide) (fun h11 => ?_) (fun h11 => ?_)
    · rw [if_neg h11] at hM
      exact K26 _ _ _ _ ⟨σ, rfl, hM, lv_sub hl [0] rfl, hP, hD, hS⟩
    · rw [if_pos h11] at hM
      refine lv_aload_n hx hb d_V_writeCard_14 rfl (lv_at hl 0 rfl) ?_
      refine lv_iconst (v := 0) hx hb d_V_writeCard_15 (by decide) ?_
      refine va_put (D := (dC, dI)) (ci := 4) (v := .int 0) (ty := .boolean) (C := R_V) (T := F_V) (N := 4) hx hb htb in_V ft_V ft_V_ok n_V hown hK hP hD hS 15 (g_V) rfl 2 (by decide) (htb _ k_73) (fun _ h9 => h9) rfl (by decide +kernel) rfl rfl (Nat.le_of_ble_eq_true rfl) d_V_writeCard_16 (fun H locs hP hD hS => ?_)
      have hP := P_eq (s_V_2) hP
      have hD := D_eq (s_V_2) hD
      refine lv_aload_n hx hb d_V_writeCard_19 rfl (lv_at hl 0 rfl) ?_
      refine lv_iconst (v := 0) hx hb d_V_writeCard_20 (by decide) ?_
      refine va_put (D := (dC, dI)) (ci := 4) (v := .int 0) (ty := .boolean) (C := R_V) (T := F_V) (N := 4) hx hb htb in_V ft_V ft_V_ok n_V hown hK hP hD hS 15 (g_V) rfl 1 (by decide) (htb _ k_72) (fun _ h9 => h9) rfl (by decide +kernel) rfl rfl (Nat.le_of_ble_eq_true rfl) d_V_writeCard_21 (fun H locs hP hD hS => ?_)
      have hP := P_eq (s_V_1) hP
      have hD := D_eq (s_V_1) hD
      refine lv_iconst (v := 0) hx hb d_V_writeCard_24 (by decide) ?_
      have e9 := Prod.mk.inj (Option.some.inj hM)
      exact W.zret (ty := .boolean) (v := 0) hx hb hr rfl (fun t ht hW => ⟨⟨0, (w1 (w1 σ 5 2 0) 5 1 0), rfl, e9, by rw [ht]; exact hP, va_K.moved hW.alike hK, hD⟩, hS.F ht⟩) hS.2.2 d_V_writeCard_25
