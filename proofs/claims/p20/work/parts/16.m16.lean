theorem d_O_writeRunFromTrial_0 : decode b_O_writeRunFromTrial 0 = .ok (.aload_n 0, 1) := by decide +kernel
theorem d_O_writeRunFromTrial_1 : decode b_O_writeRunFromTrial 1 = .ok (.getfield 33, 3) := by decide +kernel
theorem d_O_writeRunFromTrial_4 : decode b_O_writeRunFromTrial 4 = .ok (.invokevirtual 196, 3) := by decide +kernel
theorem d_O_writeRunFromTrial_7 : decode b_O_writeRunFromTrial 7 = .ok (.iconst 0, 1) := by decide +kernel
theorem d_O_writeRunFromTrial_8 : decode b_O_writeRunFromTrial 8 = .ok (.istore_n 1, 1) := by decide +kernel
theorem d_O_writeRunFromTrial_9 : decode b_O_writeRunFromTrial 9 = .ok (.iload_n 1, 1) := by decide +kernel
theorem d_O_writeRunFromTrial_10 : decode b_O_writeRunFromTrial 10 = .ok (.sipush 150, 3) := by decide +kernel
theorem d_O_writeRunFromTrial_13 : decode b_O_writeRunFromTrial 13 = .ok (.if_icmp .ge 67, 3) := by decide +kernel
theorem d_O_writeRunFromTrial_16 : decode b_O_writeRunFromTrial 16 = .ok (.aload_n 0, 1) := by decide +kernel
theorem d_O_writeRunFromTrial_17 : decode b_O_writeRunFromTrial 17 = .ok (.getfield 69, 3) := by decide +kernel
theorem d_O_writeRunFromTrial_20 : decode b_O_writeRunFromTrial 20 = .ok (.aload_n 0, 1) := by decide +kernel
theorem d_O_writeRunFromTrial_21 : decode b_O_writeRunFromTrial 21 = .ok (.getfield 10, 3) := by decide +kernel
theorem d_O_writeRunFromTrial_24 : decode b_O_writeRunFromTrial 24 = .ok (.invokevirtual 197, 3) := by decide +kernel
theorem d_O_writeRunFromTrial_27 : decode b_O_writeRunFromTrial 27 = .ok (.istore_n 2, 1) := by decide +kernel
theorem d_O_writeRunFromTrial_28 : decode b_O_writeRunFromTrial 28 = .ok (.iload_n 2, 1) := by decide +kernel
theorem d_O_writeRunFromTrial_29 : decode b_O_writeRunFromTrial 29 = .ok (.iconst (-1), 1) := by decide +kernel
theorem d_O_writeRunFromTrial_30 : decode b_O_writeRunFromTrial 30 = .ok (.if_icmp .ne 5, 3) := by decide +kernel
theorem d_O_writeRunFromTrial_33 : decode b_O_writeRunFromTrial 33 = .ok (.iconst 1, 1) := by decide +kernel
theorem d_O_writeRunFromTrial_34 : decode b_O_writeRunFromTrial 34 = .ok (.ireturn, 1) := by decide +kernel
theorem d_O_writeRunFromTrial_35 : decode b_O_writeRunFromTrial 35 = .ok (.aload_n 0, 1) := by decide +kernel
theorem d_O_writeRunFromTrial_36 : decode b_O_writeRunFromTrial 36 = .ok (.getfield 26, 3) := by decide +kernel
theorem d_O_writeRunFromTrial_39 : decode b_O_writeRunFromTrial 39 = .ok (.invokevirtual 201, 3) := by decide +kernel
theorem d_O_writeRunFromTrial_42 : decode b_O_writeRunFromTrial 42 = .ok (.ifCond .ne 5, 3) := by decide +kernel
theorem d_O_writeRunFromTrial_45 : decode b_O_writeRunFromTrial 45 = .ok (.iconst 0, 1) := by decide +kernel
theorem d_O_writeRunFromTrial_46 : decode b_O_writeRunFromTrial 46 = .ok (.ireturn, 1) := by decide +kernel
theorem d_O_writeRunFromTrial_47 : decode b_O_writeRunFromTrial 47 = .ok (.aload_n 0, 1) := by decide +kernel
theorem d_O_writeRunFromTrial_48 : decode b_O_writeRunFromTrial 48 = .ok (.getfield 33, 3) := by decide +kernel
theorem d_O_writeRunFromTrial_51 : decode b_O_writeRunFromTrial 51 = .ok (.aload_n 0, 1) := by decide +kernel
theorem d_O_writeRunFromTrial_52 : decode b_O_writeRunFromTrial 52 = .ok (.getfield 69, 3) := by decide +kernel
theorem d_O_writeRunFromTrial_55 : decode b_O_writeRunFromTrial 55 = .ok (.iload_n 2, 1) := by decide +kernel
theorem d_O_writeRunFromTrial_56 : decode b_O_writeRunFromTrial 56 = .ok (.invokevirtual 204, 3) := by decide +kernel
theorem d_O_writeRunFromTrial_59 : decode b_O_writeRunFromTrial 59 = .ok (.invokevirtual 207, 3) := by decide +kernel
theorem d_O_writeRunFromTrial_62 : decode b_O_writeRunFromTrial 62 = .ok (.aload_n 0, 1) := by decide +kernel
theorem d_O_writeRunFromTrial_63 : decode b_O_writeRunFromTrial 63 = .ok (.getfield 69, 3) := by decide +kernel
theorem d_O_writeRunFromTrial_66 : decode b_O_writeRunFromTrial 66 = .ok (.iload_n 2, 1) := by decide +kernel
theorem d_O_writeRunFromTrial_67 : decode b_O_writeRunFromTrial 67 = .ok (.aload_n 0, 1) := by decide +kernel
theorem d_O_writeRunFromTrial_68 : decode b_O_writeRunFromTrial 68 = .ok (.getfield 10, 3) := by decide +kernel
theorem d_O_writeRunFromTrial_71 : decode b_O_writeRunFromTrial 71 = .ok (.invokevirtual 210, 3) := by decide +kernel
theorem d_O_writeRunFromTrial_74 : decode b_O_writeRunFromTrial 74 = .ok (.iinc 1 1, 3) := by decide +kernel
theorem d_O_writeRunFromTrial_77 : decode b_O_writeRunFromTrial 77 = .ok (.goto (-68), 3) := by decide +kernel
theorem d_O_writeRunFromTrial_80 : decode b_O_writeRunFromTrial 80 = .ok (.iconst 1, 1) := by decide +kernel
theorem d_O_writeRunFromTrial_81 : decode b_O_writeRunFromTrial 81 = .ok (.ireturn, 1) := by decide +kernel
def m_O_writeRunFromTrial_9 (N : Nat) : Nat → SX → Int32 → Option (Int32 × SX)
  | 0, _, _ => none
  | n9 + 1, σ, v1 =>
    (if 150 ≤ v1 then some (1, σ) else (bI (m_S_slotOfFirst N σ 3) fun r24 σ24 => (if r24 = (-1) then some (1, σ) else (bI (m_V_writeCard N σ) fun r39 σ39 => (if r39 = 0 then some (0, σ39) else (bI (m_S_cardIn N σ39 3 r24) fun r56 σ56 => (bV (m_R_add N σ39 r56) fun σ59 => (bV (m_S_replaceCard N σ59 3 r24) fun σ71 => m_O_writeRunFromTrial_9 N n9 σ71 (v1 + 1)))))))))

def m_O_writeRunFromTrial (N : Nat) (σ : SX) : Option (Int32 × SX) :=
  (bV (m_R_forgetAll N σ) fun σ4 => m_O_writeRunFromTrial_9 N N σ4 0)

set_option maxHeartbeats 4000000 in
set_option maxRecDepth 100000 in
theorem c_O_writeRunFromTrial (l : Launch) (dC : Nat → ClassId) (dI : Nat → Nat → Nat) (ad : Nat → Nat → Nat) (cs : Nat → ClassId) (sz N : Nat) (σ : SX) {r0 : Int32} {σ0 : SX} (hM : m_O_writeRunFromTrial N σ = some (r0, σ0)) : Met l y_O_writeRunFromTrial (wd y_O_writeRunFromTrial b_O_writeRunFromTrial 3 (some .boolean)) ({ frames := 4, cells := 0, slots := 0, locals := 93 }) (va_Pc [.ref (ad 0 0)] (preX dC dI ad cs sz σ)) (va_Qi (fun (r : Int32) (u : SX) => r = r0 ∧ u = σ0) (atX dC dI ad cs (va_A (wX ad cs σ) sz)) (va_A (wX ad cs σ) sz)) 0 0 (va_A (wX ad cs σ) sz) := by
  refine Met.ofW (cc := b_O_writeRunFromTrial) (maxL := 3) (ret := (some .boolean)) (by decide) rfl ?_
  intro p e s m args below meth c s₁ B hml hv
  obtain ⟨rfl, hsz, hP, hK, hD0, hN⟩ := hv
  have hx := B.exec
  have hb := B.bytes
  have hr := B.returns
  have hts := atoms_spec (ws := (wd y_O_writeRunFromTrial b_O_writeRunFromTrial 3 (some .boolean))) B.pre
  have htb : ∀ w ∈ tb, w.before _ s = true := fun w h => hts w (List.mem_cons_of_mem _ h)
  have hown : s.vm.findClass R_O = some m.cls := findClass_of_methodNamed B.named
  have hlocks := B.notSynchronized
  subst hsz
  have hD := hD0.self (sz := s.heap.size)
  generalize hAe : va_A (wX ad cs σ) s.heap.size = A at hD ⊢
  have hA : ∀ q : Nat, s.heap.size ≤ q → A q := fun q h => by rw [← hAe]; exact Or.inr h
  have hS : va_S A s.heap s.heap [] := va_S.rf
  have hP : va_P (dC, dI) classes (wX ad cs σ) s.heap := hP
  have hl := lv_entry ([.ref (ad 0 0)]) (n := 3) (Nat.le_of_ble_eq_true rfl)
  rw [lg_entry_eq]
  generalize (lg_sl ([.ref (ad 0 0)]) ++ List.replicate (3 - (lg_sl ([.ref (ad 0 0)])).length) Slot.unset).toArray = ls at hl ⊢
  have hl : lv_has ls 3 [(0, .ref (ad 0 0))] := hl
  rw [m_O_writeRunFromTrial] at hM
  refine W_loop (pc := 9) (fun n9 H locs ls st => ∃ (σ : SX) (v1 : Int32), st = [] ∧ m_O_writeRunFromTrial_9 N n9 σ v1 = some (r0, σ0) ∧ lv_has ls 3 [(0, .ref (ad 0 0)), (1, .int v1)] ∧ va_P (dC, dI) classes (wX ad cs σ) H ∧ va_D A (wX ad cs σ) ∧ va_S A s.heap H locs) ?_ ?_ ?_
  · rintro H locs ls st ⟨σ, v1, -, hM, -⟩
    rw [m_O_writeRunFromTrial_9] at hM; cases hM
  · intro n9 K9 H locs ls st hI
    obtain ⟨σ, v1, rfl, hM, hl, hP, hD, hS⟩ := hI
    rw [m_O_writeRunFromTrial_9] at hM
    refine lv_iload_n hx hb d_O_writeRunFromTrial_9 rfl (lv_at hl 1 rfl) ?_
    refine lv_sipush (v := 150) hx hb d_O_writeRunFromTrial_10 (by decide) ?_
    refine lv_icmp_ge (tgt := 80) hx hb d_O_writeRunFromTrial_13 (by decide) (fun h13 => ?_) (fun h13 => ?_)
    · rw [if_pos h13] at hM
      refine lv_iconst (v := 1) hx hb d_O_writeRunFromTrial_80 (by decide) ?_
      have e9 := Prod.mk.inj (Option.some.inj hM)
      exact W.zret (ty := .boolean) (v := 1) hx hb hr rfl (fun t ht hW => ⟨⟨1, σ, rfl, e9, by rw [ht]; exact hP, va_K.moved hW.alike hK, hD⟩, hS.F ht⟩) hS.2.2 d_O_writeRunFromTrial_81
    · rw [if_neg h13] at hM
      refine lv_aload_n hx hb d_O_writeRunFromTrial_16 rfl (lv_at hl 0 rfl) ?_
      refine va_get (D := (dC, dI)) (ci := 0) (v := .ref (ad 3 0)) (C := R_O) (T := F_O) (N := 12) hx hb htb in_O hown hK hP 0 (g_O) rfl 2 (by decide) (htb _ k_150) (fun _ h9 => h9) rfl d_O_writeRunFromTrial_17 ?_
      refine lv_aload_n hx hb d_O_writeRunFromTrial_20 rfl (lv_at hl 0 rfl) ?_
      refine va_get (D := (dC, dI)) (ci := 0) (v := .ref (ad 1 0)) (C := R_O) (T := F_O) (N := 12) hx hb htb in_O hown hK hP 0 (g_O) rfl 0 (by decide) (htb _ k_148) (fun _ h9 => h9) rfl d_O_writeRunFromTrial_21 ?_
      obtain ⟨x24, y24, hq24, hM⟩ := bI_some hM
      refine va_calli (va_runV (As := [.ref (ad 1 0)]) (rest := []) ⟨hx, hb, hml, hown, hts⟩ (c_S_slotOfFirst l dC dI ad cs _ N σ 3 (Or.inr rfl) hq24) (cwV 1 hts (goodV k_503 k_504 k_505 k_6 k_506) rfl rfl rfl ⟨rfl, by decide, by decide, by decide +kernel⟩ ⟨Nat.le_of_ble_eq_true rfl, Nat.le_of_ble_eq_true rfl⟩) ⟨blindX, va_recv hK hP rfl (g_S (Or.inr rfl)), payX hP hK hD hN⟩ rfl rfl hl.1 rfl (lv_room (Nat.le_of_ble_eq_true rfl)) d_O_writeRunFromTrial_24 ⟨Nat.zero_le _, Nat.zero_le _⟩) hS (fun q h0 h => absurd h0 (Nat.not_lt.mpr h)) (fun q h => hA q (Nat.le_trans hS.1 h)) (fun r24 u t H locs ht hvm hpost hB hz1 hk1 hS => ?_)
      obtain ⟨e1, e2⟩ := hpost
      subst e1
      subst e2
      have hP := keepP hP hk1
      refine lv_istore_n hx hb d_O_writeRunFromTrial_27 rfl hl (by decide) (lv' := [(2, .int r24), (0, .ref (ad 0 0)), (1, .int v1)]) rfl (fun ls hl => ?_)
      refine lv_iload_n hx hb d_O_writeRunFromTrial_28 rfl (lv_at hl 0 rfl) ?_
      refine lv_iconst (v := (-1)) hx hb d_O_writeRunFromTrial_29 (by decide) ?_
      refine lv_icmp_ne (tgt := 35) hx hb d_O_writeRunFromTrial_30 (by decide) (fun h30 => ?_) (fun h30 => ?_)
      · rw [if_neg h30] at hM
        refine lv_aload_n hx hb d_O_writeRunFromTrial_35 rfl (lv_at hl 1 rfl) ?_
        refine va_get (D := (dC, dI)) (ci := 0) (v := .ref (ad 5 0)) (C := R_O) (T := F_O) (N := 12) hx hb htb in_O hown hK hP 0 (g_O) rfl 4 (by decide) (htb _ k_152) (fun _ h9 => h9) rfl d_O_writeRunFromTrial_36 ?_
        have hF1 := free_all hD hS hA
        obtain ⟨x39, y39, hq39, hM⟩ := bI_some hM
        refine va_calli (va_runV (As := []) (rest := []) ⟨hx, hb, hml, hown, hts⟩ (c_V_writeCard l dC dI ad cs _ N σ hq39) (cwV 0 hts (goodV k_508 k_509 k_510 k_4 k_511) rfl rfl rfl ⟨rfl, by decide, by decide, by decide +kernel⟩ ⟨Nat.le_of_ble_eq_true rfl, Nat.le_of_ble_eq_true rfl⟩) ⟨blindX, va_recv hK hP rfl (g_V), payX hP hK hD hN⟩ rfl rfl hl.1 rfl (lv_room (Nat.le_of_ble_eq_true rfl)) d_O_writeRunFromTrial_39 ⟨Nat.zero_le _, Nat.zero_le _⟩) hS (fun q _ h => hF1 q h) hF1 (fun r39 σ39 t H locs ht hvm hpost hB hz1 hk1 hS => ?_)
        obtain ⟨e1, e2⟩ := hpost
        subst e1
        subst e2
        obtain ⟨hP1, hK1, hD1⟩ := hB
        rw [ht] at hP1
        have hP := hP1
        have hD := hD1.weaken (fun _ _ _ h => hF1 _ h)
        refine lv_if_ne (tgt := 47) hx hb d_O_writeRunFromTrial_42 (by decide) (fun h42 => ?_) (fun h42 => ?_)
        · rw [if_neg h42] at hM
          refine lv_aload_n hx hb d_O_writeRunFromTrial_47 rfl (lv_at hl 1 rfl) ?_
          refine va_get (D := (dC, dI)) (ci := 0) (v := .ref (ad 6 0)) (C := R_O) (T := F_O) (N := 12) hx hb htb in_O hown hK hP 0 (g_O) rfl 5 (by decide) (htb _ k_153) (fun _ h9 => h9) rfl d_O_writeRunFromTrial_48 ?_
          refine lv_aload_n hx hb d_O_writeRunFromTrial_51 rfl (lv_at hl 1 rfl) ?_
          refine va_get (D := (dC, dI)) (ci := 0) (v := .ref (ad 3 0)) (C := R_O) (T := F_O) (N := 12) hx hb htb in_O hown hK hP 0 (g_O) rfl 2 (by decide) (htb _ k_150) (fun _ h9 => h9) rfl d_O_writeRunFromTrial_52 ?_
          refine lv_iload_n hx hb d_O_writeRunFromTrial_55 rfl (lv_at hl 0 rfl) ?_
          obtain ⟨x56, y56, hq56, hM⟩ := bI_some hM
          refine va_calli (va_runV (As := [.int r24]) (rest := [.ref (ad 6 0)]) ⟨hx, hb, hml, hown, hts⟩ (c_S_cardIn l dC dI ad cs _ N σ39 3 (Or.inr rfl) r24 hq56) (cwV 1 hts (goodV k_512 k_513 k_514 k_6 k_515) rfl rfl rfl ⟨rfl, by decide, by decide, by decide +kernel⟩ ⟨Nat.le_of_ble_eq_true rfl, Nat.le_of_ble_eq_true rfl⟩) ⟨blindX, va_recv hK hP rfl (g_S (Or.inr rfl)), payX hP hK hD hN⟩ rfl rfl hl.1 rfl (lv_room (Nat.le_of_ble_eq_true rfl)) d_O_writeRunFromTrial_56 ⟨Nat.zero_le _, Nat.zero_le _⟩) hS (fun q h0 h => absurd h0 (Nat.not_lt.mpr h)) (fun q h => hA q (Nat.le_trans hS.1 h)) (fun r56 u t H locs ht hvm hpost hB hz1 hk1 hS => ?_)
          obtain ⟨e1, e2⟩ := hpost
          subst e1
          subst e2
          have hP := keepP hP hk1
          have hF1 := free_all hD hS hA
          obtain ⟨y59, hq59, hM⟩ := bV_some hM
          refine va_callv (va_runV (As := [.int r56]) (rest := []) ⟨hx, hb, hml, hown, hts⟩ (c_R_add l dC dI ad cs _ N σ39 r56 hq59) (cwV 1 hts (goodV k_516 k_517 k_518 k_5 k_519) rfl rfl rfl ⟨rfl, by decide, by decide, by decide +kernel⟩ ⟨Nat.le_of_ble_eq_true rfl, Nat.le_of_ble_eq_true rfl⟩) ⟨blindX, va_recv hK hP rfl (g_R), payX hP hK hD hN⟩ rfl rfl hl.1 rfl (lv_room (Nat.le_of_ble_eq_true rfl)) d_O_writeRunFromTrial_59 ⟨Nat.zero_le _, Nat.zero_le _⟩) hS (fun q _ h => hF1 q h) hF1 (fun σ59 t H locs ht hvm hpost hB hz1 hk1 hS => ?_)
          subst hpost
          obtain ⟨hP1, hK1, hD1⟩ := hB
          rw [ht] at hP1
          have hP := hP1
          have hD := hD1.weaken (fun _ _ _ h => hF1 _ h)
          refine lv_aload_n hx hb d_O_writeRunFromTrial_62 rfl (lv_at hl 1 rfl) ?_
          refine va_get (D := (dC, dI)) (ci := 0) (v := .ref (ad 3 0)) (C := R_O) (T := F_O) (N := 12) hx hb htb in_O hown hK hP 0 (g_O) rfl 2 (by decide) (htb _ k_150) (fun _ h9 => h9) rfl d_O_writeRunFromTrial_63 ?_
          refine lv_iload_n hx hb d_O_writeRunFromTrial_66 rfl (lv_at hl 0 rfl) ?_
          refine lv_aload_n hx hb d_O_writeRunFromTrial_67 rfl (lv_at hl 1 rfl) ?_
          refine va_get (D := (dC, dI)) (ci := 0) (v := .ref (ad 1 0)) (C := R_O) (T := F_O) (N := 12) hx hb htb in_O hown hK hP 0 (g_O) rfl 0 (by decide) (htb _ k_148) (fun _ h9 => h9) rfl d_O_writeRunFromTrial_68 ?_
          have hF1 := free_all hD hS hA
          obtain ⟨y71, hq71, hM⟩ := bV_some hM
          refine va_callv (va_runV (As := [.int r24, .ref (ad 1 0)]) (rest := []) ⟨hx, hb, hml, hown, hts⟩ (c_S_replaceCard l dC dI ad cs _ N σ59 3 (Or.inr rfl) r24 hq71) (cwV 2 hts (goodV k_520 k_521 k_522 k_6 k_523) rfl rfl rfl ⟨rfl, by decide, by decide, by decide +kernel⟩ ⟨Nat.le_of_ble_eq_true rfl, Nat.le_of_ble_eq_true rfl⟩) ⟨blindX, va_recv hK hP rfl (g_S (Or.inr rfl)), payX hP hK hD hN⟩ rfl rfl hl.1 rfl (lv_room (Nat.le_of_ble_eq_true rfl)) d_O_writeRunFromTrial_71 ⟨Nat.zero_le _, Nat.zero_le _⟩) hS (fun q _ h => hF1 q h) hF1 (fun σ71 t H locs ht hvm hpost hB hz1 hk1 hS => ?_)
          subst hpost
          obtain ⟨hP1, hK1, hD1⟩ := hB
          rw [ht] at hP1
          have hP := hP1
          have hD := hD1.weaken (fun _ _ _ h => hF1 _ h)
          refine lv_iinc (k := 2) (v := (v1 + 1)) hx hb d_O_writeRunFromTrial_74 hl rfl rfl (by decide) (lv' := [(1, .int (v1 + 1)), (2, .int r24), (0, .ref (ad 0 0))]) rfl (fun ls hl => ?_)
          refine lv_goto (tgt := 9) hx hb d_O_writeRunFromTrial_77 (by decide) ?_
          exact K9 _ _ _ _ ⟨σ71, (v1 + 1), rfl, hM, lv_sub hl [2, 0] rfl, hP, hD, hS⟩
        · rw [if_pos h42] at hM
          refine lv_iconst (v := 0) hx hb d_O_writeRunFromTrial_45 (by decide) ?_
          have e9 := Prod.mk.inj (Option.some.inj hM)
          exact W.zret (ty := .boolean) (v := 0) hx hb hr rfl (fun t ht hW => ⟨⟨0, σ39, rfl, e9, by rw [ht]; exact hP, va_K.moved hW.alike hK, hD⟩, hS.F ht⟩) hS.2.2 d_O_writeRunFromTrial_46
      · rw [if_pos h30] at hM
        refine lv_iconst (v := 1) hx hb d_O_writeRunFromTrial_33 (by decide) ?_
        have e9 := Prod.mk.inj (Option.some.inj hM)
        exact W.zret (ty := .boolean) (v := 1) hx hb hr rfl (fun t ht hW => ⟨⟨1, σ, rfl, e9, by rw [ht]; exact hP, va_K.moved hW.alike hK, hD⟩, hS.F ht⟩) hS.2.2 d_O_writeRunFromTrial_34
  intro K9
  refine lv_aload_n hx hb d_O_writeRunFromTrial_0 rfl (lv_at hl 0 rfl) ?_
  refine va_get (D := (dC, dI)) (ci := 0) (v := .ref (ad 6 0)) (C := R_O) (T := F_O) (N := 12) hx hb htb in_O hown hK hP 0 (g_O) rfl 5 (by decide) (htb _ k_153) (fun _ h9 => h9) rfl d_O_writeRunFromTrial_1 ?_
  have hF1 := free_all hD hS hA
  obtain ⟨y4, hq4, hM⟩ := bV_some hM
  refine va_callv (va_runV (As := []) (rest := []) ⟨hx, hb, hml, hown, hts⟩ (c_R_forgetAll l dC dI ad cs _ N σ hq4) (cwV 0 hts (goodV k_499 k_500 k_501 k_5 k_502) rfl rfl rfl ⟨rfl, by decide, by decide, by decide +kernel⟩ ⟨Nat.le_of_ble_eq_true rfl, Nat.le_of_ble_eq_true rfl⟩) ⟨blindX, va_recv hK hP rfl (g_R), payX hP hK hD hN⟩ rfl rfl hl.1 rfl (lv_room (Nat.le_of_ble_eq_true rfl)) d_O_writeRunFromTrial_4 ⟨Nat.zero_le _, Nat.zero_le _⟩) hS (fun q _ h => hF1 q h) hF1 (fun σ4 t H locs ht hvm hpost hB hz1 hk1 hS => ?_)
  subst hpost
  obtain ⟨hP1, hK1, hD1⟩ := hB
  rw [ht] at hP1
  have hP := hP1
  have hD := hD1.weaken (fun _ _ _ h => hF1 _ h)
  refine lv_iconst (v := 0) hx hb d_O_writeRunFromTrial_7 (by decide) ?_
  refine lv_istore_n hx hb d_O_writeRunFromTrial_8 rfl hl (by decide) (lv' := [(1, .int 0), (0, .ref (ad 0 0))]) rfl (fun ls hl => ?_)
  exact K9 N _ _ _ _ ⟨σ4, 0, rfl, hM, lv_sub hl [1, 0] rfl, hP, hD, hS⟩

theorem d_S_turnToNextRun_0 : decode b_S_turnToNextRun 0 = .ok (.iconst 0, 1) := by decide +kernel
theorem d_S_turnToNextRun_1 : decode b_S_turnToNextRun 1 = .ok (.istore_n 1, 1) := by decide +kernel
theorem d_S_turnToNextRun_2 : decode b_S_turnToNextRun 2 = .ok (.iload_n 1, 1) := by decide +kernel
theorem d_S_turnToNextRun_3 : decode b_S_turnToNextRun 3 = .ok (.aload_n 0, 1) := by decide +kernel
theorem d_S_turnToNextRun_4 : decode b_S_turnToNextRun 4 = .ok (.getfield 19, 3) := by decide +kernel
theorem d_S_turnToNextRun_7 : decode b_S_turnToNextRun 7 = .ok (.if_icmp .ge 16, 3) := by decide +kernel
theorem d_S_turnToNextRun_10 : decode b_S_turnToNextRun 10 = .ok (.aload_n 0, 1) := by decide +kernel
theorem d_S_turnToNextRun_11 : decode b_S_turnToNextRun 11 = .ok (.getfield 15, 3) := by decide +kernel
theorem d_S_turnToNextRun_14 : decode b_S_turnToNextRun 14 = .ok (.iload_n 1, 1) := by decide +kernel
theorem d_S_turnToNextRun_15 : decode b_S_turnToNextRun 15 = .ok (.iconst 0, 1) := by decide +kernel
theorem d_S_turnToNextRun_16 : decode b_S_turnToNextRun 16 = .ok (.bastore, 1) := by decide +kernel
theorem d_S_turnToNextRun_17 : decode b_S_turnToNextRun 17 = .ok (.iinc 1 1, 3) := by decide +kernel
theorem d_S_turnToNextRun_20 : decode b_S_turnToNextRun 20 = .ok (.goto (-18), 3) := by decide +kernel
theorem d_S_turnToNextRun_23 : decode b_S_turnToNextRun 23 = .ok (.return_, 1) := by decide +kernel
def m_S_turnToNextRun_2 (N : Nat) (j : Nat) : Nat → SX → Int32 → Option (SX)
  | 0, _, _ => none
  | n2 + 1, σ, v1 =>
    (if ((σ j).1 1) ≤ v1 then some σ else (if inb v1 8 = true then m_S_turnToNextRun_2 N j n2 (w3 σ j 2 v1 (vp_nar .boolean 0)) (v1 + 1) else none))

def m_S_turnToNextRun (N : Nat) (σ : SX) (j : Nat) : Option (SX) :=
  m_S_turnToNextRun_2 N j N σ 0

set_option maxHeartbeats 4000000 in
set_option maxRecDepth 100000 in
theorem c_S_turnToNextRun (l : Launch) (dC : Nat → ClassId) (dI : Nat → Nat → Nat) (ad : Nat → Nat → Nat) (cs : Nat → ClassId) (sz N : Nat) (σ : SX) (j : Nat) (hj : j = 2 ∨ j = 3) {σ0 : SX} (hM : m_S_turnToNextRun N σ j = some σ0) : Met l y_S_turnToNextRun (wd y_S_turnToNextRun b_S_turnToNextRun 2 none) ({ frames := 0, cells := 0, slots := 0, locals := 0 }) (va_Pc [.ref (ad j 0)] (preX dC dI ad cs sz σ)) (va_Qv (fun (u : SX) => u = σ0) (atX dC dI ad cs (va_A (wX ad cs σ) sz)) (va_A (wX ad cs σ) sz)) 0 0 (va_A (wX ad cs σ) sz) := by
  refine Met.ofW (cc := b_S_turnToNextRun) (maxL := 2) (ret := none) (by decide) rfl ?_
  intro p e s m args below meth c s₁ B hml hv
  obtain ⟨rfl, hsz, hP, hK, hD0, hN⟩ := hv
  have hx := B.exec
  have hb := B.bytes
  have hr := B.returns
  have hts := atoms_spec (ws := (wd y_S_turnToNextRun b_S_turnToNextRun 2 none)) B.pre
  have htb : ∀ w ∈ tb, w.before _ s = true := fun w h => hts w (List.mem_cons_of_mem _ h)
  have hown : s.vm.findClass R_S = some m.cls := findClass_of_methodNamed B.named
  have hlocks := B.notSynchronized
  subst hsz
  have hD := hD0.self (sz := s.heap.size)
  generalize hAe : va_A (wX ad cs σ) s.heap.size = A at hD ⊢
  have hA : ∀ q : Nat, s.heap.size ≤ q → A q := fun q h => by rw [← hAe]; exact Or.inr h
  have hS : va_S A s.heap s.heap [] := va_S.rf
  have hP : va_P (dC, dI) classes (wX ad cs σ) s.heap := hP
  have hl := lv_entry ([.ref (ad j 0)]) (n := 2) (Nat.le_of_ble_eq_true rfl)
  rw [lg_entry_eq]
  generalize (lg_sl ([.ref (ad j 0)]) ++ List.replicate (2 - (lg_sl ([.ref (ad j 0)])).length) Slot.unset).toArray = ls at hl ⊢
  have hl : lv_has ls 2 [(0, .ref (ad j 0))] := hl
  rw [m_S_turnToNextRun] at hM
  refine W_loop (pc := 2) (fun n2 H locs ls st => ∃ (σ : SX) (v1 : Int32), st = [] ∧ m_S_turnToNextRun_2 N j n2 σ v1 = some σ0 ∧ lv_has ls 2 [(0, .ref (ad j 0)), (1, .int v1)] ∧ va_P (dC, dI) classes (wX ad cs σ) H ∧ va_D A (wX ad cs σ) ∧ va_S A s.heap H locs) ?_ ?_ ?_
  · rintro H locs ls st ⟨σ, v1, -, hM, -⟩
    rw [m_S_turnToNextRun_2] at hM; cases hM
  · intro n2 K2 H locs ls st hI
    obtain ⟨σ, v1, rfl, hM, hl, hP, hD, hS⟩ := hI
    rw [m_S_turnToNextRun_2] at hM
    refine lv_iload_n hx hb d_S_turnToNextRun_2 rfl (lv_at hl 1 rfl) ?_
    refine lv_aload_n hx hb d_S_turnToNextRun_3 rfl (lv_at hl 0 rfl) ?_
    refine va_get (D := (dC, dI)) (ci := 2) (v := .int ((σ j).1 1)) (C := R_S) (T := F_S) (N := 5) hx hb htb in_S hown hK hP (3 * j + 1) (g_S hj) rfl 3 (by decide) (htb _ k_110) (fun _ h9 => h9) rfl d_S_turnToNextRun_4 ?_
    refine lv_icmp_ge (tgt := 23) hx hb d_S_turnToNextRun_7 (by decide) (fun h7 => ?_) (fun h7 => ?_)
    · rw [if_pos h7] at hM
      have e9 := Option.some.inj hM
      exact W.vret hx hb hr (fun t ht hW => ⟨⟨σ, rfl, e9, by rw [ht]; exact hP, va_K.moved hW.alike hK, hD⟩, hS.F ht⟩) hS.2.2 d_S_turnToNextRun_23
    · rw [if_neg h7] at hM
      refine lv_aload_n hx hb d_S_turnToNextRun_10 rfl (lv_at hl 0 rfl) ?_
      refine va_get (D := (dC, dI)) (ci := 2) (v := .ref (ad j 2)) (C := R_S) (T := F_S) (N := 5) hx hb htb in_S hown hK hP (3 * j + 1) (g_S hj) rfl 2 (by decide) (htb _ k_109) (fun _ h9 => h9) rfl d_S_turnToNextRun_11 ?_
      refine lv_iload_n hx hb d_S_turnToNextRun_14 rfl (lv_at hl 1 rfl) ?_
      refine lv_iconst (v := 0) hx hb d_S_turnToNextRun_15 (by decide) ?_
      have hg16 := gd_c hM
      have hM := gd_v hM
      refine va_zast (i := v1) (x := 0) hx hb hK hP hD hS (3 * j + 3) 1 (g_S_a2 hj) rfl (inb_in hg16) d_S_turnToNextRun_16 (fun H locs hP hD hS => ?_)
      have hP := P_eq (t_S_2 hj) hP
      have hD := D_eq (t_S_2 hj) hD
      refine lv_iinc (k := 1) (v := (v1 + 1)) hx hb d_S_turnToNextRun_17 hl rfl rfl (by decide) (lv' := [(1, .int (v1 + 1)), (0, .ref (ad j 0))]) rfl (fun ls hl => ?_)
      refine lv_goto (tgt := 2) hx hb d_S_turnToNextRun_20 (by decide) ?_
      exact K2 _ _ _ _ ⟨(w3 σ j 2 v1 (vp_nar .boolean 0)), (v1 + 1), rfl, hM, lv_sub hl [1, 0] rfl, hP, hD, hS⟩
  intro K2
  refine lv_iconst (v := 0) hx hb d_S_turnToNextRun_0 (by decide) ?_
  refine lv_istore_n hx hb d_S_turnToNextRun_1 rfl hl (by decide) (lv' := [(1, .int 0), (0, .ref (ad j 0))]) rfl (fun ls hl => ?_)
  exact K2 N _ _ _ _ ⟨σ, 0, rfl, hM, lv_sub hl [1, 0] rfl, hP, hD, hS⟩

theorem d_P_growTo_0 : decode b_P_growTo 0 = .ok (.aload_n 3, 1) := by decide +kernel
theorem d_P_growTo_1 : decode b_P_growTo 1 = .ok (.iload_n 1, 1) := by decide +kernel
theorem d_P_growTo_2 : decode b_P_growTo 2 = .ok (.aaload, 1) := by decide +kernel
theorem d_P_growTo_3 : decode b_P_growTo 3 = .ok (.iload_n 2, 1) := by decide +kernel
theorem d_P_growTo_4 : decode b_P_growTo 4 = .ok (.aload_n 0, 1) := by decide +kernel
theorem d_P_growTo_5 : decode b_P_growTo 5 = .ok (.getfield 9, 3) := by decide +kernel
theorem d_P_growTo_8 : decode b_P_growTo 8 = .ok (.iload_n 1, 1) := by decide +kernel
theorem d_P_growTo_9 : decode b_P_growTo 9 = .ok (.iaload, 1) := by decide +kernel
theorem d_P_growTo_10 : decode b_P_growTo 10 = .ok (.isub, 1) := by decide +kernel
theorem d_P_growTo_11 : decode b_P_growTo 11 = .ok (.invokevirtual 22, 3) := by decide +kernel
theorem d_P_growTo_14 : decode b_P_growTo 14 = .ok (.aload_n 0, 1) := by decide +kernel
theorem d_P_growTo_15 : decode b_P_growTo 15 = .ok (.getfield 9, 3) := by decide +kernel
theorem d_P_growTo_18 : decode b_P_growTo 18 = .ok (.iload_n 1, 1) := by decide +kernel
theorem d_P_growTo_19 : decode b_P_growTo 19 = .ok (.iload_n 2, 1) := by decide +kernel
theorem d_P_growTo_20 : decode b_P_growTo 20 = .ok (.iastore, 1) := by decide +kernel
theorem d_P_growTo_21 : decode b_P_growTo 21 = .ok (.return_, 1) := by decide +kernel
def m_P_growTo (N : Nat) (σ : SX) (a1 : Int32) (a2 : Int32) : Option (SX) :=
  (if inb a1 4 = true then (if inb a1 3 = true then (bV (m_T_addDummies N σ a1.toNatClampNeg (a2 - ((σ 4).2 1 a1.toNatClampNeg))) fun σ11 => (if inb a1 3 = true then some (w3 σ11 4 1 a1 a2) else none)) else none) else none)

set_option maxHeartbeats 4000000 in
set_option maxRecDepth 100000 in
theorem c_P_growTo (l : Launch) (dC : Nat → ClassId) (dI : Nat → Nat → Nat) (ad : Nat → Nat → Nat) (cs : Nat → ClassId) (sz N : Nat) (σ : SX) (a1 : Int32) (a2 : Int32) {σ0 : SX} (hM : m_P_growTo N σ a1 a2 = some σ0) : Met l y_P_growTo (wd y_P_growTo b_P_growTo 4 none) ({ frames := 1, cells := 0, slots := 0, locals := 21 }) (va_Pc [.ref (ad 4 0), .int a1, .int a2, .ref (ad 0 9)] (preX dC dI ad cs sz σ)) (va_Qv (fun (u : SX) => u = σ0) (atX dC dI ad cs (va_A (wX ad cs σ) sz)) (va_A (wX ad cs σ) sz)) 0 0 (va_A (wX ad cs σ) sz) := by
  refine Met.ofW (cc := b_P_growTo) (maxL := 4) (ret := none) (by decide) rfl ?_
  intro p e s m args below meth c s₁ B hml hv
  obtain ⟨rfl, hsz, hP, hK, hD0, hN⟩ := hv
  have hx := B.exec
  have hb := B.bytes
  have hr := B.returns
  have hts := atoms_spec (ws := (wd y_P_growTo b_P_growTo 4 none)) B.pre
  have htb : ∀ w ∈ tb, w.before _ s = true := fun w h => hts w (List.mem_cons_of_mem _ h)
  have hown : s.vm.findClass R_P = some m.cls := findClass_of_methodNamed B.named
  have hlocks := B.notSynchronized
  subst hsz
  have hD := hD0.self (sz := s.heap.size)
  generalize hAe : va_A (wX ad cs σ) s.heap.size = A at hD ⊢
  have hA : ∀ q : Nat, s.heap.size ≤ q → A q := fun q h => by rw [← hAe]; exact Or.inr h
  have hS : va_S A s.heap s.heap [] := va_S.rf
  have hP : va_P (dC, dI) classes (wX ad cs σ) s.heap := hP
  have hl := lv_entry ([.ref (ad 4 0), .int a1, .int a2, .ref (ad 0 9)]) (n := 4) (Nat.le_of_ble_eq_true rfl)
  rw [lg_entry_eq]
  generalize (lg_sl ([.ref (ad 4 0), .int a1, .int a2, .ref (ad 0 9)]) ++ List.replicate (4 - (lg_sl ([.ref (ad 4 0), .int a1, .int a2, .ref (ad 0 9)])).length) Slot.unset).toArray = ls at hl ⊢
  have hl : lv_has ls 4 [(0, .ref (ad 4 0)), (1, .int a1), (2, .int a2), (3, .ref (ad 0 9))] := hl
  rw [m_P_growTo] at hM
  refine lv_aload_n hx hb d_P_growTo_0 rfl (lv_at hl 3 rfl) ?_
  refine lv_iload_n hx hb d_P_growTo_1 rfl (lv_at hl 1 rfl) ?_
  have hg2 := gd_c hM
  have hM := gd_v hM
  refine va_aldq hx hb hK hP 18 2 (f := fun i => some (ad (7 + i) 0)) g_tapes rfl (inb_in hg2) d_P_growTo_2 ?_
  refine W.eq (g2 := F0 m 3 ls [.ref (ad (7 + a1.toNatClampNeg) 0)]) rfl ?_
  refine lv_iload_n hx hb d_P_growTo_3 rfl (lv_at hl 2 rfl) ?_
  refine lv_aload_n hx hb d_P_growTo_4 rfl (lv_at hl 0 rfl) ?_
  refine va_get (D := (dC, dI)) (ci := 3) (v := .ref (ad 4 1)) (C := R_P) (T := F_P) (N := 3) hx hb htb in_P hown hK hP 13 (g_P) rfl 0 (by decide) (htb _ k_55) (fun _ h9 => h9) rfl d_P_growTo_5 ?_
  refine lv_iload_n hx hb d_P_growTo_8 rfl (lv_at hl 1 rfl) ?_
  have hg9 := gd_c hM
  have hM := gd_v hM
  refine va_iald hx hb hK hP 14 0 (g_P_a1) rfl (inb_in hg9) d_P_growTo_9 ?_
  refine lv_isub hx hb d_P_growTo_10 ?_
  have hF1 := free_all hD hS hA
  obtain ⟨y11, hq11, hM⟩ := bV_some hM
  refine va_callv (va_runV (As := [.int (a2 - ((σ 4).2 1 a1.toNatClampNeg))]) (rest := []) ⟨hx, hb, hml, hown, hts⟩ (c_T_addDummies l dC dI ad cs _ N σ a1.toNatClampNeg (inb_lt hg2) (a2 - ((σ 4).2 1 a1.toNatClampNeg)) hq11) (cwV 1 hts (goodV k_464 k_465 k_466 k_7 k_467) rfl rfl rfl ⟨rfl, by decide, by decide, by decide +kernel⟩ ⟨Nat.le_of_ble_eq_true rfl, Nat.le_of_ble_eq_true rfl⟩) ⟨blindX, va_recv hK hP rfl (g_T (inb_lt hg2)), payX hP hK hD hN⟩ rfl rfl hl.1 rfl (lv_room (Nat.le_of_ble_eq_true rfl)) d_P_growTo_11 ⟨Nat.zero_le _, Nat.zero_le _⟩) hS (fun q _ h => hF1 q h) hF1 (fun σ11 t H locs ht hvm hpost hB hz1 hk1 hS => ?_)
  subst hpost
  obtain ⟨hP1, hK1, hD1⟩ := hB
  rw [ht] at hP1
  have hP := hP1
  have hD := hD1.weaken (fun _ _ _ h => hF1 _ h)
  refine lv_aload_n hx hb d_P_growTo_14 rfl (lv_at hl 0 rfl) ?_
  refine va_get (D := (dC, dI)) (ci := 3) (v := .ref (ad 4 1)) (C := R_P) (T := F_P) (N := 3) hx hb htb in_P hown hK hP 13 (g_P) rfl 0 (by decide) (htb _ k_55) (fun _ h9 => h9) rfl d_P_growTo_15 ?_
  refine lv_iload_n hx hb d_P_growTo_18 rfl (lv_at hl 1 rfl) ?_
  refine lv_iload_n hx hb d_P_growTo_19 rfl (lv_at hl 2 rfl) ?_
  have hg20 := gd_c hM
  have hM := gd_v hM
  refine va_iast (i := a1) (x := a2) hx hb hK hP hD hS 14 0 (g_P_a1) rfl (inb_in hg20) d_P_growTo_20 (fun H locs hP hD hS => ?_)
  have hP := P_eq (t_P_1) hP
  have hD := D_eq (t_P_1) hD
  have e9 := Option.some.inj hM
  exact W.vret hx hb hr (fun t ht hW => ⟨⟨(w3 σ11 4 1 a1 a2), rfl, e9, by rw [ht]; exact hP, va_K.moved hW.alike hK, hD⟩, hS.F ht⟩) hS.2.2 d_P_growTo_21

theorem d_P_goUp_0 : decode b_P_goUp 0 = .ok (.aload_n 0, 1) := by decide +kernel
theorem d_P_goUp_1 : decode b_P_goUp 1 = .ok (.getfield 9, 3) := by decide +kernel
theorem d_P_goUp_4 : decode b_P_goUp 4 = .ok (.iconst 0, 1) := by decide +kernel
theorem d_P_goUp_5 : decode b_P_goUp 5 = .ok (.iaload, 1) := by decide +kernel
theorem d_P_goUp_6 : decode b_P_goUp 6 = .ok (.istore_n 2, 1) := by decide +kernel
theorem d_P_goUp_7 : decode b_P_goUp 7 = .ok (.aload_n 0, 1) := by decide +kernel
theorem d_P_goUp_8 : decode b_P_goUp 8 = .ok (.getfield 9, 3) := by decide +kernel
theorem d_P_goUp_11 : decode b_P_goUp 11 = .ok (.iconst 1, 1) := by decide +kernel
theorem d_P_goUp_12 : decode b_P_goUp 12 = .ok (.iaload, 1) := by decide +kernel
theorem d_P_goUp_13 : decode b_P_goUp 13 = .ok (.istore_n 3, 1) := by decide +kernel
theorem d_P_goUp_14 : decode b_P_goUp 14 = .ok (.aload_n 0, 1) := by decide +kernel
theorem d_P_goUp_15 : decode b_P_goUp 15 = .ok (.getfield 9, 3) := by decide +kernel
theorem d_P_goUp_18 : decode b_P_goUp 18 = .ok (.iconst 2, 1) := by decide +kernel
theorem d_P_goUp_19 : decode b_P_goUp 19 = .ok (.iaload, 1) := by decide +kernel
theorem d_P_goUp_20 : decode b_P_goUp 20 = .ok (.istore 4, 2) := by decide +kernel
theorem d_P_goUp_22 : decode b_P_goUp 22 = .ok (.aload_n 0, 1) := by decide +kernel
theorem d_P_goUp_23 : decode b_P_goUp 23 = .ok (.dup, 1) := by decide +kernel
theorem d_P_goUp_24 : decode b_P_goUp 24 = .ok (.getfield 15, 3) := by decide +kernel
theorem d_P_goUp_27 : decode b_P_goUp 27 = .ok (.iconst 1, 1) := by decide +kernel
theorem d_P_goUp_28 : decode b_P_goUp 28 = .ok (.iadd, 1) := by decide +kernel
theorem d_P_goUp_29 : decode b_P_goUp 29 = .ok (.putfield 15, 3) := by decide +kernel
theorem d_P_goUp_32 : decode b_P_goUp 32 = .ok (.aload_n 0, 1) := by decide +kernel
theorem d_P_goUp_33 : decode b_P_goUp 33 = .ok (.iconst 0, 1) := by decide +kernel
theorem d_P_goUp_34 : decode b_P_goUp 34 = .ok (.iload_n 2, 1) := by decide +kernel
theorem d_P_goUp_35 : decode b_P_goUp 35 = .ok (.iload_n 3, 1) := by decide +kernel
theorem d_P_goUp_36 : decode b_P_goUp 36 = .ok (.iadd, 1) := by decide +kernel
theorem d_P_goUp_37 : decode b_P_goUp 37 = .ok (.aload_n 1, 1) := by decide +kernel
theorem d_P_goUp_38 : decode b_P_goUp 38 = .ok (.invokevirtual 36, 3) := by decide +kernel
theorem d_P_goUp_41 : decode b_P_goUp 41 = .ok (.aload_n 0, 1) := by decide +kernel
theorem d_P_goUp_42 : decode b_P_goUp 42 = .ok (.iconst 1, 1) := by decide +kernel
theorem d_P_goUp_43 : decode b_P_goUp 43 = .ok (.iload_n 2, 1) := by decide +kernel
theorem d_P_goUp_44 : decode b_P_goUp 44 = .ok (.iload 4, 2) := by decide +kernel
theorem d_P_goUp_46 : decode b_P_goUp 46 = .ok (.iadd, 1) := by decide +kernel
theorem d_P_goUp_47 : decode b_P_goUp 47 = .ok (.aload_n 1, 1) := by decide +kernel
theorem d_P_goUp_48 : decode b_P_goUp 48 = .ok (.invokevirtual 36, 3) := by decide +kernel
theorem d_P_goUp_51 : decode b_P_goUp 51 = .ok (.aload_n 0, 1) := by decide +kernel
theorem d_P_goUp_52 : decode b_P_goUp 52 = .ok (.iconst 2, 1) := by decide +kernel
theorem d_P_goUp_53 : decode b_P_goUp 53 = .ok (.iload_n 2, 1) := by decide +kernel
theorem d_P_goUp_54 : decode b_P_goUp 54 = .ok (.aload_n 1, 1) := by decide +kernel
theorem d_P_goUp_55 : decode b_P_goUp 55 = .ok (.invokevirtual 36, 3) := by decide +kernel
theorem d_P_goUp_58 : decode b_P_goUp 58 = .ok (.return_, 1) := by decide +kernel
def m_P_goUp (N : Nat) (σ : SX) : Option (SX) :=
  (bV (m_P_growTo N (w1 σ 4 0 (((σ 4).1 0) + 1)) 0 (((σ 4).2 1 (0 : Int32).toNatClampNeg) + ((σ 4).2 1 (1 : Int32).toNatClampNeg))) fun σ38 => (bV (m_P_growTo N σ38 1 (((σ 4).2 1 (0 : Int32).toNatClampNeg) + ((σ 4).2 1 (2 : Int32).toNatClampNeg))) fun σ48 => (bV (m_P_growTo N σ48 2 ((σ 4).2 1 (0 : Int32).toNatClampNeg)) fun σ55 => some σ55)))

set_option maxHeartbeats 4000000 in
set_option maxRecDepth 100000 in
theorem c_P_goUp (l : Launch) (dC : Nat → ClassId) (dI : Nat → Nat → Nat) (ad : Nat → Nat → Nat) (cs : Nat → ClassId) (sz N : Nat) (σ : SX) {σ0 : SX} (hM : m_P_goUp N σ = some σ0) : Met l y_P_goUp (wd y_P_goUp b_P_goUp 5 none) ({ frames := 2, cells := 0, slots := 0, locals := 44 }) (va_Pc [.ref (ad 4 0), .ref (ad 0 9)] (preX dC dI ad cs sz σ)) (va_Qv (fun (u : SX) => u = σ0) (atX dC dI ad cs (va_A (wX ad cs σ) sz)) (va_A (wX ad cs σ) sz)) 0 0 (va_A (wX ad cs σ) sz) := by
  refine Met.ofW (cc := b_P_goUp) (maxL := 5) (ret := none) (by decide) rfl ?_
  intro p e s m args below meth c s₁ B hml hv
  obtain ⟨rfl, hsz, hP, hK, hD0, hN⟩ := hv
  have hx := B.exec
  have hb := B.bytes
  have hr := B.returns
  have hts := atoms_spec (ws := (wd y_P_goUp b_P_goUp 5 none)) B.pre
  have htb : ∀ w ∈ tb, w.before _ s = true := fun w h => hts w (List.mem_cons_of_mem _ h)
  have hown : s.vm.findClass R_P = some m.cls := findClass_of_methodNamed B.named
  have hlocks := B.notSynchronized
  subst hsz
  have hD := hD0.self (sz := s.heap.size)
  generalize hAe : va_A (wX ad cs σ) s.heap.size = A at hD ⊢
  have hA : ∀ q : Nat, s.heap.size ≤ q → A q := fun q h => by rw [← hAe]; exact Or.inr h
  have hS : va_S A s.heap s.heap [] := va_S.rf
  have hP : va_P (dC, dI) classes (wX ad cs σ) s.heap := hP
  have hl := lv_entry ([.ref (ad 4 0), .ref (ad 0 9)]) (n := 5) (Nat.le_of_ble_eq_true rfl)
  rw [lg_entry_eq]
  generalize (lg_sl ([.ref (ad 4 0), .ref (ad 0 9)]) ++ List.replicate (5 - (lg_sl ([.ref (ad 4 0), .ref (ad 0 9)])).length) Slot.unset).toArray = ls at hl ⊢
  have hl : lv_has ls 5 [(0, .ref (ad 4 0)), (1, .ref (ad 0 9))] := hl
  rw [m_P_goUp] at hM
  refine lv_aload_n hx hb d_P_goUp_0 rfl (lv_at hl 0 rfl) ?_
  refine va_get (D := (dC, dI)) (ci := 3) (v := .ref (ad 4 1)) (C := R_P) (T := F_P) (N := 3) hx hb htb in_P hown hK hP 13 (g_P) rfl 0 (by decide) (htb _ k_55) (fun _ h9 => h9) rfl d_P_goUp_1 ?_
  refine lv_iconst (v := 0) hx hb d_P_goUp_4 (by decide) ?_
  refine va_iald hx hb hK hP 14 0 (g_P_a1) rfl (inb_in (by decide)) d_P_goUp_5 ?_
  refine lv_istore_n hx hb d_P_goUp_6 rfl hl (by decide) (lv' := [(2, .int ((σ 4).2 1 (0 : Int32).toNatClampNeg)), (0, .ref (ad 4 0)), (1, .ref (ad 0 9))]) rfl (fun ls hl => ?_)
  refine lv_aload_n hx hb d_P_goUp_7 rfl (lv_at hl 1 rfl) ?_
  refine va_get (D := (dC, dI)) (ci := 3) (v := .ref (ad 4 1)) (C := R_P) (T := F_P) (N := 3) hx hb htb in_P hown hK hP 13 (g_P) rfl 0 (by decide) (htb _ k_55) (fun _ h9 => h9) rfl d_P_goUp_8 ?_
  refine lv_iconst (v := 1) hx hb d_P_goUp_11 (by decide) ?_
  refine va_iald hx hb hK hP 14 0 (g_P_a1) rfl (inb_in (by decide)) d_P_goUp_12 ?_
  refine lv_istore_n hx hb d_P_goUp_13 rfl hl (by decide) (lv' := [(3, .int ((σ 4).2 1 (1 : Int32).toNatClampNeg)), (2, .int ((σ 4).2 1 (0 : Int32).toNatClampNeg)), (0, .ref (ad 4 0)), (1, .ref (ad 0 9))]) rfl (fun ls hl => ?_)
  refine lv_aload_n hx hb d_P_goUp_14 rfl (lv_at hl 2 rfl) ?_
  refine va_get (D := (dC, dI)) (ci := 3) (v := .ref (ad 4 1)) (C := R_P) (T := F_P) (N := 3) hx hb htb in_P hown hK hP 13 (g_P) rfl 0 (by decide) (htb _ k_55) (fun _ h9 => h9) rfl d_P_goUp_15 ?_
  refine lv_iconst (v := 2) hx hb d_P_goUp_18 (by decide) ?_
  refine va_iald hx hb hK hP 14 0 (g_P_a1) rfl (inb_in (by decide)) d_P_goUp_19 ?_
  refine lv_istore hx hb d_P_goUp_20 hl (by decide) (lv' := [(4, .int ((σ 4).2 1 (2 : Int32).toNatClampNeg)), (3, .int ((σ 4).2 1 (1 : Int32).toNatClampNeg)), (2, .int ((σ 4).2 1 (0 : Int32).toNatClampNeg)), (0, .ref (ad 4 0)), (1, .ref (ad 0 9))]) rfl (fun ls hl => ?_)
  refine lv_aload_n hx hb d_P_goUp_22 rfl (lv_at hl 3 rfl) ?_
  refine lv_dup hx hb d_P_goUp_23 rfl ?_
  refine va_get (D := (dC, dI)) (ci := 3) (v := .int ((σ 4).1 0)) (C := R_P) (T := F_P) (N := 3) hx hb htb in_P hown hK hP 13 (g_P) rfl 1 (by decide) (htb _ k_56) (fun _ h9 => h9) rfl d_P_goUp_24 ?_
  refine lv_iconst (v := 1) hx hb d_P_goUp_27 (by decide) ?_
  refine lv_iadd hx hb d_P_goUp_28 ?_
  refine va_put (D := (dC, dI)) (ci := 3) (v := .int (((σ 4).1 0) + 1)) (ty := .int) (C := R_P) (T := F_P) (N := 3) hx hb htb in_P ft_P ft_P_ok n_P hown hK hP hD hS 13 (g_P) rfl 1 (by decide) (htb _ k_56) (fun _ h9 => h9) rfl (by decide +kernel) rfl rfl (Nat.le_of_ble_eq_true rfl) d_P_goUp_29 (fun H locs hP hD hS => ?_)
  have hP := P_eq (s_P_0) hP
  have hD := D_eq (s_P_0) hD
  refine lv_aload_n hx hb d_P_goUp_32 rfl (lv_at hl 3 rfl) ?_
  refine lv_iconst (v := 0) hx hb d_P_goUp_33 (by decide) ?_
  refine lv_iload_n hx hb d_P_goUp_34 rfl (lv_at hl 2 rfl) ?_
  refine lv_iload_n hx hb d_P_goUp_35 rfl (lv_at hl 1 rfl) ?_
  refine lv_iadd hx hb d_P_goUp_36 ?_
  refine lv_aload_n hx hb d_P_goUp_37 rfl (lv_at hl 4 rfl) ?_
  have hF1 := free_all hD hS hA
  obtain ⟨y38, hq38, hM⟩ := bV_some hM
  refine va_callv (va_runV (As := [.int 0, .int (((σ 4).2 1 (0 : Int32).toNatClampNeg) + ((σ 4).2 1 (1 : Int32).toNatClampNeg)), .ref (ad 0 9)]) (rest := []) ⟨hx, hb, hml, hown, hts⟩ (c_P_growTo l dC dI ad cs _ N (w1 σ 4 0 (((σ 4).1 0) + 1)) 0 (((σ 4).2 1 (0 : Int32).toNatClampNeg) + ((σ 4).2 1 (1 : Int32).toNatClampNeg)) hq38) (cwV 3 hts (goodV k_538 k_540 ks_P_growTo k_3 k_541) rfl rfl rfl ⟨rfl, by decide, by decide, by decide +kernel⟩ ⟨Nat.le_of_ble_eq_true rfl, Nat.le_of_ble_eq_true rfl⟩) ⟨blindX, va_recv hK hP rfl (g_P), payX hP hK hD hN⟩ rfl rfl hl.1 rfl (lv_room (Nat.le_of_ble_eq_true rfl)) d_P_goUp_38 ⟨Nat.zero_le _, Nat.zero_le _⟩) hS (fun q _ h => hF1 q h) hF1 (fun σ38 t H locs ht hvm hpost hB hz1 hk1 hS => ?_)
  subst hpost
  obtain ⟨hP1, hK1, hD1⟩ := hB
  rw [ht] at hP1
  have hP := hP1
  have hD := hD1.weaken (fun _ _ _ h => hF1 _ h)
  refine lv_aload_n hx hb d_P_goUp_41 rfl (lv_at hl 3 rfl) ?_
  refine lv_iconst (v := 1) hx hb d_P_goUp_42 (by decide) ?_
  refine lv_iload_n hx hb d_P_goUp_43 rfl (lv_at hl 2 rfl) ?_
  refine lv_iload hx hb d_P_goUp_44 (lv_at hl 0 rfl) ?_
  refine lv_iadd hx hb d_P_goUp_46 ?_
  refine lv_aload_n hx hb d_P_goUp_47 rfl (lv_at hl 4 rfl) ?_
  have hF1 := free_all hD hS hA
  obtain ⟨y48, hq48, hM⟩ := bV_some hM
  refine va_callv (va_runV (As := [.int 1, .int (((σ 4).2 1 (0 : Int32).toNatClampNeg) + ((σ 4).2 1 (2 : Int32).toNatClampNeg)), .ref (ad 0 9)]) (rest := []) ⟨hx, hb, hml, hown, hts⟩ (c_P_growTo l dC dI ad cs _ N σ38 1 (((σ 4).2 1 (0 : Int32).toNatClampNeg) + ((σ 4).2 1 (2 : Int32).toNatClampNeg)) hq48) (cwV 3 hts (goodV k_538 k_540 ks_P_growTo k_3 k_541) rfl rfl rfl ⟨rfl, by decide, by decide, by decide +kernel⟩ ⟨Nat.le_of_ble_eq_true rfl, Nat.le_of_ble_eq_true rfl⟩) ⟨blindX, va_recv hK hP rfl (g_P), payX hP hK hD hN⟩ rfl rfl hl.1 rfl (lv_room (Nat.le_of_ble_eq_true rfl)) d_P_goUp_48 ⟨Nat.zero_le _, Nat.zero_le _⟩) hS (fun q _ h => hF1 q h) hF1 (fun σ48 t H locs ht hvm hpost hB hz1 hk1 hS => ?_)
  subst hpost
  obtain ⟨hP1, hK1, hD1⟩ := hB
  rw [ht] at hP1
  have hP := hP1
  have hD := hD1.weaken (fun _ _ _ h => hF1 _ h)
  refine lv_aload_n hx hb d_P_goUp_51 rfl (lv_at hl 3 rfl) ?_
  refine lv_iconst (v := 2) hx hb d_P_goUp_52 (by decide) ?_
  refine lv_iload_n hx hb d_P_goUp_53 rfl (lv_at hl 2 rfl) ?_
  refine lv_aload_n hx hb d_P_goUp_54 rfl (lv_at hl 4 rfl) ?_
  have hF1 := free_all hD hS hA
  obtain ⟨y55, hq55, hM⟩ := bV_some hM
  refine va_callv (va_runV (As := [.int 2, .int ((σ 4).2 1 (0 : Int32).toNatClampNeg), .ref (ad 0 9)]) (rest := []) ⟨hx, hb, hml, hown, hts⟩ (c_P_growTo l dC dI ad cs _ N σ48 2 ((σ 4).2 1 (0 : Int32).toNatClampNeg) hq55) (cwV 3 hts (goodV k_538 k_540 ks_P_growTo k_3 k_541) rfl rfl rfl ⟨rfl, by decide, by decide, by decide +kernel⟩ ⟨Nat.le_of_ble_eq_true rfl, Nat.le_of_ble_eq_true rfl⟩) ⟨blindX, va_recv hK hP rfl (g_P), payX hP hK hD hN⟩ rfl rfl hl.1 rfl (lv_room (Nat.le_of_ble_eq_true rfl)) d_P_goUp_55 ⟨Nat.zero_le _, Nat.zero_le _⟩) hS (fun q _ h => hF1 q h) hF1 (fun σ55 t H locs ht hvm hpost hB hz1 hk1 hS => ?_)
  subst hpost
  obtain ⟨hP1, hK1, hD1⟩ := hB
  rw [ht] at hP1
  have hP := hP1
  have hD := hD1.weaken (fun _ _ _ h => hF1 _ h)
  have e9 := Option.some.inj hM
  exact W.vret hx hb hr (fun t ht hW => ⟨⟨σ55, rfl, e9, by rw [ht]; exact hP, va_K.moved hW.alike hK, hD⟩, hS.F ht⟩) hS.2.2 d_P_goUp_58

theorem d_T_dummyCount_0 : decode b_T_dummyCount 0 = .ok (.aload_n 0, 1) := by decide +kernel
theorem d_T_dummyCount_1 : decode b_T_dummyCount 1 = .ok (.getfield 25, 3) := by decide +kernel
theorem d_T_dummyCount_4 : decode b_T_dummyCount 4 = .ok (.ireturn, 1) := by decide +kernel
def m_T_dummyCount (N : Nat) (σ : SX) (i : Nat) : Option (Int32 × SX) :=
  some (((σ (7 + i)).1 2), σ)

set_option maxHeartbeats 4000000 in
set_option maxRecDepth 100000 in
theorem c_T_dummyCount (l : Launch) (dC : Nat → ClassId) (dI : Nat → Nat → Nat) (ad : Nat → Nat → Nat) (cs : Nat → ClassId) (sz N : Nat) (σ : SX) (i : Nat) (hi : i < 4) {r0 : Int32} {σ0 : SX} (hM : m_T_dummyCount N σ i = some (r0, σ0)) : Met l y_T_dummyCount (wd y_T_dummyCount b_T_dummyCount 1 (some .int)) ({ frames := 0, cells := 0, slots := 0, locals := 0 }) (va_Pc [.ref (ad (7 + i) 0)] (preX dC dI ad cs sz σ)) (va_Qi (fun (r : Int32) (_ : Unit) => r = r0 ∧ σ = σ0) (fun _ _ => True) (fun q => sz ≤ q)) 0 0 (fun q => sz ≤ q) := by
  refine Met.ofW (cc := b_T_dummyCount) (maxL := 1) (ret := (some .int)) (by decide) rfl ?_
  intro p e s m args below meth c s₁ B hml hv
  obtain ⟨rfl, hsz, hP, hK, hD0, hN⟩ := hv
  have hx := B.exec
  have hb := B.bytes
  have hr := B.returns
  have hts := atoms_spec (ws := (wd y_T_dummyCount b_T_dummyCount 1 (some .int))) B.pre
  have htb : ∀ w ∈ tb, w.before _ s = true := fun w h => hts w (List.mem_cons_of_mem _ h)
  have hown : s.vm.findClass R_T = some m.cls := findClass_of_methodNamed B.named
  have hlocks := B.notSynchronized
  subst hsz
  have hD := hD0
  have hA : ∀ q : Nat, s.heap.size ≤ q → s.heap.size ≤ q := fun q h => h
  have hS : va_S (fun q => s.heap.size ≤ q) s.heap s.heap [] := va_S.rf
  have hP : va_P (dC, dI) classes (wX ad cs σ) s.heap := hP
  have hl := lv_entry ([.ref (ad (7 + i) 0)]) (n := 1) (Nat.le_of_ble_eq_true rfl)
  rw [lg_entry_eq]
  generalize (lg_sl ([.ref (ad (7 + i) 0)]) ++ List.replicate (1 - (lg_sl ([.ref (ad (7 + i) 0)])).length) Slot.unset).toArray = ls at hl ⊢
  have hl : lv_has ls 1 [(0, .ref (ad (7 + i) 0))] := hl
  rw [m_T_dummyCount] at hM
  refine lv_aload_n hx hb d_T_dummyCount_0 rfl (lv_at hl 0 rfl) ?_
  refine va_get (D := (dC, dI)) (ci := 6) (v := .int ((σ (7 + i)).1 2)) (C := R_T) (T := F_T) (N := 6) hx hb htb in_T hown hK hP (19 + 3 * i) (g_T hi) rfl 4 (by decide) (htb _ k_133) (fun _ h9 => h9) rfl d_T_dummyCount_1 ?_
  have e9 := Prod.mk.inj (Option.some.inj hM)
  exact W.iret (v := ((σ (7 + i)).1 2)) hx hb hr (fun t ht hW => ⟨⟨((σ (7 + i)).1 2), (), rfl, e9, trivial⟩, hS.F ht⟩) hS.2.2 d_T_dummyCount_4

theorem d_P_placeOfNextRun_0 : decode b_P_placeOfNextRun 0 = .ok (.aload_n 1, 1) := by decide +kernel
theorem d_P_placeOfNextRun_1 : decode b_P_placeOfNextRun 1 = .ok (.aload_n 0, 1) := by decide +kernel
theorem d_P_placeOfNextRun_2 : decode b_P_placeOfNextRun 2 = .ok (.getfield 19, 3) := by decide +kernel
theorem d_P_placeOfNextRun_5 : decode b_P_placeOfNextRun 5 = .ok (.aaload, 1) := by decide +kernel
theorem d_P_placeOfNextRun_6 : decode b_P_placeOfNextRun 6 = .ok (.invokevirtual 28, 3) := by decide +kernel
theorem d_P_placeOfNextRun_9 : decode b_P_placeOfNextRun 9 = .ok (.istore_n 2, 1) := by decide +kernel
theorem d_P_placeOfNextRun_10 : decode b_P_placeOfNextRun 10 = .ok (.aload_n 0, 1) := by decide +kernel
theorem d_P_placeOfNextRun_11 : decode b_P_placeOfNextRun 11 = .ok (.getfield 19, 3) := by decide +kernel
theorem d_P_placeOfNextRun_14 : decode b_P_placeOfNextRun 14 = .ok (.iconst 1, 1) := by decide +kernel
theorem d_P_placeOfNextRun_15 : decode b_P_placeOfNextRun 15 = .ok (.iadd, 1) := by decide +kernel
theorem d_P_placeOfNextRun_16 : decode b_P_placeOfNextRun 16 = .ok (.iconst 3, 1) := by decide +kernel
theorem d_P_placeOfNextRun_17 : decode b_P_placeOfNextRun 17 = .ok (.if_icmp .ge 33, 3) := by decide +kernel
theorem d_P_placeOfNextRun_20 : decode b_P_placeOfNextRun 20 = .ok (.iload_n 2, 1) := by decide +kernel
theorem d_P_placeOfNextRun_21 : decode b_P_placeOfNextRun 21 = .ok (.aload_n 1, 1) := by decide +kernel
theorem d_P_placeOfNextRun_22 : decode b_P_placeOfNextRun 22 = .ok (.aload_n 0, 1) := by decide +kernel
theorem d_P_placeOfNextRun_23 : decode b_P_placeOfNextRun 23 = .ok (.getfield 19, 3) := by decide +kernel
theorem d_P_placeOfNextRun_26 : decode b_P_placeOfNextRun 26 = .ok (.iconst 1, 1) := by decide +kernel
theorem d_P_placeOfNextRun_27 : decode b_P_placeOfNextRun 27 = .ok (.iadd, 1) := by decide +kernel
theorem d_P_placeOfNextRun_28 : decode b_P_placeOfNextRun 28 = .ok (.aaload, 1) := by decide +kernel
theorem d_P_placeOfNextRun_29 : decode b_P_placeOfNextRun 29 = .ok (.invokevirtual 28, 3) := by decide +kernel
theorem d_P_placeOfNextRun_32 : decode b_P_placeOfNextRun 32 = .ok (.if_icmp .ge 18, 3) := by decide +kernel
theorem d_P_placeOfNextRun_35 : decode b_P_placeOfNextRun 35 = .ok (.aload_n 0, 1) := by decide +kernel
theorem d_P_placeOfNextRun_36 : decode b_P_placeOfNextRun 36 = .ok (.dup, 1) := by decide +kernel
theorem d_P_placeOfNextRun_37 : decode b_P_placeOfNextRun 37 = .ok (.getfield 19, 3) := by decide +kernel
theorem d_P_placeOfNextRun_40 : decode b_P_placeOfNextRun 40 = .ok (.iconst 1, 1) := by decide +kernel
theorem d_P_placeOfNextRun_41 : decode b_P_placeOfNextRun 41 = .ok (.iadd, 1) := by decide +kernel
theorem d_P_placeOfNextRun_42 : decode b_P_placeOfNextRun 42 = .ok (.putfield 19, 3) := by decide +kernel
theorem d_P_placeOfNextRun_45 : decode b_P_placeOfNextRun 45 = .ok (.aload_n 0, 1) := by decide +kernel
theorem d_P_placeOfNextRun_46 : decode b_P_placeOfNextRun 46 = .ok (.getfield 19, 3) := by decide +kernel
theorem d_P_placeOfNextRun_49 : decode b_P_placeOfNextRun 49 = .ok (.ireturn, 1) := by decide +kernel
theorem d_P_placeOfNextRun_50 : decode b_P_placeOfNextRun 50 = .ok (.iload_n 2, 1) := by decide +kernel
theorem d_P_placeOfNextRun_51 : decode b_P_placeOfNextRun 51 = .ok (.ifCond .ne 8, 3) := by decide +kernel
theorem d_P_placeOfNextRun_54 : decode b_P_placeOfNextRun 54 = .ok (.aload_n 0, 1) := by decide +kernel
theorem d_P_placeOfNextRun_55 : decode b_P_placeOfNextRun 55 = .ok (.aload_n 1, 1) := by decide +kernel
theorem d_P_placeOfNextRun_56 : decode b_P_placeOfNextRun 56 = .ok (.invokevirtual 32, 3) := by decide +kernel
theorem d_P_placeOfNextRun_59 : decode b_P_placeOfNextRun 59 = .ok (.aload_n 0, 1) := by decide +kernel
theorem d_P_placeOfNextRun_60 : decode b_P_placeOfNextRun 60 = .ok (.iconst 0, 1) := by decide +kernel
theorem d_P_placeOfNextRun_61 : decode b_P_placeOfNextRun 61 = .ok (.putfield 19, 3) := by decide +kernel
theorem d_P_placeOfNextRun_64 : decode b_P_placeOfNextRun 64 = .ok (.aload_n 0, 1) := by decide +kernel
theorem d_P_placeOfNextRun_65 : decode b_P_placeOfNextRun 65 = .ok (.getfield 19, 3) := by decide +kernel
theorem d_P_placeOfNextRun_68 : decode b_P_placeOfNextRun 68 = .ok (.ireturn, 1) := by decide +kernel
def m_P_placeOfNextRun_50 (N : Nat) (σ : SX) (v2 : Int32) : Option (Int32 × SX) :=
    (if v2 = 0 then (bV (m_P_goUp N σ) fun σ56 => some ((((w1 σ56 4 1 0) 4).1 1), (w1 σ56 4 1 0))) else some ((((w1 σ 4 1 0) 4).1 1), (w1 σ 4 1 0)))

def m_P_placeOfNextRun (N : Nat) (σ : SX) : Option (Int32 × SX) :=
  (if inb ((σ 4).1 1) 4 = true then (bI (m_T_dummyCount N σ (((σ 4).1 1).toNatClampNeg)) fun r6 σ6 => (if 3 ≤ (((σ 4).1 1) + 1) then m_P_placeOfNextRun_50 N σ r6 else (if inb (((σ 4).1 1) + 1) 4 = true then (bI (m_T_dummyCount N σ ((((σ 4).1 1) + 1).toNatClampNeg)) fun r29 σ29 => (if r29 ≤ r6 then m_P_placeOfNextRun_50 N σ r6 else some ((((w1 σ 4 1 (((σ 4).1 1) + 1)) 4).1 1), (w1 σ 4 1 (((σ 4).1 1) + 1))))) else none))) else none)

set_option maxHeartbeats 4000000 in
set_option maxRecDepth 100000 in
theorem c_P_placeOfNextRun (l : Launch) (dC : Nat → ClassId) (dI : Nat → Nat → Nat) (ad : Nat → Nat → Nat) (cs : Nat → ClassId) (sz N : Nat) (σ : SX) {r0 : Int32} {σ0 : SX} (hM : m_P_placeOfNextRun N σ = some (r0, σ0)) : Met l y_P_placeOfNextRun (wd y_P_placeOfNextRun b_P_placeOfNextRun 3 (some .int)) ({ frames := 3, cells := 0, slots := 0, locals := 68 }) (va_Pc [.ref (ad 4 0), .ref (ad 0 9)] (preX dC dI ad cs sz σ)) (va_Qi (fun (r : Int32) (u : SX) => r = r0 ∧ u = σ0) (atX dC dI ad cs (va_A (wX ad cs σ) sz)) (va_A (wX ad cs σ) sz)) 0 0 (va_A (wX ad cs σ) sz) := by
  refine Met.ofW (cc := b_P_placeOfNextRun) (maxL := 3) (ret := (some .int)) (by decide) rfl ?_
  intro p e s m args below meth c s₁ B hml hv
  obtain ⟨rfl, hsz, hP, hK, hD0, hN⟩ := hv
  have hx := B.exec
  have hb := B.bytes
  have hr := B.returns
  have hts := atoms_spec (ws := (wd y_P_placeOfNextRun b_P_placeOfNextRun 3 (some .int))) B.pre
  have htb : ∀ w ∈ tb, w.before _ s = true := fun w h => hts w (List.mem_cons_of_mem _ h)
  have hown : s.vm.findClass R_P = some m.cls := findClass_of_methodNamed B.named
  have hlocks := B.notSynchronized
  subst hsz
  have hD := hD0.self (sz := s.heap.size)
  generalize hAe : va_A (wX ad cs σ) s.heap.size = A at hD ⊢
  have hA : ∀ q : Nat, s.heap.size ≤ q → A q := fun q h => by rw [← hAe]; exact Or.inr h
  have hS : va_S A s.heap s.heap [] := va_S.rf
  have hP : va_P (dC, dI) classes (wX ad cs σ) s.heap := hP
  have hl := lv_entry ([.ref (ad 4 0), .ref (ad 0 9)]) (n := 3) (Nat.le_of_ble_eq_true rfl)
  rw [lg_entry_eq]
  generalize (lg_sl ([.ref (ad 4 0), .ref (ad 0 9)]) ++ List.replicate (3 - (lg_sl ([.ref (ad 4 0), .ref (ad 0 9)])).length) Slot.unset).toArray = ls at hl ⊢
  have hl : lv_has ls 3 [(0, .ref (ad 4 0)), (1, .ref (ad 0 9))] := hl
  rw [m_P_placeOfNextRun] at hM
  refine W_cut (pc := 50) (fun H locs ls st => ∃ (σ : SX) (v2 : Int32), st = [] ∧ m_P_placeOfNextRun_50 N σ v2 = some (r0, σ0) ∧ lv_has ls 3 [(0, .ref (ad 4 0)), (1, .ref (ad 0 9)), (2, .int v2)] ∧ va_P (dC, dI) classes (wX ad cs σ) H ∧ va_D A (wX ad cs σ) ∧ va_S A s.heap H locs) ?_ ?_
  · intro H locs ls st hI
    obtain ⟨σ, v2, rfl, hM, hl, hP, hD, hS⟩ := hI
    rw [m_P_placeOfNextRun_50] at hM
    refine lv_iload_n hx hb d_P_placeOfNextRun_50 rfl (lv_at hl 2 rfl) ?_
    refine lv_if_ne (tgt := 59) hx hb d_P_placeOfNextRun_51 (by decide) (fun h51 => ?_) (fun h51 => ?_)
    · rw [if_neg h51] at hM
      refine lv_aload_n hx hb d_P_placeOfNextRun_59 rfl (lv_at hl 0 rfl) ?_
      refine lv_iconst (v := 0) hx hb d_P_placeOfNextRun_60 (by decide) ?_
      refine va_put (D := (dC, dI)) (ci := 3) (v := .int 0) (ty := .int) (C := R_P) (T := F_P) (N := 3) hx hb htb in_P ft_P ft_P_ok n_P hown hK hP hD hS 13 (g_P) rfl 2 (by decide) (htb _ k_57) (fun _ h9 => h9) rfl (by decide +kernel) rfl rfl (Nat.le_of_ble_eq_true rfl) d_P_placeOfNextRun_61 (fun H locs hP hD hS => ?_)
      have hP := P_eq (s_P_1) hP
      have hD := D_eq (s_P_1) hD
      refine lv_aload_n hx hb d_P_placeOfNextRun_64 rfl (lv_at hl 0 rfl) ?_
      refine va_get (D := (dC, dI)) (ci := 3) (v := .int (((w1 σ 4 1 0) 4).1 1)) (C := R_P) (T := F_P) (N := 3) hx hb htb in_P hown hK hP 13 (g_P) rfl 2 (by decide) (htb _ k_57) (fun _ h9 => h9) rfl d_P_placeOfNextRun_65 ?_
      have e9 := Prod.mk.inj (Option.some.inj hM)
      exact W.iret (v := (((w1 σ 4 1 0) 4).1 1)) hx hb hr (fun t ht hW => ⟨⟨(((w1 σ 4 1 0) 4).1 1), (w1 σ 4 1 0), rfl, e9, by rw [ht]; exact hP, va_K.moved hW.alike hK, hD⟩, hS.F ht⟩) hS.2.2 d_P_placeOfNextRun_68
    · rw [if_pos h51] at hM
      refine lv_aload_n hx hb d_P_placeOfNextRun_54 rfl (lv_at hl 0 rfl) ?_
      refine lv_aload_n hx hb d_P_placeOfNextRun_55 rfl (lv_at hl 1 rfl) ?_
      have hF1 := free_all hD hS hA
      obtain ⟨y56, hq56, hM⟩ := bV_some hM
      refine va_callv (va_runV (As := [.ref (ad 0 9)]) (rest := []) ⟨hx, hb, hml, hown, hts⟩ (c_P_goUp l dC dI ad cs _ N σ hq56) (cwV 1 hts (goodV k_534 k_536 ks_P_goUp k_3 k_537) rfl rfl rfl ⟨rfl, by decide, by decide, by decide +kernel⟩ ⟨Nat.le_of_ble_eq_true rfl, Nat.le_of_ble_eq_true rfl⟩) ⟨blindX, va_recv hK hP rfl (g_P), payX hP hK hD hN⟩ rfl rfl hl.1 rfl (lv_room (Nat.le_of_ble_eq_true rfl)) d_P_placeOfNextRun_56 ⟨Nat.zero_le _, Nat.zero_le _⟩) hS (fun q _ h => hF1 q h) hF1 (fun σ56 t H locs ht hvm hpost hB hz1 hk1 hS => ?_)
      subst hpost
      obtain ⟨hP1, hK1, hD1⟩ := hB
      rw [ht] at hP1
      have hP := hP1
      have hD := hD1.weaken (fun _ _ _ h => hF1 _ h)
      refine lv_aload_n hx hb d_P_placeOfNextRun_59 rfl (lv_at hl 0 rfl) ?_
      refine lv_iconst (v := 0) hx hb d_P_placeOfNextRun_60 (by decide) ?_
      refine va_put (D := (dC, dI)) (ci := 3) (v := .int 0) (ty := .int) (C := R_P) (T := F_P) (N := 3) hx hb htb in_P ft_P ft_P_ok n_P hown hK hP hD hS 13 (g_P) rfl 2 (by decide) (htb _ k_57) (fun _ h9 => h9) rfl (by decide +kernel) rfl rfl (Nat.le_of_ble_eq_true rfl) d_P_placeOfNextRun_61 (fun H locs hP hD hS => ?_)
      have hP := P_eq (s_P_1) hP
      have hD := D_eq (s_P_1) hD
      refine lv_aload_n hx hb d_P_placeOfNextRun_64 rfl (lv_at hl 0 rfl) ?_
      refine va_get (D := (dC, dI)) (ci := 3) (v := .int (((w1 σ56 4 1 0) 4).1 1)) (C := R_P) (T := F_P) (N := 3) hx hb htb in_P hown hK hP 13 (g_P) rfl 2 (by decide) (htb _ k_57) (fun _ h9 => h9) rfl d_P_placeOfNextRun_65 ?_
      have e9 := Prod.mk.inj (Option.some.inj hM)
      exact W.iret (v := (((w1 σ56 4 1 0) 4).1 1)) hx hb hr (fun t ht hW => ⟨⟨(((w1 σ56 4 1 0) 4).1 1), (w1 σ56 4 1 0), rfl, e9, by rw [ht]; exact hP, va_K.moved hW.alike hK, hD⟩, hS.F ht⟩) hS.2.2 d_P_placeOfNextRun_68
  intro K50
  refine lv_aload_n hx hb d_P_placeOfNextRun_0 rfl (lv_at hl 1 rfl) ?_
  refine lv_aload_n hx hb d_P_placeOfNextRun_1 rfl (lv_at hl 0 rfl) ?_
  refine va_get (D := (dC, dI)) (ci := 3) (v := .int ((σ 4).1 1)) (C := R_P) (T := F_P) (N := 3) hx hb htb in_P hown hK hP 13 (g_P) rfl 2 (by decide) (htb _ k_57) (fun _ h9 => h9) rfl d_P_placeOfNextRun_2 ?_
  have hg5 := gd_c hM
  have hM := gd_v hM
  refine va_aldq hx hb hK hP 18 2 (f := fun i => some (ad (7 + i) 0)) g_tapes rfl (inb_in hg5) d_P_placeOfNextRun_5 ?_
  refine W.eq (g2 := F0 m 6 ls [.ref (ad (7 + ((σ 4).1 1).toNatClampNeg) 0)]) rfl ?_
  obtain ⟨x6, y6, hq6, hM⟩ := bI_some hM
  refine va_calli (va_runV (As := []) (rest := []) ⟨hx, hb, hml, hown, hts⟩ (c_T_dummyCount l dC dI ad cs _ N σ (((σ 4).1 1).toNatClampNeg) (inb_lt hg5) hq6) (cwV 0 hts (goodV k_533 k_257 k_258 k_7 k_259) rfl rfl rfl ⟨rfl, by decide, by decide, by decide +kernel⟩ ⟨Nat.le_of_ble_eq_true rfl, Nat.le_of_ble_eq_true rfl⟩) ⟨blindX, va_recv hK hP rfl (g_T (inb_lt hg5)), payX hP hK hD hN⟩ rfl rfl hl.1 rfl (lv_room (Nat.le_of_ble_eq_true rfl)) d_P_placeOfNextRun_6 ⟨Nat.zero_le _, Nat.zero_le _⟩) hS (fun q h0 h => absurd h0 (Nat.not_lt.mpr h)) (fun q h => hA q (Nat.le_trans hS.1 h)) (fun r6 u t H locs ht hvm hpost hB hz1 hk1 hS => ?_)
  obtain ⟨e1, e2⟩ := hpost
  subst e1
  subst e2
  have hP := keepP hP hk1
  refine lv_istore_n hx hb d_P_placeOfNextRun_9 rfl hl (by decide) (lv' := [(2, .int r6), (0, .ref (ad 4 0)), (1, .ref (ad 0 9))]) rfl (fun ls hl => ?_)
  refine lv_aload_n hx hb d_P_placeOfNextRun_10 rfl (lv_at hl 1 rfl) ?_
  refine va_get (D := (dC, dI)) (ci := 3) (v := .int ((σ 4).1 1)) (C := R_P) (T := F_P) (N := 3) hx hb htb in_P hown hK hP 13 (g_P) rfl 2 (by decide) (htb _ k_57) (fun _ h9 => h9) rfl d_P_placeOfNextRun_11 ?_
  refine lv_iconst (v := 1) hx hb d_P_placeOfNextRun_14 (by decide) ?_
  refine lv_iadd hx hb d_P_placeOfNextRun_15 ?_
  refine lv_iconst (v := 3) hx hb d_P_placeOfNextRun_16 (by decide) ?_
  refine lv_icmp_ge (tgt := 50) hx hb d_P_placeOfNextRun_17 (by decide) (fun h17 => ?_) (fun h17 => ?_)
  · rw [if_pos h17] at hM
    exact K50 _ _ _ _ ⟨σ, r6, rfl, hM, lv_sub hl [1, 2, 0] rfl, hP, hD, hS⟩
  · rw [if_neg h17] at hM
    refine lv_iload_n hx hb d_P_placeOfNextRun_20 rfl (lv_at hl 0 rfl) ?_
    refine lv_aload_n hx hb d_P_placeOfNextRun_21 rfl (lv_at hl 2 rfl) ?_
    refine lv_aload_n hx hb d_P_placeOfNextRun_22 rfl (lv_at hl 1 rfl) ?_
    refine va_get (D := (dC, dI)) (ci := 3) (v := .int ((σ 4).1 1)) (C := R_P) (T := F_P) (N := 3) hx hb htb in_P hown hK hP 13 (g_P) rfl 2 (by decide) (htb _ k_57) (fun _ h9 => h9) rfl d_P_placeOfNextRun_23 ?_
    refine lv_iconst (v := 1) hx hb d_P_placeOfNextRun_26 (by decide) ?_
    refine lv_iadd hx hb d_P_placeOfNextRun_27 ?_
    have hg28 := gd_c hM
    have hM := gd_v hM
    refine va_aldq hx hb hK hP 18 2 (f := fun i => some (ad (7 + i) 0)) g_tapes rfl (inb_in hg28) d_P_placeOfNextRun_28 ?_
    refine W.eq (g2 := F0 m 29 ls [.ref (ad (7 + (((σ 4).1 1) + 1).toNatClampNeg) 0), .int r6]) rfl ?_
    obtain ⟨x29, y29, hq29, hM⟩ := bI_some hM
    refine va_calli (va_runV (As := []) (rest := [.int r6]) ⟨hx, hb, hml, hown, hts⟩ (c_T_dummyCount l dC dI ad cs _ N σ ((((σ 4).1 1) + 1).toNatClampNeg) (inb_lt hg28) hq29) (cwV 0 hts (goodV k_533 k_257 k_258 k_7 k_259) rfl rfl rfl ⟨rfl, by decide, by decide, by decide +kernel⟩ ⟨Nat.le_of_ble_eq_true rfl, Nat.le_of_ble_eq_true rfl⟩) ⟨blindX, va_recv hK hP rfl (g_T (inb_lt hg28)), payX hP hK hD hN⟩ rfl rfl hl.1 rfl (lv_room (Nat.le_of_ble_eq_true rfl)) d_P_placeOfNextRun_29 ⟨Nat.zero_le _, Nat.zero_le _⟩) hS (fun q h0 h => absurd h0 (Nat.not_lt.mpr h)) (fun q h => hA q (Nat.le_trans hS.1 h)) (fun r29 u t H locs ht hvm hpost hB hz1 hk1 hS => ?_)
    obtain ⟨e1, e2⟩ := hpost
    subst e1
    subst e2
    have hP := keepP hP hk1
    refine lv_icmp_ge (tgt := 50) hx hb d_P_placeOfNextRun_32 (by decide) (fun h32 => ?_) (fun h32 => ?_)
    · rw [if_pos h32] at hM
      exact K50 _ _ _ _ ⟨σ, r6, rfl, hM, lv_sub hl [1, 2, 0] rfl, hP, hD, hS⟩
    · rw [if_neg h32] at hM
      refine lv_aload_n hx hb d_P_placeOfNextRun_35 rfl (lv_at hl 1 rfl) ?_
      refine lv_dup hx hb d_P_placeOfNextRun_36 rfl ?_
      refine va_get (D := (dC, dI)) (ci := 3) (v := .int ((σ 4).1 1)) (C := R_P) (T := F_P) (N := 3) hx hb htb in_P hown hK hP 13 (g_P) rfl 2 (by decide) (htb _ k_57) (fun _ h9 => h9) rfl d_P_placeOfNextRun_37 ?_
      refine lv_iconst (v := 1) hx hb d_P_placeOfNextRun_40 (by decide) ?_
      refine lv_iadd hx hb d_P_placeOfNextRun_41 ?_
      refine va_put (D := (dC, dI)) (ci := 3) (v := .int (((σ 4).1 1) + 1)) (ty := .int) (C := R_P) (T := F_P) (N := 3) hx hb htb in_P ft_P ft_P_ok n_P hown hK hP hD hS 13 (g_P) rfl 2 (by decide) (htb _ k_57) (fun _ h9 => h9) rfl (by decide +kernel) rfl rfl (Nat.le_of_ble_eq_true rfl) d_P_placeOfNextRun_42 (fun H locs hP hD hS => ?_)
      have hP := P_eq (s_P_1) hP
      have hD := D_eq (s_P_1) hD
      refine lv_aload_n hx hb d_P_placeOfNextRun_45 rfl (lv_at hl 1 rfl) ?_
      refine va_get (D := (dC, dI)) (ci := 3) (v := .int (((w1 σ 4 1 (((σ 4).1 1) + 1)) 4).1 1)) (C := R_P) (T := F_P) (N := 3) hx hb htb in_P hown hK hP 13 (g_P) rfl 2 (by decide) (htb _ k_57) (fun _ h9 => h9) rfl d_P_placeOfNextRun_46 ?_
      have e9 := Prod.mk.inj (Option.some.inj hM)
      exact W.iret (v := (((w1 σ 4 1 (((σ 4).1 1) + 1)) 4).1 1)) hx hb hr (fun t ht hW => ⟨⟨(((w1 σ 4 1 (((σ 4).1 1) + 1)) 4).1 1), (w1 σ 4 1 (((σ 4).1 1) + 1)), rfl, e9, by rw [ht]; exact hP, va_K.moved hW.alike hK, hD⟩, hS.F ht⟩) hS.2.2 d_P_placeOfNextRun_49

theorem d_O_layRun_0 : decode b_O_layRun 0 = .ok (.aload_n 0, 1) := by decide +kernel
theorem d_O_layRun_1 : decode b_O_layRun 1 = .ok (.getfield 69, 3) := by decide +kernel
theorem d_O_layRun_4 : decode b_O_layRun 4 = .ok (.aload_n 0, 1) := by decide +kernel
theorem d_O_layRun_5 : decode b_O_layRun 5 = .ok (.getfield 65, 3) := by decide +kernel
theorem d_O_layRun_8 : decode b_O_layRun 8 = .ok (.invokevirtual 175, 3) := by decide +kernel
theorem d_O_layRun_11 : decode b_O_layRun 11 = .ok (.aload_n 0, 1) := by decide +kernel
theorem d_O_layRun_12 : decode b_O_layRun 12 = .ok (.invokevirtual 179, 3) := by decide +kernel
theorem d_O_layRun_15 : decode b_O_layRun 15 = .ok (.ifCond .ne 5, 3) := by decide +kernel
theorem d_O_layRun_18 : decode b_O_layRun 18 = .ok (.iconst 0, 1) := by decide +kernel
theorem d_O_layRun_19 : decode b_O_layRun 19 = .ok (.ireturn, 1) := by decide +kernel
theorem d_O_layRun_20 : decode b_O_layRun 20 = .ok (.aload_n 0, 1) := by decide +kernel
theorem d_O_layRun_21 : decode b_O_layRun 21 = .ok (.getfield 69, 3) := by decide +kernel
theorem d_O_layRun_24 : decode b_O_layRun 24 = .ok (.invokevirtual 182, 3) := by decide +kernel
theorem d_O_layRun_27 : decode b_O_layRun 27 = .ok (.aload_n 0, 1) := by decide +kernel
theorem d_O_layRun_28 : decode b_O_layRun 28 = .ok (.getfield 65, 3) := by decide +kernel
theorem d_O_layRun_31 : decode b_O_layRun 31 = .ok (.aload_n 0, 1) := by decide +kernel
theorem d_O_layRun_32 : decode b_O_layRun 32 = .ok (.getfield 69, 3) := by decide +kernel
theorem d_O_layRun_35 : decode b_O_layRun 35 = .ok (.invokevirtual 175, 3) := by decide +kernel
theorem d_O_layRun_38 : decode b_O_layRun 38 = .ok (.aload_n 0, 1) := by decide +kernel
theorem d_O_layRun_39 : decode b_O_layRun 39 = .ok (.getfield 39, 3) := by decide +kernel
theorem d_O_layRun_42 : decode b_O_layRun 42 = .ok (.aload_n 0, 1) := by decide +kernel
theorem d_O_layRun_43 : decode b_O_layRun 43 = .ok (.getfield 19, 3) := by decide +kernel
theorem d_O_layRun_46 : decode b_O_layRun 46 = .ok (.aload_n 0, 1) := by decide +kernel
theorem d_O_layRun_47 : decode b_O_layRun 47 = .ok (.getfield 39, 3) := by decide +kernel
theorem d_O_layRun_50 : decode b_O_layRun 50 = .ok (.invokevirtual 185, 3) := by decide +kernel
theorem d_O_layRun_53 : decode b_O_layRun 53 = .ok (.aaload, 1) := by decide +kernel
theorem d_O_layRun_54 : decode b_O_layRun 54 = .ok (.astore_n 1, 1) := by decide +kernel
theorem d_O_layRun_55 : decode b_O_layRun 55 = .ok (.aload_n 1, 1) := by decide +kernel
theorem d_O_layRun_56 : decode b_O_layRun 56 = .ok (.iconst (-1), 1) := by decide +kernel
theorem d_O_layRun_57 : decode b_O_layRun 57 = .ok (.invokevirtual 189, 3) := by decide +kernel
theorem d_O_layRun_60 : decode b_O_layRun 60 = .ok (.aload_n 1, 1) := by decide +kernel
theorem d_O_layRun_61 : decode b_O_layRun 61 = .ok (.aload_n 0, 1) := by decide +kernel
theorem d_O_layRun_62 : decode b_O_layRun 62 = .ok (.getfield 33, 3) := by decide +kernel
theorem d_O_layRun_65 : decode b_O_layRun 65 = .ok (.invokevirtual 192, 3) := by decide +kernel
theorem d_O_layRun_68 : decode b_O_layRun 68 = .ok (.aload_n 0, 1) := by decide +kernel
theorem d_O_layRun_69 : decode b_O_layRun 69 = .ok (.getfield 65, 3) := by decide +kernel
theorem d_O_layRun_72 : decode b_O_layRun 72 = .ok (.invokevirtual 105, 3) := by decide +kernel
theorem d_O_layRun_75 : decode b_O_layRun 75 = .ok (.ifCond .eq 8, 3) := by decide +kernel
theorem d_O_layRun_78 : decode b_O_layRun 78 = .ok (.aload_n 0, 1) := by decide +kernel
theorem d_O_layRun_79 : decode b_O_layRun 79 = .ok (.iconst 2, 1) := by decide +kernel
theorem d_O_layRun_80 : decode b_O_layRun 80 = .ok (.putfield 53, 3) := by decide +kernel
theorem d_O_layRun_83 : decode b_O_layRun 83 = .ok (.iconst 1, 1) := by decide +kernel
theorem d_O_layRun_84 : decode b_O_layRun 84 = .ok (.ireturn, 1) := by decide +kernel
def m_O_layRun (N : Nat) (σ : SX) : Option (Int32 × SX) :=
  (bV (m_S_copyFrom N σ 3 2) fun σ8 => (bI (m_O_writeRunFromTrial N σ8) fun r12 σ12 => (if r12 = 0 then some (0, σ12) else (bV (m_S_turnToNextRun N σ12 3) fun σ24 => (bV (m_S_copyFrom N σ24 2 3) fun σ35 => (bI (m_P_placeOfNextRun N σ35) fun r50 σ50 => (if inb r50 4 = true then (bV (m_T_addDummies N σ50 r50.toNatClampNeg (-1)) fun σ57 => (bV (m_T_append N σ57 r50.toNatClampNeg) fun σ65 => (bI (m_S_isEmpty N σ65 2) fun r72 σ72 => (if r72 = 0 then some (1, σ65) else some (1, (w1 σ65 0 0 2)))))) else none)))))))

set_option maxHeartbeats 4000000 in
set_option maxRecDepth 100000 in
theorem c_O_layRun (l : Launch) (dC : Nat → ClassId) (dI : Nat → Nat → Nat) (ad : Nat → Nat → Nat) (cs : Nat → ClassId) (sz N : Nat) (σ : SX) {r0 : Int32} {σ0 : SX} (hM : m_O_layRun N σ = some (r0, σ0)) : Met l y_O_layRun (wd y_O_layRun b_O_layRun 2 (some .boolean)) ({ frames := 5, cells := 0, slots := 0, locals := 115 }) (va_Pc [.ref (ad 0 0)] (preX dC dI ad cs sz σ)) (va_Qi (fun (r : Int32) (u : SX) => r = r0 ∧ u = σ0) (atX dC dI ad cs (va_A (wX ad cs σ) sz)) (va_A (wX ad cs σ) sz)) 0 0 (va_A (wX ad cs σ) sz) := by
  refine Met.ofW (cc := b_O_layRun) (maxL := 2) (ret := (some .boolean)) (by decide) rfl ?_
  intro p e s m args below meth c s₁ B hml hv
  obtain ⟨rfl, hsz, hP, hK, hD0, hN⟩ := hv
  have hx := B.exec
  have hb := B.bytes
  have hr := B.returns
  have hts := atoms_spec (ws := (wd y_O_layRun b_O_layRun 2 (some .boolean))) B.pre
  have htb : ∀ w ∈ tb, w.before _ s = true := fun w h => hts w (List.mem_cons_of_mem _ h)
  have hown : s.vm.findClass R_O = some m.cls := findClass_of_methodNamed B.named
  have hlocks := B.notSynchronized
  subst hsz
  have hD := hD0.self (sz := s.heap.size)
  generalize hAe : va_A (wX ad cs σ) s.heap.size = A at hD ⊢
  have hA : ∀ q : Nat, s.heap.size ≤ q → A q := fun q h => by rw [← hAe]; exact Or.inr h
  have hS : va_S A s.heap s.heap [] := va_S.rf
  have hP : va_P (dC, dI) classes (wX ad cs σ) s.heap := hP
  have hl := lv_entry ([.ref (ad 0 0)]) (n := 2) (Nat.le_of_ble_eq_true rfl)
  rw [lg_entry_eq]
  generalize (lg_sl ([.ref (ad 0 0)]) ++ List.replicate (2 - (lg_sl ([.ref (ad 0 0)])).length) Slot.unset).toArray = ls at hl ⊢
  have hl : lv_has ls 2 [(0, .ref (ad 0 0))] := hl
  rw [m_O_layRun] at hM
  refine lv_aload_n hx hb d_O_layRun_0 rfl (lv_at hl 0 rfl) ?_
  refine va_get (D := (dC, dI)) (ci := 0) (v := .ref (ad 3 0)) (C := R_O) (T := F_O) (N := 12) hx hb htb in_O hown hK hP 0 (g_O) rfl 2 (by decide) (htb _ k_150) (fun _ h9 => h9) rfl d_O_layRun_1 ?_
  refine lv_aload_n hx hb d_O_layRun_4 rfl (lv_at hl 0 rfl) ?_
  refine va_get (D := (dC, dI)) (ci := 0) (v := .ref (ad 2 0)) (C := R_O) (T := F_O) (N := 12) hx hb htb in_O hown hK hP 0 (g_O) rfl 1 (by decide) (htb _ k_149) (fun _ h9 => h9) rfl d_O_layRun_5 ?_
  have hF1 := free_all hD hS hA
  obtain ⟨y8, hq8, hM⟩ := bV_some hM
  refine va_callv (va_runV (As := [.ref (ad 2 0)]) (rest := []) ⟨hx, hb, hml, hown, hts⟩ (c_S_copyFrom l dC dI ad cs _ N σ 3 (Or.inr rfl) 2 (Or.inl rfl) hq8) (cwV 1 hts (goodV k_491 k_492 k_493 k_6 k_494) rfl rfl rfl ⟨rfl, by decide, by decide, by decide +kernel⟩ ⟨Nat.le_of_ble_eq_true rfl, Nat.le_of_ble_eq_true rfl⟩) ⟨blindX, va_recv hK hP rfl (g_S (Or.inr rfl)), payX hP hK hD hN⟩ rfl rfl hl.1 rfl (lv_room (Nat.le_of_ble_eq_true rfl)) d_O_layRun_8 ⟨Nat.zero_le _, Nat.zero_le _⟩) hS (fun q _ h => hF1 q h) hF1 (fun σ8 t H locs ht hvm hpost hB hz1 hk1 hS => ?_)
  subst hpost
  obtain ⟨hP1, hK1, hD1⟩ := hB
  rw [ht] at hP1
  have hP := hP1
  have hD := hD1.weaken (fun _ _ _ h => hF1 _ h)
  refine lv_aload_n hx hb d_O_layRun_11 rfl (lv_at hl 0 rfl) ?_
  have hF1 := free_all hD hS hA
  obtain ⟨x12, y12, hq12, hM⟩ := bI_some hM
  refine va_calli (va_runV (As := []) (rest := []) ⟨hx, hb, hml, hown, hts⟩ (c_O_writeRunFromTrial l dC dI ad cs _ N σ8 hq12) (cwV 0 hts (goodV k_495 k_497 ks_O_writeRunFromTrial k_1 k_498) rfl rfl rfl ⟨rfl, by decide, by decide, by decide +kernel⟩ ⟨Nat.le_of_ble_eq_true rfl, Nat.le_of_ble_eq_true rfl⟩) ⟨blindX, va_recv hK hP rfl (g_O), payX hP hK hD hN⟩ rfl rfl hl.1 rfl (lv_room (Nat.le_of_ble_eq_true rfl)) d_O_layRun_12 ⟨Nat.zero_le _, Nat.zero_le _⟩) hS (fun q _ h => hF1 q h) hF1 (fun r12 σ12 t H locs ht hvm hpost hB hz1 hk1 hS => ?_)
  obtain ⟨e1, e2⟩ := hpost
  subst e1
  subst e2
  obtain ⟨hP1, hK1, hD1⟩ := hB
  rw [ht] at hP1
  have hP := hP1
  have hD := hD1.weaken (fun _ _ _ h => hF1 _ h)
  refine lv_if_ne (tgt := 20) hx hb d_O_layRun_15 (by decide) (fun h15 => ?_) (fun h15 => ?_)
  · rw [if_neg h15] at hM
    refine lv_aload_n hx hb d_O_layRun_20 rfl (lv_at hl 0 rfl) ?_
    refine va_get (D := (dC, dI)) (ci := 0) (v := .ref (ad 3 0)) (C := R_O) (T := F_O) (N := 12) hx hb htb in_O hown hK hP 0 (g_O) rfl 2 (by decide) (htb _ k_150) (fun _ h9 => h9) rfl d_O_layRun_21 ?_
    have hF1 := free_all hD hS hA
    obtain ⟨y24, hq24, hM⟩ := bV_some hM
    refine va_callv (va_runV (As := []) (rest := []) ⟨hx, hb, hml, hown, hts⟩ (c_S_turnToNextRun l dC dI ad cs _ N σ12 3 (Or.inr rfl) hq24) (cwV 0 hts (goodV k_525 k_526 k_527 k_6 k_528) rfl rfl rfl ⟨rfl, by decide, by decide, by decide +kernel⟩ ⟨Nat.le_of_ble_eq_true rfl, Nat.le_of_ble_eq_true rfl⟩) ⟨blindX, va_recv hK hP rfl (g_S (Or.inr rfl)), payX hP hK hD hN⟩ rfl rfl hl.1 rfl (lv_room (Nat.le_of_ble_eq_true rfl)) d_O_layRun_24 ⟨Nat.zero_le _, Nat.zero_le _⟩) hS (fun q _ h => hF1 q h) hF1 (fun σ24 t H locs ht hvm hpost hB hz1 hk1 hS => ?_)
    subst hpost
    obtain ⟨hP1, hK1, hD1⟩ := hB
    rw [ht] at hP1
    have hP := hP1
    have hD := hD1.weaken (fun _ _ _ h => hF1 _ h)
    refine lv_aload_n hx hb d_O_layRun_27 rfl (lv_at hl 0 rfl) ?_
    refine va_get (D := (dC, dI)) (ci := 0) (v := .ref (ad 2 0)) (C := R_O) (T := F_O) (N := 12) hx hb htb in_O hown hK hP 0 (g_O) rfl 1 (by decide) (htb _ k_149) (fun _ h9 => h9) rfl d_O_layRun_28 ?_
    refine lv_aload_n hx hb d_O_layRun_31 rfl (lv_at hl 0 rfl) ?_
    refine va_get (D := (dC, dI)) (ci := 0) (v := .ref (ad 3 0)) (C := R_O) (T := F_O) (N := 12) hx hb htb in_O hown hK hP 0 (g_O) rfl 2 (by decide) (htb _ k_150) (fun _ h9 => h9) rfl d_O_layRun_32 ?_
    have hF1 := free_all hD hS hA
    obtain ⟨y35, hq35, hM⟩ := bV_some hM
    refine va_callv (va_runV (As := [.ref (ad 3 0)]) (rest := []) ⟨hx, hb, hml, hown, hts⟩ (c_S_copyFrom l dC dI ad cs _ N σ24 2 (Or.inl rfl) 3 (Or.inr rfl) hq35) (cwV 1 hts (goodV k_491 k_492 k_493 k_6 k_494) rfl rfl rfl ⟨rfl, by decide, by decide, by decide +kernel⟩ ⟨Nat.le_of_ble_eq_true rfl, Nat.le_of_ble_eq_true rfl⟩) ⟨blindX, va_recv hK hP rfl (g_S (Or.inl rfl)), payX hP hK hD hN⟩ rfl rfl hl.1 rfl (lv_room (Nat.le_of_ble_eq_true rfl)) d_O_layRun_35 ⟨Nat.zero_le _, Nat.zero_le _⟩) hS (fun q _ h => hF1 q h) hF1 (fun σ35 t H locs ht hvm hpost hB hz1 hk1 hS => ?_)
    subst hpost
    obtain ⟨hP1, hK1, hD1⟩ := hB
    rw [ht] at hP1
    have hP := hP1
    have hD := hD1.weaken (fun _ _ _ h => hF1 _ h)
    refine lv_aload_n hx hb d_O_layRun_38 rfl (lv_at hl 0 rfl) ?_
    refine va_get (D := (dC, dI)) (ci := 0) (v := .ref (ad 0 9)) (C := R_O) (T := F_O) (N := 12) hx hb htb in_O hown hK hP 0 (g_O) rfl 6 (by decide) (htb _ k_154) (fun _ h9 => h9) rfl d_O_layRun_39 ?_
    refine lv_aload_n hx hb d_O_layRun_42 rfl (lv_at hl 0 rfl) ?_
    refine va_get (D := (dC, dI)) (ci := 0) (v := .ref (ad 4 0)) (C := R_O) (T := F_O) (N := 12) hx hb htb in_O hown hK hP 0 (g_O) rfl 3 (by decide) (htb _ k_151) (fun _ h9 => h9) rfl d_O_layRun_43 ?_
    refine lv_aload_n hx hb d_O_layRun_46 rfl (lv_at hl 0 rfl) ?_
    refine va_get (D := (dC, dI)) (ci := 0) (v := .ref (ad 0 9)) (C := R_O) (T := F_O) (N := 12) hx hb htb in_O hown hK hP 0 (g_O) rfl 6 (by decide) (htb _ k_154) (fun _ h9 => h9) rfl d_O_layRun_47 ?_
    have hF1 := free_all hD hS hA
    obtain ⟨x50, y50, hq50, hM⟩ := bI_some hM
    refine va_calli (va_runV (As := [.ref (ad 0 9)]) (rest := [.ref (ad 0 9)]) ⟨hx, hb, hml, hown, hts⟩ (c_P_placeOfNextRun l dC dI ad cs _ N σ35 hq50) (cwV 1 hts (goodV k_529 k_530 k_531 k_3 k_532) rfl rfl rfl ⟨rfl, by decide, by decide, by decide +kernel⟩ ⟨Nat.le_of_ble_eq_true rfl, Nat.le_of_ble_eq_true rfl⟩) ⟨blindX, va_recv hK hP rfl (g_P), payX hP hK hD hN⟩ rfl rfl hl.1 rfl (lv_room (Nat.le_of_ble_eq_true rfl)) d_O_layRun_50 ⟨Nat.zero_le _, Nat.zero_le _⟩) hS (fun q _ h => hF1 q h) hF1 (fun r50 σ50 t H locs ht hvm hpost hB hz1 hk1 hS => ?_)
    obtain ⟨e1, e2⟩ := hpost
    subst e1
    subst e2
    obtain ⟨hP1, hK1, hD1⟩ := hB
    rw [ht] at hP1
    have hP := hP1
    have hD := hD1.weaken (fun _ _ _ h => hF1 _ h)
    have hg53 := gd_c hM
    have hM := gd_v hM
    refine va_aldq hx hb hK hP 18 2 (f := fun i => some (ad (7 + i) 0)) g_tapes rfl (inb_in hg53) d_O_layRun_53 ?_
    refine W.eq (g2 := F0 m 54 ls [.ref (ad (7 + r50.toNatClampNeg) 0)]) rfl ?_
    refine lv_astore_n hx hb d_O_layRun_54 rfl hl (by decide) (lv' := [(1, .ref (ad (7 + r50.toNatClampNeg) 0)), (0, .ref (ad 0 0))]) rfl (fun ls hl => ?_)
    refine lv_aload_n hx hb d_O_layRun_55 rfl (lv_at hl 0 rfl) ?_
    refine lv_iconst (v := (-1)) hx hb d_O_layRun_56 (by decide) ?_
    have hF1 := free_all hD hS hA
    obtain ⟨y57, hq57, hM⟩ := bV_some hM
    refine va_callv (va_runV (As := [.int (-1)]) (rest := []) ⟨hx, hb, hml, hown, hts⟩ (c_T_addDummies l dC dI ad cs _ N σ50 r50.toNatClampNeg (inb_lt hg53) (-1) hq57) (cwV 1 hts (goodV k_542 k_465 k_466 k_7 k_467) rfl rfl rfl ⟨rfl, by decide, by decide, by decide +kernel⟩ ⟨Nat.le_of_ble_eq_true rfl, Nat.le_of_ble_eq_true rfl⟩) ⟨blindX, va_recv hK hP rfl (g_T (inb_lt hg53)), payX hP hK hD hN⟩ rfl rfl hl.1 rfl (lv_room (Nat.le_of_ble_eq_true rfl)) d_O_layRun_57 ⟨Nat.zero_le _, Nat.zero_le _⟩) hS (fun q _ h => hF1 q h) hF1 (fun σ57 t H locs ht hvm hpost hB hz1 hk1 hS => ?_)
    subst hpost
    obtain ⟨hP1, hK1, hD1⟩ := hB
    rw [ht] at hP1
    have hP := hP1
    have hD := hD1.weaken (fun _ _ _ h => hF1 _ h)
    refine lv_aload_n hx hb d_O_layRun_60 rfl (lv_at hl 0 rfl) ?_
    refine lv_aload_n hx hb d_O_layRun_61 rfl (lv_at hl 1 rfl) ?_
    refine va_get (D := (dC, dI)) (ci := 0) (v := .ref (ad 6 0)) (C := R_O) (T := F_O) (N := 12) hx hb htb in_O hown hK hP 0 (g_O) rfl 5 (by decide) (htb _ k_153) (fun _ h9 => h9) rfl d_O_layRun_62 ?_
    have hF1 := free_all hD hS hA
    obtain ⟨y65, hq65, hM⟩ := bV_some hM
    refine va_callv (va_runV (As := [.ref (ad 6 0)]) (rest := []) ⟨hx, hb, hml, hown, hts⟩ (c_T_append l dC dI ad cs _ N σ57 r50.toNatClampNeg (inb_lt hg53) hq65) (cwV 1 hts (goodV k_543 k_544 k_545 k_7 k_546) rfl rfl rfl ⟨rfl, by decide, by decide, by decide +kernel⟩ ⟨Nat.le_of_ble_eq_true rfl, Nat.le_of_ble_eq_true rfl⟩) ⟨blindX, va_recv hK hP rfl (g_T (inb_lt hg53)), payX hP hK hD hN⟩ rfl rfl hl.1 rfl (lv_room (Nat.le_of_ble_eq_true rfl)) d_O_layRun_65 ⟨Nat.zero_le _, Nat.zero_le _⟩) hS (fun q _ h => hF1 q h) hF1 (fun σ65 t H locs ht hvm hpost hB hz1 hk1 hS => ?_)
    subst hpost
    obtain ⟨hP1, hK1, hD1⟩ := hB
    rw [ht] at hP1
    have hP := hP1
    have hD := hD1.weaken (fun _ _ _ h => hF1 _ h)
    refine lv_aload_n hx hb d_O_layRun_68 rfl (lv_at hl 1 rfl) ?_
    refine va_get (D := (dC, dI)) (ci := 0) (v := .ref (ad 2 0)) (C := R_O) (T := F_O) (N := 12) hx hb htb in_O hown hK hP 0 (g_O) rfl 1 (by decide) (htb _ k_149) (fun _ h9 => h9) rfl d_O_layRun_69 ?_
    obtain ⟨x72, y72, hq72, hM⟩ := bI_some hM
    refine va_calli (va_runV (As := []) (rest := []) ⟨hx, hb, hml, hown, hts⟩ (c_S_isEmpty l dC dI ad cs _ N σ65 2 (Or.inl rfl) hq72) (cwV 0 hts (goodV k_476 k_477 k_478 k_6 k_479) rfl rfl rfl ⟨rfl, by decide, by decide, by decide +kernel⟩ ⟨Nat.le_of_ble_eq_true rfl, Nat.le_of_ble_eq_true rfl⟩) ⟨blindX, va_recv hK hP rfl (g_S (Or.inl rfl)), payX hP hK hD hN⟩ rfl rfl hl.1 rfl (lv_room (Nat.le_of_ble_eq_true rfl)) d_O_layRun_72 ⟨Nat.zero_le _, Nat.zero_le _⟩) hS (fun q h0 h => absurd h0 (Nat.not_lt.mpr h)) (fun q h => hA q (Nat.le_trans hS.1 h)) (fun r72 u t H locs ht hvm hpost hB hz1 hk1 hS => ?_)
    obtain ⟨e1, e2⟩ := hpost
    subst e1
    subst e2
    have hP := keepP hP hk1
    refine lv_if_eq (tgt := 83) hx hb d_O_layRun_75 (by decide) (fun h75 => ?_) (fun h75 => ?_)
    · rw [if_pos h75] at hM
      refine lv_iconst (v := 1) hx hb d_O_layRun_83 (by decide) ?_
      have e9 := Prod.mk.inj (Option.some.inj hM)
      exact W.zret (ty := .boolean) (v := 1) hx hb hr rfl (fun t ht hW => ⟨⟨1, σ65, rfl, e9, by rw [ht]; exact hP, va_K.moved hW.alike hK, hD⟩, hS.F ht⟩) hS.2.2 d_O_layRun_84
    · rw [if_neg h75] at hM
      refine lv_aload_n hx hb d_O_layRun_78 rfl (lv_at hl 1 rfl) ?_
      refine lv_iconst (v := 2) hx hb d_O_layRun_79 (by decide) ?_
      refine va_put (D := (dC, dI)) (ci := 0) (v := .int 2) (ty := .int) (C := R_O) (T := F_O) (N := 12) hx hb htb in_O ft_O ft_O_ok n_O hown hK hP hD hS 0 (g_O) rfl 10 (by decide) (htb _ k_158) (fun _ h9 => h9) rfl (by decide +kernel) rfl rfl (Nat.le_of_ble_eq_true rfl) d_O_layRun_80 (fun H locs hP hD hS => ?_)
      have hP := P_eq (s_O_0) hP
      have hD := D_eq (s_O_0) hD
      refine lv_iconst (v := 1) hx hb d_O_layRun_83 (by decide) ?_
      have e9 := Prod.mk.inj (Option.some.inj hM)
      exact W.zret (ty := .boolean) (v := 1) hx hb hr rfl (fun t ht hW => ⟨⟨1, (w1 σ65 0 0 2), rfl, e9, by rw [ht]; exact hP, va_K.moved hW.alike hK, hD⟩, hS.F ht⟩) hS.2.2 d_O_layRun_84
  · rw [if_pos h15] at hM
    refine lv_iconst (v := 0) hx hb d_O_layRun_18 (by decide) ?_
    have e9 := Prod.mk.inj (Option.some.inj hM)
    exact W.zret (ty := .boolean) (v := 0) hx hb hr rfl (fun t ht hW => ⟨⟨0, σ12, rfl, e9, by rw [ht]; exact hP, va_K.moved hW.alike hK, hD⟩, hS.F ht⟩) hS.2.2 d_O_layRun_19
