theorem d_O_sourceOfFirstCard_0 : decode b_O_sourceOfFirstCard 0 = .ok (.iconst (-1), 1) := by decide +kernel
theorem d_O_sourceOfFirstCard_1 : decode b_O_sourceOfFirstCard 1 = .ok (.istore_n 1, 1) := by decide +kernel
theorem d_O_sourceOfFirstCard_2 : decode b_O_sourceOfFirstCard 2 = .ok (.iconst 0, 1) := by decide +kernel
theorem d_O_sourceOfFirstCard_3 : decode b_O_sourceOfFirstCard 3 = .ok (.istore_n 2, 1) := by decide +kernel
theorem d_O_sourceOfFirstCard_4 : decode b_O_sourceOfFirstCard 4 = .ok (.iload_n 2, 1) := by decide +kernel
theorem d_O_sourceOfFirstCard_5 : decode b_O_sourceOfFirstCard 5 = .ok (.iconst 3, 1) := by decide +kernel
theorem d_O_sourceOfFirstCard_6 : decode b_O_sourceOfFirstCard 6 = .ok (.if_icmp .ge 51, 3) := by decide +kernel
theorem d_O_sourceOfFirstCard_9 : decode b_O_sourceOfFirstCard 9 = .ok (.aload_n 0, 1) := by decide +kernel
theorem d_O_sourceOfFirstCard_10 : decode b_O_sourceOfFirstCard 10 = .ok (.getfield 47, 3) := by decide +kernel
theorem d_O_sourceOfFirstCard_13 : decode b_O_sourceOfFirstCard 13 = .ok (.iload_n 2, 1) := by decide +kernel
theorem d_O_sourceOfFirstCard_14 : decode b_O_sourceOfFirstCard 14 = .ok (.iaload, 1) := by decide +kernel
theorem d_O_sourceOfFirstCard_15 : decode b_O_sourceOfFirstCard 15 = .ok (.aload_n 0, 1) := by decide +kernel
theorem d_O_sourceOfFirstCard_16 : decode b_O_sourceOfFirstCard 16 = .ok (.getfield 50, 3) := by decide +kernel
theorem d_O_sourceOfFirstCard_19 : decode b_O_sourceOfFirstCard 19 = .ok (.iload_n 2, 1) := by decide +kernel
theorem d_O_sourceOfFirstCard_20 : decode b_O_sourceOfFirstCard 20 = .ok (.iaload, 1) := by decide +kernel
theorem d_O_sourceOfFirstCard_21 : decode b_O_sourceOfFirstCard 21 = .ok (.if_icmp .ge 30, 3) := by decide +kernel
theorem d_O_sourceOfFirstCard_24 : decode b_O_sourceOfFirstCard 24 = .ok (.iload_n 1, 1) := by decide +kernel
theorem d_O_sourceOfFirstCard_25 : decode b_O_sourceOfFirstCard 25 = .ok (.iconst (-1), 1) := by decide +kernel
theorem d_O_sourceOfFirstCard_26 : decode b_O_sourceOfFirstCard 26 = .ok (.if_icmp .eq 23, 3) := by decide +kernel
theorem d_O_sourceOfFirstCard_29 : decode b_O_sourceOfFirstCard 29 = .ok (.aload_n 0, 1) := by decide +kernel
theorem d_O_sourceOfFirstCard_30 : decode b_O_sourceOfFirstCard 30 = .ok (.getfield 10, 3) := by decide +kernel
theorem d_O_sourceOfFirstCard_33 : decode b_O_sourceOfFirstCard 33 = .ok (.aload_n 0, 1) := by decide +kernel
theorem d_O_sourceOfFirstCard_34 : decode b_O_sourceOfFirstCard 34 = .ok (.iload_n 2, 1) := by decide +kernel
theorem d_O_sourceOfFirstCard_35 : decode b_O_sourceOfFirstCard 35 = .ok (.invokevirtual 241, 3) := by decide +kernel
theorem d_O_sourceOfFirstCard_38 : decode b_O_sourceOfFirstCard 38 = .ok (.aload_n 0, 1) := by decide +kernel
theorem d_O_sourceOfFirstCard_39 : decode b_O_sourceOfFirstCard 39 = .ok (.iload_n 1, 1) := by decide +kernel
theorem d_O_sourceOfFirstCard_40 : decode b_O_sourceOfFirstCard 40 = .ok (.invokevirtual 241, 3) := by decide +kernel
theorem d_O_sourceOfFirstCard_43 : decode b_O_sourceOfFirstCard 43 = .ok (.invokevirtual 168, 3) := by decide +kernel
theorem d_O_sourceOfFirstCard_46 : decode b_O_sourceOfFirstCard 46 = .ok (.ifCond .eq 5, 3) := by decide +kernel
theorem d_O_sourceOfFirstCard_49 : decode b_O_sourceOfFirstCard 49 = .ok (.iload_n 2, 1) := by decide +kernel
theorem d_O_sourceOfFirstCard_50 : decode b_O_sourceOfFirstCard 50 = .ok (.istore_n 1, 1) := by decide +kernel
theorem d_O_sourceOfFirstCard_51 : decode b_O_sourceOfFirstCard 51 = .ok (.iinc 2 1, 3) := by decide +kernel
theorem d_O_sourceOfFirstCard_54 : decode b_O_sourceOfFirstCard 54 = .ok (.goto (-50), 3) := by decide +kernel
theorem d_O_sourceOfFirstCard_57 : decode b_O_sourceOfFirstCard 57 = .ok (.iload_n 1, 1) := by decide +kernel
theorem d_O_sourceOfFirstCard_58 : decode b_O_sourceOfFirstCard 58 = .ok (.ireturn, 1) := by decide +kernel
def m_O_sourceOfFirstCard_4 (N : Nat) : Nat → SX → Int32 → Int32 → Option (Int32 × SX)
  | 0, _, _, _ => none
  | n4 + 1, σ, v1, v2 =>
    (if 3 ≤ v2 then some (v1, σ) else (if inb v2 3 = true then (if inb v2 3 = true then (if ((σ 0).2 3 v2.toNatClampNeg) ≤ ((σ 0).2 2 v2.toNatClampNeg) then m_O_sourceOfFirstCard_4 N n4 σ v1 (v2 + 1) else (if v1 = (-1) then m_O_sourceOfFirstCard_4 N n4 σ v2 (v2 + 1) else (bI (m_O_nextCardOf N σ v2) fun r35 σ35 => (bI (m_O_nextCardOf N σ v1) fun r40 σ40 => (bI (m_D_comesBefore N σ r35 r40) fun r43 σ43 => (if r43 = 0 then m_O_sourceOfFirstCard_4 N n4 σ v1 (v2 + 1) else m_O_sourceOfFirstCard_4 N n4 σ v2 (v2 + 1))))))) else none) else none))

def m_O_sourceOfFirstCard (N : Nat) (σ : SX) : Option (Int32 × SX) :=
  m_O_sourceOfFirstCard_4 N N σ (-1) 0

set_option maxHeartbeats 4000000 in
set_option maxRecDepth 100000 in
theorem c_O_sourceOfFirstCard (l : Launch) (dC : Nat → ClassId) (dI : Nat → Nat → Nat) (ad : Nat → Nat → Nat) (cs : Nat → ClassId) (sz N : Nat) (σ : SX) {r0 : Int32} {σ0 : SX} (hM : m_O_sourceOfFirstCard N σ = some (r0, σ0)) : Met l y_O_sourceOfFirstCard (wd y_O_sourceOfFirstCard b_O_sourceOfFirstCard 3 (some .int)) ({ frames := 3, cells := 0, slots := 0, locals := 70 }) (va_Pc [.ref (ad 0 0)] (preX dC dI ad cs sz σ)) (va_Qi (fun (r : Int32) (_ : Unit) => r = r0 ∧ σ = σ0) (fun _ _ => True) (fun q => sz ≤ q)) 0 0 (fun q => sz ≤ q) := by
  refine Met.ofW (cc := b_O_sourceOfFirstCard) (maxL := 3) (ret := (some .int)) (by decide) rfl ?_
  intro p e s m args below meth c s₁ B hml hv
  obtain ⟨rfl, hsz, hP, hK, hD0, hN⟩ := hv
  have hx := B.exec
  have hb := B.bytes
  have hr := B.returns
  have hts := atoms_spec (ws := (wd y_O_sourceOfFirstCard b_O_sourceOfFirstCard 3 (some .int))) B.pre
  have htb : ∀ w ∈ tb, w.before _ s = true := fun w h => hts w (List.mem_cons_of_mem _ h)
  have hown : s.vm.findClass R_O = some m.cls := findClass_of_methodNamed B.named
  have hlocks := B.notSynchronized
  subst hsz
  have hD := hD0
  have hA : ∀ q : Nat, s.heap.size ≤ q → s.heap.size ≤ q := fun q h => h
  have hS : va_S (fun q => s.heap.size ≤ q) s.heap s.heap [] := va_S.rf
  have hP : va_P (dC, dI) classes (wX ad cs σ) s.heap := hP
  have hl := lv_entry ([.ref (ad 0 0)]) (n := 3) (Nat.le_of_ble_eq_true rfl)
  rw [lg_entry_eq]
  generalize (lg_sl ([.ref (ad 0 0)]) ++ List.replicate (3 - (lg_sl ([.ref (ad 0 0)])).length) Slot.unset).toArray = ls at hl ⊢
  have hl : lv_has ls 3 [(0, .ref (ad 0 0))] := hl
  rw [m_O_sourceOfFirstCard] at hM
  refine W_loop (pc := 4) (fun n4 H locs ls st => ∃ (v1 : Int32) (v2 : Int32), st = [] ∧ m_O_sourceOfFirstCard_4 N n4 σ v1 v2 = some (r0, σ0) ∧ lv_has ls 3 [(0, .ref (ad 0 0)), (1, .int v1), (2, .int v2)] ∧ va_P (dC, dI) classes (wX ad cs σ) H ∧ va_D (fun _ => True) (wX ad cs σ) ∧ va_S (fun q => s.heap.size ≤ q) s.heap H locs) ?_ ?_ ?_
  · rintro H locs ls st ⟨v1, v2, -, hM, -⟩
    rw [m_O_sourceOfFirstCard_4] at hM; cases hM
  · intro n4 K4 H locs ls st hI
    obtain ⟨v1, v2, rfl, hM, hl, hP, hD, hS⟩ := hI
    rw [m_O_sourceOfFirstCard_4] at hM
    refine lv_iload_n hx hb d_O_sourceOfFirstCard_4 rfl (lv_at hl 2 rfl) ?_
    refine lv_iconst (v := 3) hx hb d_O_sourceOfFirstCard_5 (by decide) ?_
    refine lv_icmp_ge (tgt := 57) hx hb d_O_sourceOfFirstCard_6 (by decide) (fun h6 => ?_) (fun h6 => ?_)
    · rw [if_pos h6] at hM
      refine lv_iload_n hx hb d_O_sourceOfFirstCard_57 rfl (lv_at hl 1 rfl) ?_
      have e9 := Prod.mk.inj (Option.some.inj hM)
      exact W.iret (v := v1) hx hb hr (fun t ht hW => ⟨⟨v1, (), rfl, e9, trivial⟩, hS.F ht⟩) hS.2.2 d_O_sourceOfFirstCard_58
    · rw [if_neg h6] at hM
      refine lv_aload_n hx hb d_O_sourceOfFirstCard_9 rfl (lv_at hl 0 rfl) ?_
      refine va_get (D := (dC, dI)) (ci := 0) (v := .ref (ad 0 2)) (C := R_O) (T := F_O) (N := 12) hx hb htb in_O hown hK hP 0 (g_O) rfl 8 (by decide) (htb _ k_156) (fun _ h9 => h9) rfl d_O_sourceOfFirstCard_10 ?_
      refine lv_iload_n hx hb d_O_sourceOfFirstCard_13 rfl (lv_at hl 2 rfl) ?_
      have hg14 := gd_c hM
      have hM := gd_v hM
      refine va_iald hx hb hK hP 32 0 (g_O_a2) rfl (inb_in hg14) d_O_sourceOfFirstCard_14 ?_
      refine lv_aload_n hx hb d_O_sourceOfFirstCard_15 rfl (lv_at hl 0 rfl) ?_
      refine va_get (D := (dC, dI)) (ci := 0) (v := .ref (ad 0 3)) (C := R_O) (T := F_O) (N := 12) hx hb htb in_O hown hK hP 0 (g_O) rfl 9 (by decide) (htb _ k_157) (fun _ h9 => h9) rfl d_O_sourceOfFirstCard_16 ?_
      refine lv_iload_n hx hb d_O_sourceOfFirstCard_19 rfl (lv_at hl 2 rfl) ?_
      have hg20 := gd_c hM
      have hM := gd_v hM
      refine va_iald hx hb hK hP 33 0 (g_O_a3) rfl (inb_in hg20) d_O_sourceOfFirstCard_20 ?_
      refine lv_icmp_ge (tgt := 51) hx hb d_O_sourceOfFirstCard_21 (by decide) (fun h21 => ?_) (fun h21 => ?_)
      · rw [if_pos h21] at hM
        refine lv_iinc (k := 2) (v := (v2 + 1)) hx hb d_O_sourceOfFirstCard_51 hl rfl rfl (by decide) (lv' := [(2, .int (v2 + 1)), (0, .ref (ad 0 0)), (1, .int v1)]) rfl (fun ls hl => ?_)
        refine lv_goto (tgt := 4) hx hb d_O_sourceOfFirstCard_54 (by decide) ?_
        exact K4 _ _ _ _ ⟨v1, (v2 + 1), rfl, hM, lv_sub hl [1, 2, 0] rfl, hP, hD, hS⟩
      · rw [if_neg h21] at hM
        refine lv_iload_n hx hb d_O_sourceOfFirstCard_24 rfl (lv_at hl 1 rfl) ?_
        refine lv_iconst (v := (-1)) hx hb d_O_sourceOfFirstCard_25 (by decide) ?_
        refine lv_icmp_eq (tgt := 49) hx hb d_O_sourceOfFirstCard_26 (by decide) (fun h26 => ?_) (fun h26 => ?_)
        · rw [if_pos h26] at hM
          refine lv_iload_n hx hb d_O_sourceOfFirstCard_49 rfl (lv_at hl 2 rfl) ?_
          refine lv_istore_n hx hb d_O_sourceOfFirstCard_50 rfl hl (by decide) (lv' := [(1, .int v2), (0, .ref (ad 0 0)), (2, .int v2)]) rfl (fun ls hl => ?_)
          refine lv_iinc (k := 2) (v := (v2 + 1)) hx hb d_O_sourceOfFirstCard_51 hl rfl rfl (by decide) (lv' := [(2, .int (v2 + 1)), (1, .int v2), (0, .ref (ad 0 0))]) rfl (fun ls hl => ?_)
          refine lv_goto (tgt := 4) hx hb d_O_sourceOfFirstCard_54 (by decide) ?_
          exact K4 _ _ _ _ ⟨v2, (v2 + 1), rfl, hM, lv_sub hl [2, 1, 0] rfl, hP, hD, hS⟩
        · rw [if_neg h26] at hM
          refine lv_aload_n hx hb d_O_sourceOfFirstCard_29 rfl (lv_at hl 0 rfl) ?_
          refine va_get (D := (dC, dI)) (ci := 0) (v := .ref (ad 1 0)) (C := R_O) (T := F_O) (N := 12) hx hb htb in_O hown hK hP 0 (g_O) rfl 0 (by decide) (htb _ k_148) (fun _ h9 => h9) rfl d_O_sourceOfFirstCard_30 ?_
          refine lv_aload_n hx hb d_O_sourceOfFirstCard_33 rfl (lv_at hl 0 rfl) ?_
          refine lv_iload_n hx hb d_O_sourceOfFirstCard_34 rfl (lv_at hl 2 rfl) ?_
          obtain ⟨x35, y35, hq35, hM⟩ := bI_some hM
          refine va_calli (va_runV (As := [.int v2]) (rest := [.ref (ad 1 0)]) ⟨hx, hb, hml, hown, hts⟩ (c_O_nextCardOf l dC dI ad cs _ N σ v2 hq35) (cwV 1 hts (goodV k_578 k_580 ks_O_nextCardOf k_1 k_581) rfl rfl rfl ⟨rfl, by decide, by decide, by decide +kernel⟩ ⟨Nat.le_of_ble_eq_true rfl, Nat.le_of_ble_eq_true rfl⟩) ⟨blindX, va_recv hK hP rfl (g_O), payX hP hK hD hN⟩ rfl rfl hl.1 rfl (lv_room (Nat.le_of_ble_eq_true rfl)) d_O_sourceOfFirstCard_35 ⟨Nat.zero_le _, Nat.zero_le _⟩) hS (fun q h0 h => absurd h0 (Nat.not_lt.mpr h)) (fun q h => hA q (Nat.le_trans hS.1 h)) (fun r35 u t H locs ht hvm hpost hB hz1 hk1 hS => ?_)
          obtain ⟨e1, e2⟩ := hpost
          subst e1
          subst e2
          have hP := keepP hP hk1
          refine lv_aload_n hx hb d_O_sourceOfFirstCard_38 rfl (lv_at hl 0 rfl) ?_
          refine lv_iload_n hx hb d_O_sourceOfFirstCard_39 rfl (lv_at hl 1 rfl) ?_
          obtain ⟨x40, y40, hq40, hM⟩ := bI_some hM
          refine va_calli (va_runV (As := [.int v1]) (rest := [.int r35, .ref (ad 1 0)]) ⟨hx, hb, hml, hown, hts⟩ (c_O_nextCardOf l dC dI ad cs _ N σ v1 hq40) (cwV 1 hts (goodV k_578 k_580 ks_O_nextCardOf k_1 k_581) rfl rfl rfl ⟨rfl, by decide, by decide, by decide +kernel⟩ ⟨Nat.le_of_ble_eq_true rfl, Nat.le_of_ble_eq_true rfl⟩) ⟨blindX, va_recv hK hP rfl (g_O), payX hP hK hD hN⟩ rfl rfl hl.1 rfl (lv_room (Nat.le_of_ble_eq_true rfl)) d_O_sourceOfFirstCard_40 ⟨Nat.zero_le _, Nat.zero_le _⟩) hS (fun q h0 h => absurd h0 (Nat.not_lt.mpr h)) (fun q h => hA q (Nat.le_trans hS.1 h)) (fun r40 u t H locs ht hvm hpost hB hz1 hk1 hS => ?_)
          obtain ⟨e1, e2⟩ := hpost
          subst e1
          subst e2
          have hP := keepP hP hk1
          obtain ⟨x43, y43, hq43, hM⟩ := bI_some hM
          refine va_calli (va_runV (As := [.int r35, .int r40]) (rest := []) ⟨hx, hb, hml, hown, hts⟩ (c_D_comesBefore l dC dI ad cs _ N σ r35 r40 hq43) (cwV 2 hts (goodV k_317 k_318 k_319 k_2 k_320) rfl rfl rfl ⟨rfl, by decide, by decide, by decide +kernel⟩ ⟨Nat.le_of_ble_eq_true rfl, Nat.le_of_ble_eq_true rfl⟩) ⟨blindX, va_recv hK hP rfl (g_D), payX hP hK hD hN⟩ rfl rfl hl.1 rfl (lv_room (Nat.le_of_ble_eq_true rfl)) d_O_sourceOfFirstCard_43 ⟨Nat.zero_le _, Nat.zero_le _⟩) hS (fun q h0 h => absurd h0 (Nat.not_lt.mpr h)) (fun q h => hA q (Nat.le_trans hS.1 h)) (fun r43 u t H locs ht hvm hpost hB hz1 hk1 hS => ?_)
          obtain ⟨e1, e2⟩ := hpost
          subst e1
          subst e2
          have hP := keepP hP hk1
          refine lv_if_eq (tgt := 51) hx hb d_O_sourceOfFirstCard_46 (by decide) (fun h46 => ?_) (fun h46 => ?_)
          · rw [if_pos h46] at hM
            refine lv_iinc (k := 2) (v := (v2 + 1)) hx hb d_O_sourceOfFirstCard_51 hl rfl rfl (by decide) (lv' := [(2, .int (v2 + 1)), (0, .ref (ad 0 0)), (1, .int v1)]) rfl (fun ls hl => ?_)
            refine lv_goto (tgt := 4) hx hb d_O_sourceOfFirstCard_54 (by decide) ?_
            exact K4 _ _ _ _ ⟨v1, (v2 + 1), rfl, hM, lv_sub hl [1, 2, 0] rfl, hP, hD, hS⟩
          · rw [if_neg h46] at hM
            refine lv_iload_n hx hb d_O_sourceOfFirstCard_49 rfl (lv_at hl 2 rfl) ?_
            refine lv_istore_n hx hb d_O_sourceOfFirstCard_50 rfl hl (by decide) (lv' := [(1, .int v2), (0, .ref (ad 0 0)), (2, .int v2)]) rfl (fun ls hl => ?_)
            refine lv_iinc (k := 2) (v := (v2 + 1)) hx hb d_O_sourceOfFirstCard_51 hl rfl rfl (by decide) (lv' := [(2, .int (v2 + 1)), (1, .int v2), (0, .ref (ad 0 0))]) rfl (fun ls hl => ?_)
            refine lv_goto (tgt := 4) hx hb d_O_sourceOfFirstCard_54 (by decide) ?_
            exact K4 _ _ _ _ ⟨v2, (v2 + 1), rfl, hM, lv_sub hl [2, 1, 0] rfl, hP, hD, hS⟩
  intro K4
  refine lv_iconst (v := (-1)) hx hb d_O_sourceOfFirstCard_0 (by decide) ?_
  refine lv_istore_n hx hb d_O_sourceOfFirstCard_1 rfl hl (by decide) (lv' := [(1, .int (-1)), (0, .ref (ad 0 0))]) rfl (fun ls hl => ?_)
  refine lv_iconst (v := 0) hx hb d_O_sourceOfFirstCard_2 (by decide) ?_
  refine lv_istore_n hx hb d_O_sourceOfFirstCard_3 rfl hl (by decide) (lv' := [(2, .int 0), (1, .int (-1)), (0, .ref (ad 0 0))]) rfl (fun ls hl => ?_)
  exact K4 N _ _ _ _ ⟨(-1), 0, rfl, hM, lv_sub hl [2, 1, 0] rfl, hP, hD, hS⟩

theorem d_V_writeCard_0 : decode b_V_writeCard 0 = .ok (.aload_n 0, 1) := by decide +kernel
theorem d_V_writeCard_1 : decode b_V_writeCard 1 = .ok (.getfield 17, 3) := by decide +kernel
theorem d_V_writeCard_4 : decode b_V_writeCard 4 = .ok (.ifCond .eq 22, 3) := by decide +kernel
theorem d_V_writeCard_7 : decode b_V_writeCard 7 = .ok (.aload_n 0, 1) := by decide +kernel
theorem d_V_writeCard_8 : decode b_V_writeCard 8 = .ok (.getfield 20, 3) := by decide +kernel
theorem d_V_writeCard_11 : decode b_V_writeCard 11 = .ok (.ifCond .ne 15, 3) := by decide +kernel
theorem d_V_writeCard_14 : decode b_V_writeCard 14 = .ok (.aload_n 0, 1) := by decide +kernel
theorem d_V_writeCard_15 : decode b_V_writeCard 15 = .ok (.iconst 0, 1) := by decide +kernel
theorem d_V_writeCard_16 : decode b_V_writeCard 16 = .ok (.putfield 17, 3) := by decide +kernel
theorem d_V_writeCard_19 : decode b_V_writeCard 19 = .ok (.aload_n 0, 1) := by decide +kernel
theorem d_V_writeCard_20 : decode b_V_writeCard 20 = .ok (.iconst 0, 1) := by decide +kernel
theorem d_V_writeCard_21 : decode b_V_writeCard 21 = .ok (.putfield 13, 3) := by decide +kernel
theorem d_V_writeCard_24 : decode b_V_writeCard 24 = .ok (.iconst 0, 1) := by decide +kernel
theorem d_V_writeCard_25 : decode b_V_writeCard 25 = .ok (.ireturn, 1) := by decide +kernel
theorem d_V_writeCard_26 : decode b_V_writeCard 26 = .ok (.aload_n 0, 1) := by decide +kernel
theorem d_V_writeCard_27 : decode b_V_writeCard 27 = .ok (.getfield 17, 3) := by decide +kernel
theorem d_V_writeCard_30 : decode b_V_writeCard 30 = .ok (.ifCond .eq 13, 3) := by decide +kernel
theorem d_V_writeCard_33 : decode b_V_writeCard 33 = .ok (.aload_n 0, 1) := by decide +kernel
theorem d_V_writeCard_34 : decode b_V_writeCard 34 = .ok (.dup, 1) := by decide +kernel
theorem d_V_writeCard_35 : decode b_V_writeCard 35 = .ok (.getfield 20, 3) := by decide +kernel
theorem d_V_writeCard_38 : decode b_V_writeCard 38 = .ok (.iconst 1, 1) := by decide +kernel
theorem d_V_writeCard_39 : decode b_V_writeCard 39 = .ok (.isub, 1) := by decide +kernel
theorem d_V_writeCard_40 : decode b_V_writeCard 40 = .ok (.putfield 20, 3) := by decide +kernel
theorem d_V_writeCard_43 : decode b_V_writeCard 43 = .ok (.aload_n 0, 1) := by decide +kernel
theorem d_V_writeCard_44 : decode b_V_writeCard 44 = .ok (.dup, 1) := by decide +kernel
theorem d_V_writeCard_45 : decode b_V_writeCard 45 = .ok (.getfield 7, 3) := by decide +kernel
theorem d_V_writeCard_48 : decode b_V_writeCard 48 = .ok (.iconst 1, 1) := by decide +kernel
theorem d_V_writeCard_49 : decode b_V_writeCard 49 = .ok (.iadd, 1) := by decide +kernel
theorem d_V_writeCard_50 : decode b_V_writeCard 50 = .ok (.putfield 7, 3) := by decide +kernel
theorem d_V_writeCard_53 : decode b_V_writeCard 53 = .ok (.iconst 1, 1) := by decide +kernel
theorem d_V_writeCard_54 : decode b_V_writeCard 54 = .ok (.ireturn, 1) := by decide +kernel
def m_V_writeCard_43 (N : Nat) (σ : SX) : Option (Int32 × SX) :=
    some (1, (w1 σ 5 0 (((σ 5).1 0) + 1)))

def m_V_writeCard_26 (N : Nat) (σ : SX) : Option (Int32 × SX) :=
    (if ((σ 5).1 2) = 0 then m_V_writeCard_43 N σ else m_V_writeCard_43 N (w1 σ 5 3 (((σ 5).1 3) - 1)))

def m_V_writeCard (N : Nat) (σ : SX) : Option (Int32 × SX) :=
  (if ((σ 5).1 2) = 0 then m_V_writeCard_26 N σ else (if ((σ 5).1 3) = 0 then some (0, (w1 (w1 σ 5 2 0) 5 1 0)) else m_V_writeCard_26 N σ))

set_option maxHeartbeats 4000000 in
set_option maxRecDepth 100000 in
theorem c_V_writeCard (l : Launch) (dC : Nat → ClassId) (dI : Nat → Nat → Nat) (ad : Nat → Nat → Nat) (cs : Nat → ClassId) (sz N : Nat) (σ : SX) {r0 : Int32} {σ0 : SX} (hM : m_V_writeCard N σ = some (r0, σ0)) : Met l y_V_writeCard (wd y_V_writeCard b_V_writeCard 1 (some .boolean)) ({ frames := 0, cells := 0, slots := 0, locals := 0 }) (va_Pc [.ref (ad 5 0)] (preX dC dI ad cs sz σ)) (va_Qi (fun (r : Int32) (u : SX) => r = r0 ∧ u = σ0) (atX dC dI ad cs (va_A (wX ad cs σ) sz)) (va_A (wX ad cs σ) sz)) 0 0 (va_A (wX ad cs σ) sz) := by
  refine Met.ofW (cc := b_V_writeCard) (maxL := 1) (ret := (some .boolean)) (by decide) rfl ?_
  intro p e s m args below meth c s₁ B hml hv
  obtain ⟨rfl, hsz, hP, hK, hD0, hN⟩ := hv
  have hx := B.exec
  have hb := B.bytes
  have hr := B.returns
  have hts := atoms_spec (ws := (wd y_V_writeCard b_V_writeCard 1 (some .boolean))) B.pre
  have htb : ∀ w ∈ tb, w.before _ s = true := fun w h => hts w (List.mem_cons_of_mem _ h)
  have hown : s.vm.findClass R_V = some m.cls := findClass_of_methodNamed B.named
  have hlocks := B.notSynchronized
  subst hsz
  have hD := hD0.self (sz := s.heap.size)
  generalize hAe : va_A (wX ad cs σ) s.heap.size = A at hD ⊢
  have hA : ∀ q : Nat, s.heap.size ≤ q → A q := fun q h => by rw [← hAe]; exact Or.inr h
  have hS : va_S A s.heap s.heap [] := va_S.rf
  have hP : va_P (dC, dI) classes (wX ad cs σ) s.heap := hP
  have hl := lv_entry ([.ref (ad 5 0)]) (n := 1) (Nat.le_of_ble_eq_true rfl)
  rw [lg_entry_eq]
  generalize (lg_sl ([.ref (ad 5 0)]) ++ List.replicate (1 - (lg_sl ([.ref (ad 5 0)])).length) Slot.unset).toArray = ls at hl ⊢
  have hl : lv_has ls 1 [(0, .ref (ad 5 0))] := hl
  rw [m_V_writeCard] at hM
  refine W_cut (pc := 43) (fun H locs ls st => ∃ (σ : SX), st = [] ∧ m_V_writeCard_43 N σ = some (r0, σ0) ∧ lv_has ls 1 [(0, .ref (ad 5 0))] ∧ va_P (dC, dI) classes (wX ad cs σ) H ∧ va_D A (wX ad cs σ) ∧ va_S A s.heap H locs) ?_ ?_
  · intro H locs ls st hI
    obtain ⟨σ, rfl, hM, hl, hP, hD, hS⟩ := hI
    rw [m_V_writeCard_43] at hM
    refine lv_aload_n hx hb d_V_writeCard_43 rfl (lv_at hl 0 rfl) ?_
    refine lv_dup hx hb d_V_writeCard_44 rfl ?_
    refine va_get (D := (dC, dI)) (ci := 4) (v := .int ((σ 5).1 0)) (C := R_V) (T := F_V) (N := 4) hx hb htb in_V hown hK hP 15 (g_V) rfl 0 (by decide) (htb _ k_71) (fun _ h9 => h9) rfl d_V_writeCard_45 ?_
    refine lv_iconst (v := 1) hx hb d_V_writeCard_48 (by decide) ?_
    refine lv_iadd hx hb d_V_writeCard_49 ?_
    refine va_put (D := (dC, dI)) (ci := 4) (v := .int (((σ 5).1 0) + 1)) (ty := .int) (C := R_V) (T := F_V) (N := 4) hx hb htb in_V ft_V ft_V_ok n_V hown hK hP hD hS 15 (g_V) rfl 0 (by decide) (htb _ k_71) (fun _ h9 => h9) rfl (by decide +kernel) rfl rfl (Nat.le_of_ble_eq_true rfl) d_V_writeCard_50 (fun H locs hP hD hS => ?_)
    have hP := P_eq (s_V_0) hP
    have hD := D_eq (s_V_0) hD
    refine lv_iconst (v := 1) hx hb d_V_writeCard_53 (by decide) ?_
    have e9 := Prod.mk.inj (Option.some.inj hM)
    exact W.zret (ty := .boolean) (v := 1) hx hb hr rfl (fun t ht hW => ⟨⟨1, (w1 σ 5 0 (((σ 5).1 0) + 1)), rfl, e9, by rw [ht]; exact hP, va_K.moved hW.alike hK, hD⟩, hS.F ht⟩) hS.2.2 d_V_writeCard_54
  intro K43
  refine W_cut (pc := 26) (fun H locs ls st => ∃ (σ : SX), st = [] ∧ m_V_writeCard_26 N σ = some (r0, σ0) ∧ lv_has ls 1 [(0, .ref (ad 5 0))] ∧ va_P (dC, dI) classes (wX ad cs σ) H ∧ va_D A (wX ad cs σ) ∧ va_S A s.heap H locs) ?_ ?_
  · intro H locs ls st hI
    obtain ⟨σ, rfl, hM, hl, hP, hD, hS⟩ := hI
    rw [m_V_writeCard_26] at hM
    refine lv_aload_n hx hb d_V_writeCard_26 rfl (lv_at hl 0 rfl) ?_
    refine va_get (D := (dC, dI)) (ci := 4) (v := .int ((σ 5).1 2)) (C := R_V) (T := F_V) (N := 4) hx hb htb in_V hown hK hP 15 (g_V) rfl 2 (by decide) (htb _ k_73) (fun _ h9 => h9) rfl d_V_writeCard_27 ?_
    refine lv_if_eq (tgt := 43) hx hb d_V_writeCard_30 (by decide) (fun h30 => ?_) (fun h30 => ?_)
    · rw [if_pos h30] at hM
      exact K43 _ _ _ _ ⟨σ, rfl, hM, lv_sub hl [0] rfl, hP, hD, hS⟩
    · rw [if_neg h30] at hM
      refine lv_aload_n hx hb d_V_writeCard_33 rfl (lv_at hl 0 rfl) ?_
      refine lv_dup hx hb d_V_writeCard_34 rfl ?_
      refine va_get (D := (dC, dI)) (ci := 4) (v := .int ((σ 5).1 3)) (C := R_V) (T := F_V) (N := 4) hx hb htb in_V hown hK hP 15 (g_V) rfl 3 (by decide) (htb _ k_74) (fun _ h9 => h9) rfl d_V_writeCard_35 ?_
      refine lv_iconst (v := 1) hx hb d_V_writeCard_38 (by decide) ?_
      refine lv_isub hx hb d_V_writeCard_39 ?_
      refine va_put (D := (dC, dI)) (ci := 4) (v := .int (((σ 5).1 3) - 1)) (ty := .int) (C := R_V) (T := F_V) (N := 4) hx hb htb in_V ft_V ft_V_ok n_V hown hK hP hD hS 15 (g_V) rfl 3 (by decide) (htb _ k_74) (fun _ h9 => h9) rfl (by decide +kernel) rfl rfl (Nat.le_of_ble_eq_true rfl) d_V_writeCard_40 (fun H locs hP hD hS => ?_)
      have hP := P_eq (s_V_3) hP
      have hD := D_eq (s_V_3) hD
      exact K43 _ _ _ _ ⟨(w1 σ 5 3 (((σ 5).1 3) - 1)), rfl, hM, lv_sub hl [0] rfl, hP, hD, hS⟩
  intro K26
  refine lv_aload_n hx hb d_V_writeCard_0 rfl (lv_at hl 0 rfl) ?_
  refine va_get (D := (dC, dI)) (ci := 4) (v := .int ((σ 5).1 2)) (C := R_V) (T := F_V) (N := 4) hx hb htb in_V hown hK hP 15 (g_V) rfl 2 (by decide) (htb _ k_73) (fun _ h9 => h9) rfl d_V_writeCard_1 ?_
  refine lv_if_eq (tgt := 26) hx hb d_V_writeCard_4 (by decide) (fun h4 => ?_) (fun h4 => ?_)
  · rw [if_pos h4] at hM
    exact K26 _ _ _ _ ⟨σ, rfl, hM, lv_sub hl [0] rfl, hP, hD, hS⟩
  · rw [if_neg h4] at hM
    refine lv_aload_n hx hb d_V_writeCard_7 rfl (lv_at hl 0 rfl) ?_
    refine va_get (D := (dC, dI)) (ci := 4) (v := .int ((σ 5).1 3)) (C := R_V) (T := F_V) (N := 4) hx hb htb in_V hown hK hP 15 (g_V) rfl 3 (by decide) (htb _ k_74) (fun _ h9 => h9) rfl d_V_writeCard_8 ?_
    refine lv_if_ne (tgt := 26) hx hb d_V_writeCard_11 (by decide) (fun h11 => ?_) (fun h11 => ?_)
    · rw [if_neg h11] at hM
      exact K26 _ _ _ _ ⟨σ, rfl, hM, lv_sub hl [0] rfl, hP, hD, hS⟩
    · rw [if_pos h11] at hM
      refine lv_aload_n hx hb d_V_writeCard_14 rfl (lv_at hl 0 rfl) ?_
      refine lv_iconst (v := 0) hx hb d_V_writeCard_15 (by decide) ?_
      refine va_put (D := (dC, dI)) (ci := 4) (v := .int 0) (ty := .boolean) (C := R_V) (T := F_V) (N := 4) hx hb htb in_V ft_V ft_V_ok n_V hown hK hP hD hS 15 (g_V) rfl 2 (by decide) (htb _ k_73) (fun _ h9 => h9) rfl (by decide +kernel) rfl rfl (Nat.le_of_ble_eq_true rfl) d_V_writeCard_16 (fun H locs hP hD hS => ?_)
      have hP := P_eq (s_V_2) hP
      have hD := D_eq (s_V_2) hD
      refine lv_aload_n hx hb d_V_writeCard_19 rfl (lv_at hl 0 rfl) ?_
      refine lv_iconst (v := 0) hx hb d_V_writeCard_20 (by decide) ?_
      refine va_put (D := (dC, dI)) (ci := 4) (v := .int 0) (ty := .boolean) (C := R_V) (T := F_V) (N := 4) hx hb htb in_V ft_V ft_V_ok n_V hown hK hP hD hS 15 (g_V) rfl 1 (by decide) (htb _ k_72) (fun _ h9 => h9) rfl (by decide +kernel) rfl rfl (Nat.le_of_ble_eq_true rfl) d_V_writeCard_21 (fun H locs hP hD hS => ?_)
      have hP := P_eq (s_V_1) hP
      have hD := D_eq (s_V_1) hD
      refine lv_iconst (v := 0) hx hb d_V_writeCard_24 (by decide) ?_
      have e9 := Prod.mk.inj (Option.some.inj hM)
      exact W.zret (ty := .boolean) (v := 0) hx hb hr rfl (fun t ht hW => ⟨⟨0, (w1 (w1 σ 5 2 0) 5 1 0), rfl, e9, by rw [ht]; exact hP, va_K.moved hW.alike hK, hD⟩, hS.F ht⟩) hS.2.2 d_V_writeCard_25

theorem d_R_add_0 : decode b_R_add 0 = .ok (.aload_n 0, 1) := by decide +kernel
theorem d_R_add_1 : decode b_R_add 1 = .ok (.getfield 15, 3) := by decide +kernel
theorem d_R_add_4 : decode b_R_add 4 = .ok (.sipush 150, 3) := by decide +kernel
theorem d_R_add_7 : decode b_R_add 7 = .ok (.if_icmp .ge 23, 3) := by decide +kernel
theorem d_R_add_10 : decode b_R_add 10 = .ok (.aload_n 0, 1) := by decide +kernel
theorem d_R_add_11 : decode b_R_add 11 = .ok (.getfield 9, 3) := by decide +kernel
theorem d_R_add_14 : decode b_R_add 14 = .ok (.aload_n 0, 1) := by decide +kernel
theorem d_R_add_15 : decode b_R_add 15 = .ok (.getfield 15, 3) := by decide +kernel
theorem d_R_add_18 : decode b_R_add 18 = .ok (.iload_n 1, 1) := by decide +kernel
theorem d_R_add_19 : decode b_R_add 19 = .ok (.iastore, 1) := by decide +kernel
theorem d_R_add_20 : decode b_R_add 20 = .ok (.aload_n 0, 1) := by decide +kernel
theorem d_R_add_21 : decode b_R_add 21 = .ok (.dup, 1) := by decide +kernel
theorem d_R_add_22 : decode b_R_add 22 = .ok (.getfield 15, 3) := by decide +kernel
theorem d_R_add_25 : decode b_R_add 25 = .ok (.iconst 1, 1) := by decide +kernel
theorem d_R_add_26 : decode b_R_add 26 = .ok (.iadd, 1) := by decide +kernel
theorem d_R_add_27 : decode b_R_add 27 = .ok (.putfield 15, 3) := by decide +kernel
theorem d_R_add_30 : decode b_R_add 30 = .ok (.return_, 1) := by decide +kernel
def m_R_add (N : Nat) (σ : SX) (a1 : Int32) : Option (SX) :=
  (if 150 ≤ ((σ 6).1 0) then some σ else (if inb ((σ 6).1 0) 150 = true then some (w1 (w3 σ 6 1 ((σ 6).1 0) a1) 6 0 ((((w3 σ 6 1 ((σ 6).1 0) a1) 6).1 0) + 1)) else none))

set_option maxHeartbeats 4000000 in
set_option maxRecDepth 100000 in
theorem c_R_add (l : Launch) (dC : Nat → ClassId) (dI : Nat → Nat → Nat) (ad : Nat → Nat → Nat) (cs : Nat → ClassId) (sz N : Nat) (σ : SX) (a1 : Int32) {σ0 : SX} (hM : m_R_add N σ a1 = some σ0) : Met l y_R_add (wd y_R_add b_R_add 2 none) ({ frames := 0, cells := 0, slots := 0, locals := 0 }) (va_Pc [.ref (ad 6 0), .int a1] (preX dC dI ad cs sz σ)) (va_Qv (fun (u : SX) => u = σ0) (atX dC dI ad cs (va_A (wX ad cs σ) sz)) (va_A (wX ad cs σ) sz)) 0 0 (va_A (wX ad cs σ) sz) := by
  refine Met.ofW (cc := b_R_add) (maxL := 2) (ret := none) (by decide) rfl ?_
  intro p e s m args below meth c s₁ B hml hv
  obtain ⟨rfl, hsz, hP, hK, hD0, hN⟩ := hv
  have hx := B.exec
  have hb := B.bytes
  have hr := B.returns
  have hts := atoms_spec (ws := (wd y_R_add b_R_add 2 none)) B.pre
  have htb : ∀ w ∈ tb, w.before _ s = true := fun w h => hts w (List.mem_cons_of_mem _ h)
  have hown : s.vm.findClass R_R = some m.cls := findClass_of_methodNamed B.named
  have hlocks := B.notSynchronized
  subst hsz
  have hD := hD0.self (sz := s.heap.size)
  generalize hAe : va_A (wX ad cs σ) s.heap.size = A at hD ⊢
  have hA : ∀ q : Nat, s.heap.size ≤ q → A q := fun q h => by rw [← hAe]; exact Or.inr h
  have hS : va_S A s.heap s.heap [] := va_S.rf
  have hP : va_P (dC, dI) classes (wX ad cs σ) s.heap := hP
  have hl := lv_entry ([.ref (ad 6 0), .int a1]) (n := 2) (Nat.le_of_ble_eq_true rfl)
  rw [lg_entry_eq]
  generalize (lg_sl ([.ref (ad 6 0), .int a1]) ++ List.replicate (2 - (lg_sl ([.ref (ad 6 0), .int a1])).length) Slot.unset).toArray = ls at hl ⊢
  have hl : lv_has ls 2 [(0, .ref (ad 6 0)), (1, .int a1)] := hl
  rw [m_R_add] at hM
  refine lv_aload_n hx hb d_R_add_0 rfl (lv_at hl 0 rfl) ?_
  refine va_get (D := (dC, dI)) (ci := 5) (v := .int ((σ 6).1 0)) (C := R_R) (T := F_R) (N := 2) hx hb htb in_R hown hK hP 16 (g_R) rfl 1 (by decide) (htb _ k_92) (fun _ h9 => h9) rfl d_R_add_1 ?_
  refine lv_sipush (v := 150) hx hb d_R_add_4 (by decide) ?_
  refine lv_icmp_ge (tgt := 30) hx hb d_R_add_7 (by decide) (fun h7 => ?_) (fun h7 => ?_)
  · rw [if_pos h7] at hM
    have e9 := Option.some.inj hM
    exact W.vret hx hb hr (fun t ht hW => ⟨⟨σ, rfl, e9, by rw [ht]; exact hP, va_K.moved hW.alike hK, hD⟩, hS.F ht⟩) hS.2.2 d_R_add_30
  · rw [if_neg h7] at hM
    refine lv_aload_n hx hb d_R_add_10 rfl (lv_at hl 0 rfl) ?_
    refine va_get (D := (dC, dI)) (ci := 5) (v := .ref (ad 6 1)) (C := R_R) (T := F_R) (N := 2) hx hb htb in_R hown hK hP 16 (g_R) rfl 0 (by decide) (htb _ k_90) (fun _ h9 => h9) rfl d_R_add_11 ?_
    refine lv_aload_n hx hb d_R_add_14 rfl (lv_at hl 0 rfl) ?_
    refine va_get (D := (dC, dI)) (ci := 5) (v := .int ((σ 6).1 0)) (C := R_R) (T := F_R) (N := 2) hx hb htb in_R hown hK hP 16 (g_R) rfl 1 (by decide) (htb _ k_92) (fun _ h9 => h9) rfl d_R_add_15 ?_
    refine lv_iload_n hx hb d_R_add_18 rfl (lv_at hl 1 rfl) ?_
    have hg19 := gd_c hM
    have hM := gd_v hM
    refine va_iast (i := ((σ 6).1 0)) (x := a1) hx hb hK hP hD hS 17 0 (g_R_a1) rfl (inb_in hg19) d_R_add_19 (fun H locs hP hD hS => ?_)
    have hP := P_eq (t_R_1) hP
    have hD := D_eq (t_R_1) hD
    refine lv_aload_n hx hb d_R_add_20 rfl (lv_at hl 0 rfl) ?_
    refine lv_dup hx hb d_R_add_21 rfl ?_
    refine va_get (D := (dC, dI)) (ci := 5) (v := .int (((w3 σ 6 1 ((σ 6).1 0) a1) 6).1 0)) (C := R_R) (T := F_R) (N := 2) hx hb htb in_R hown hK hP 16 (g_R) rfl 1 (by decide) (htb _ k_92) (fun _ h9 => h9) rfl d_R_add_22 ?_
    refine lv_iconst (v := 1) hx hb d_R_add_25 (by decide) ?_
    refine lv_iadd hx hb d_R_add_26 ?_
    refine va_put (D := (dC, dI)) (ci := 5) (v := .int ((((w3 σ 6 1 ((σ 6).1 0) a1) 6).1 0) + 1)) (ty := .int) (C := R_R) (T := F_R) (N := 2) hx hb htb in_R ft_R ft_R_ok n_R hown hK hP hD hS 16 (g_R) rfl 1 (by decide) (htb _ k_92) (fun _ h9 => h9) rfl (by decide +kernel) rfl rfl (Nat.le_of_ble_eq_true rfl) d_R_add_27 (fun H locs hP hD hS => ?_)
    have hP := P_eq (s_R_0) hP
    have hD := D_eq (s_R_0) hD
    have e9 := Option.some.inj hM
    exact W.vret hx hb hr (fun t ht hW => ⟨⟨(w1 (w3 σ 6 1 ((σ 6).1 0) a1) 6 0 ((((w3 σ 6 1 ((σ 6).1 0) a1) 6).1 0) + 1)), rfl, e9, by rw [ht]; exact hP, va_K.moved hW.alike hK, hD⟩, hS.F ht⟩) hS.2.2 d_R_add_30

theorem d_R_forgetAll_0 : decode b_R_forgetAll 0 = .ok (.aload_n 0, 1) := by decide +kernel
theorem d_R_forgetAll_1 : decode b_R_forgetAll 1 = .ok (.iconst 0, 1) := by decide +kernel
theorem d_R_forgetAll_2 : decode b_R_forgetAll 2 = .ok (.putfield 15, 3) := by decide +kernel
theorem d_R_forgetAll_5 : decode b_R_forgetAll 5 = .ok (.return_, 1) := by decide +kernel
def m_R_forgetAll (N : Nat) (σ : SX) : Option (SX) :=
  some (w1 σ 6 0 0)

set_option maxHeartbeats 4000000 in
set_option maxRecDepth 100000 in
theorem c_R_forgetAll (l : Launch) (dC : Nat → ClassId) (dI : Nat → Nat → Nat) (ad : Nat → Nat → Nat) (cs : Nat → ClassId) (sz N : Nat) (σ : SX) {σ0 : SX} (hM : m_R_forgetAll N σ = some σ0) : Met l y_R_forgetAll (wd y_R_forgetAll b_R_forgetAll 1 none) ({ frames := 0, cells := 0, slots := 0, locals := 0 }) (va_Pc [.ref (ad 6 0)] (preX dC dI ad cs sz σ)) (va_Qv (fun (u : SX) => u = σ0) (atX dC dI ad cs (va_A (wX ad cs σ) sz)) (va_A (wX ad cs σ) sz)) 0 0 (va_A (wX ad cs σ) sz) := by
  refine Met.ofW (cc := b_R_forgetAll) (maxL := 1) (ret := none) (by decide) rfl ?_
  intro p e s m args below meth c s₁ B hml hv
  obtain ⟨rfl, hsz, hP, hK, hD0, hN⟩ := hv
  have hx := B.exec
  have hb := B.bytes
  have hr := B.returns
  have hts := atoms_spec (ws := (wd y_R_forgetAll b_R_forgetAll 1 none)) B.pre
  have htb : ∀ w ∈ tb, w.before _ s = true := fun w h => hts w (List.mem_cons_of_mem _ h)
  have hown : s.vm.findClass R_R = some m.cls := findClass_of_methodNamed B.named
  have hlocks := B.notSynchronized
  subst hsz
  have hD := hD0.self (sz := s.heap.size)
  generalize hAe : va_A (wX ad cs σ) s.heap.size = A at hD ⊢
  have hA : ∀ q : Nat, s.heap.size ≤ q → A q := fun q h => by rw [← hAe]; exact Or.inr h
  have hS : va_S A s.heap s.heap [] := va_S.rf
  have hP : va_P (dC, dI) classes (wX ad cs σ) s.heap := hP
  have hl := lv_entry ([.ref (ad 6 0)]) (n := 1) (Nat.le_of_ble_eq_true rfl)
  rw [lg_entry_eq]
  generalize (lg_sl ([.ref (ad 6 0)]) ++ List.replicate (1 - (lg_sl ([.ref (ad 6 0)])).length) Slot.unset).toArray = ls at hl ⊢
  have hl : lv_has ls 1 [(0, .ref (ad 6 0))] := hl
  rw [m_R_forgetAll] at hM
  refine lv_aload_n hx hb d_R_forgetAll_0 rfl (lv_at hl 0 rfl) ?_
  refine lv_iconst (v := 0) hx hb d_R_forgetAll_1 (by decide) ?_
  refine va_put (D := (dC, dI)) (ci := 5) (v := .int 0) (ty := .int) (C := R_R) (T := F_R) (N := 2) hx hb htb in_R ft_R ft_R_ok n_R hown hK hP hD hS 16 (g_R) rfl 1 (by decide) (htb _ k_92) (fun _ h9 => h9) rfl (by decide +kernel) rfl rfl (Nat.le_of_ble_eq_true rfl) d_R_forgetAll_2 (fun H locs hP hD hS => ?_)
  have hP := P_eq (s_R_0) hP
  have hD := D_eq (s_R_0) hD
  have e9 := Option.some.inj hM
  exact W.vret hx hb hr (fun t ht hW => ⟨⟨(w1 σ 6 0 0), rfl, e9, by rw [ht]; exact hP, va_K.moved hW.alike hK, hD⟩, hS.F ht⟩) hS.2.2 d_R_forgetAll_5

theorem d_O_writeMergedRun_0 : decode b_O_writeMergedRun 0 = .ok (.aload_n 0, 1) := by decide +kernel
theorem d_O_writeMergedRun_1 : decode b_O_writeMergedRun 1 = .ok (.getfield 33, 3) := by decide +kernel
theorem d_O_writeMergedRun_4 : decode b_O_writeMergedRun 4 = .ok (.invokevirtual 196, 3) := by decide +kernel
theorem d_O_writeMergedRun_7 : decode b_O_writeMergedRun 7 = .ok (.iconst 0, 1) := by decide +kernel
theorem d_O_writeMergedRun_8 : decode b_O_writeMergedRun 8 = .ok (.istore_n 1, 1) := by decide +kernel
theorem d_O_writeMergedRun_9 : decode b_O_writeMergedRun 9 = .ok (.iload_n 1, 1) := by decide +kernel
theorem d_O_writeMergedRun_10 : decode b_O_writeMergedRun 10 = .ok (.iconst 3, 1) := by decide +kernel
theorem d_O_writeMergedRun_11 : decode b_O_writeMergedRun 11 = .ok (.if_icmp .ge 44, 3) := by decide +kernel
theorem d_O_writeMergedRun_14 : decode b_O_writeMergedRun 14 = .ok (.aload_n 0, 1) := by decide +kernel
theorem d_O_writeMergedRun_15 : decode b_O_writeMergedRun 15 = .ok (.iload_n 1, 1) := by decide +kernel
theorem d_O_writeMergedRun_16 : decode b_O_writeMergedRun 16 = .ok (.invokevirtual 161, 3) := by decide +kernel
theorem d_O_writeMergedRun_19 : decode b_O_writeMergedRun 19 = .ok (.astore_n 2, 1) := by decide +kernel
theorem d_O_writeMergedRun_20 : decode b_O_writeMergedRun 20 = .ok (.aload_n 0, 1) := by decide +kernel
theorem d_O_writeMergedRun_21 : decode b_O_writeMergedRun 21 = .ok (.getfield 47, 3) := by decide +kernel
theorem d_O_writeMergedRun_24 : decode b_O_writeMergedRun 24 = .ok (.iload_n 1, 1) := by decide +kernel
theorem d_O_writeMergedRun_25 : decode b_O_writeMergedRun 25 = .ok (.iconst 0, 1) := by decide +kernel
theorem d_O_writeMergedRun_26 : decode b_O_writeMergedRun 26 = .ok (.iastore, 1) := by decide +kernel
theorem d_O_writeMergedRun_27 : decode b_O_writeMergedRun 27 = .ok (.aload_n 0, 1) := by decide +kernel
theorem d_O_writeMergedRun_28 : decode b_O_writeMergedRun 28 = .ok (.getfield 50, 3) := by decide +kernel
theorem d_O_writeMergedRun_31 : decode b_O_writeMergedRun 31 = .ok (.iload_n 1, 1) := by decide +kernel
theorem d_O_writeMergedRun_32 : decode b_O_writeMergedRun 32 = .ok (.aload_n 2, 1) := by decide +kernel
theorem d_O_writeMergedRun_33 : decode b_O_writeMergedRun 33 = .ok (.invokevirtual 232, 3) := by decide +kernel
theorem d_O_writeMergedRun_36 : decode b_O_writeMergedRun 36 = .ok (.ifCond .eq 7, 3) := by decide +kernel
theorem d_O_writeMergedRun_39 : decode b_O_writeMergedRun 39 = .ok (.iconst 0, 1) := by decide +kernel
theorem d_O_writeMergedRun_40 : decode b_O_writeMergedRun 40 = .ok (.goto 8, 3) := by decide +kernel
theorem d_O_writeMergedRun_43 : decode b_O_writeMergedRun 43 = .ok (.aload_n 2, 1) := by decide +kernel
theorem d_O_writeMergedRun_44 : decode b_O_writeMergedRun 44 = .ok (.iconst 0, 1) := by decide +kernel
theorem d_O_writeMergedRun_45 : decode b_O_writeMergedRun 45 = .ok (.invokevirtual 149, 3) := by decide +kernel
theorem d_O_writeMergedRun_48 : decode b_O_writeMergedRun 48 = .ok (.iastore, 1) := by decide +kernel
theorem d_O_writeMergedRun_49 : decode b_O_writeMergedRun 49 = .ok (.iinc 1 1, 3) := by decide +kernel
theorem d_O_writeMergedRun_52 : decode b_O_writeMergedRun 52 = .ok (.goto (-43), 3) := by decide +kernel
theorem d_O_writeMergedRun_55 : decode b_O_writeMergedRun 55 = .ok (.iconst 0, 1) := by decide +kernel
theorem d_O_writeMergedRun_56 : decode b_O_writeMergedRun 56 = .ok (.istore_n 1, 1) := by decide +kernel
theorem d_O_writeMergedRun_57 : decode b_O_writeMergedRun 57 = .ok (.iload_n 1, 1) := by decide +kernel
theorem d_O_writeMergedRun_58 : decode b_O_writeMergedRun 58 = .ok (.sipush 150, 3) := by decide +kernel
theorem d_O_writeMergedRun_61 : decode b_O_writeMergedRun 61 = .ok (.if_icmp .ge 55, 3) := by decide +kernel
theorem d_O_writeMergedRun_64 : decode b_O_writeMergedRun 64 = .ok (.aload_n 0, 1) := by decide +kernel
theorem d_O_writeMergedRun_65 : decode b_O_writeMergedRun 65 = .ok (.invokevirtual 238, 3) := by decide +kernel
theorem d_O_writeMergedRun_68 : decode b_O_writeMergedRun 68 = .ok (.istore_n 2, 1) := by decide +kernel
theorem d_O_writeMergedRun_69 : decode b_O_writeMergedRun 69 = .ok (.iload_n 2, 1) := by decide +kernel
theorem d_O_writeMergedRun_70 : decode b_O_writeMergedRun 70 = .ok (.iconst (-1), 1) := by decide +kernel
theorem d_O_writeMergedRun_71 : decode b_O_writeMergedRun 71 = .ok (.if_icmp .ne 5, 3) := by decide +kernel
theorem d_O_writeMergedRun_74 : decode b_O_writeMergedRun 74 = .ok (.iconst 1, 1) := by decide +kernel
theorem d_O_writeMergedRun_75 : decode b_O_writeMergedRun 75 = .ok (.ireturn, 1) := by decide +kernel
theorem d_O_writeMergedRun_76 : decode b_O_writeMergedRun 76 = .ok (.aload_n 0, 1) := by decide +kernel
theorem d_O_writeMergedRun_77 : decode b_O_writeMergedRun 77 = .ok (.getfield 26, 3) := by decide +kernel
theorem d_O_writeMergedRun_80 : decode b_O_writeMergedRun 80 = .ok (.invokevirtual 201, 3) := by decide +kernel
theorem d_O_writeMergedRun_83 : decode b_O_writeMergedRun 83 = .ok (.ifCond .ne 5, 3) := by decide +kernel
theorem d_O_writeMergedRun_86 : decode b_O_writeMergedRun 86 = .ok (.iconst 0, 1) := by decide +kernel
theorem d_O_writeMergedRun_87 : decode b_O_writeMergedRun 87 = .ok (.ireturn, 1) := by decide +kernel
theorem d_O_writeMergedRun_88 : decode b_O_writeMergedRun 88 = .ok (.aload_n 0, 1) := by decide +kernel
theorem d_O_writeMergedRun_89 : decode b_O_writeMergedRun 89 = .ok (.getfield 33, 3) := by decide +kernel
theorem d_O_writeMergedRun_92 : decode b_O_writeMergedRun 92 = .ok (.aload_n 0, 1) := by decide +kernel
theorem d_O_writeMergedRun_93 : decode b_O_writeMergedRun 93 = .ok (.iload_n 2, 1) := by decide +kernel
theorem d_O_writeMergedRun_94 : decode b_O_writeMergedRun 94 = .ok (.invokevirtual 241, 3) := by decide +kernel
theorem d_O_writeMergedRun_97 : decode b_O_writeMergedRun 97 = .ok (.invokevirtual 207, 3) := by decide +kernel
theorem d_O_writeMergedRun_100 : decode b_O_writeMergedRun 100 = .ok (.aload_n 0, 1) := by decide +kernel
theorem d_O_writeMergedRun_101 : decode b_O_writeMergedRun 101 = .ok (.getfield 47, 3) := by decide +kernel
theorem d_O_writeMergedRun_104 : decode b_O_writeMergedRun 104 = .ok (.iload_n 2, 1) := by decide +kernel
theorem d_O_writeMergedRun_105 : decode b_O_writeMergedRun 105 = .ok (.dup2, 1) := by decide +kernel
theorem d_O_writeMergedRun_106 : decode b_O_writeMergedRun 106 = .ok (.iaload, 1) := by decide +kernel
theorem d_O_writeMergedRun_107 : decode b_O_writeMergedRun 107 = .ok (.iconst 1, 1) := by decide +kernel
theorem d_O_writeMergedRun_108 : decode b_O_writeMergedRun 108 = .ok (.iadd, 1) := by decide +kernel
theorem d_O_writeMergedRun_109 : decode b_O_writeMergedRun 109 = .ok (.iastore, 1) := by decide +kernel
theorem d_O_writeMergedRun_110 : decode b_O_writeMergedRun 110 = .ok (.iinc 1 1, 3) := by decide +kernel
theorem d_O_writeMergedRun_113 : decode b_O_writeMergedRun 113 = .ok (.goto (-56), 3) := by decide +kernel
theorem d_O_writeMergedRun_116 : decode b_O_writeMergedRun 116 = .ok (.iconst 1, 1) := by decide +kernel
theorem d_O_writeMergedRun_117 : decode b_O_writeMergedRun 117 = .ok (.ireturn, 1) := by decide +kernel
def m_O_writeMergedRun_57 (N : Nat) : Nat → SX → Int32 → Option (Int32 × SX)
  | 0, _, _ => none
  | n57 + 1, σ, v1 =>
    (if 150 ≤ v1 then some (1, σ) else (bI (m_O_sourceOfFirstCard N σ) fun r65 σ65 => (if r65 = (-1) then some (1, σ) else (bI (m_V_writeCard N σ) fun r80 σ80 => (if r80 = 0 then some (0, σ80) else (bI (m_O_nextCardOf N σ80 r65) fun r94 σ94 => (bV (m_R_add N σ80 r94) fun σ97 => (if inb r65 3 = true then (if inb r65 3 = true then m_O_writeMergedRun_57 N n57 (w3 σ97 0 2 r65 (((σ97 0).2 2 r65.toNatClampNeg) + 1)) (v1 + 1) else none) else none))))))))

def m_O_writeMergedRun_9 (N : Nat) : Nat → SX → Int32 → Option (Int32 × SX)
  | 0, _, _ => none
  | n9 + 1, σ, v1 =>
    (if 3 ≤ v1 then m_O_writeMergedRun_57 N N σ 0 else (bR (m_O_tapeInRole N σ v1) fun x16 σ16 => (if inb v1 3 = true then (bI (m_T_hasDummy N (w3 σ 0 2 v1 0) x16) fun r33 σ33 => (if r33 = 0 then (bI (m_T_runLength N (w3 σ 0 2 v1 0) x16 0) fun r45 σ45 => (if inb v1 3 = true then m_O_writeMergedRun_9 N n9 (w3 (w3 σ 0 2 v1 0) 0 3 v1 r45) (v1 + 1) else none)) else (if inb v1 3 = true then m_O_writeMergedRun_9 N n9 (w3 (w3 σ 0 2 v1 0) 0 3 v1 0) (v1 + 1) else none))) else none)))

def m_O_writeMergedRun (N : Nat) (σ : SX) : Option (Int32 × SX) :=
  (bV (m_R_forgetAll N σ) fun σ4 => m_O_writeMergedRun_9 N N σ4 0)

set_option maxHeartbeats 4000000 in
set_option maxRecDepth 100000 in
theorem c_O_writeMergedRun (l : Launch) (dC : Nat → ClassId) (dI : Nat → Nat → Nat) (ad : Nat → Nat → Nat) (cs : Nat → ClassId) (sz N : Nat) (σ : SX) {r0 : Int32} {σ0 : SX} (hM : m_O_writeMergedRun N σ = some (r0, σ0)) : Met l y_O_writeMergedRun (wd y_O_writeMergedRun b_O_writeMergedRun 3 (some .boolean)) ({ frames := 4, cells := 0, slots := 0, locals := 92 }) (va_Pc [.ref (ad 0 0)] (preX dC dI ad cs sz σ)) (va_Qi (fun (r : Int32) (u : SX) => r = r0 ∧ u = σ0) (atX dC dI ad cs (va_A (wX ad cs σ) sz)) (va_A (wX ad cs σ) sz)) 0 0 (va_A (wX ad cs σ) sz) := by
  refine Met.ofW (cc := b_O_writeMergedRun) (maxL := 3) (ret := (some .boolean)) (by decide) rfl ?_
  intro p e s m args below meth c s₁ B hml hv
  obtain ⟨rfl, hsz, hP, hK, hD0, hN⟩ := hv
  have hx := B.exec
  have hb := B.bytes
  have hr := B.returns
  have hts := atoms_spec (ws := (wd y_O_writeMergedRun b_O_writeMergedRun 3 (some .boolean))) B.pre
  have htb : ∀ w ∈ tb, w.before _ s = true := fun w h => hts w (List.mem_cons_of_mem _ h)
  have hown : s.vm.findClass R_O = some m.cls := findClass_of_methodNamed B.named
  have hlocks := B.notSynchronized
  subst hsz
  have hD := hD0.self (sz := s.heap.size)
  generalize hAe : va_A (wX ad cs σ) s.heap.size = A at hD ⊢
  have hA : ∀ q : Nat, s.heap.size ≤ q → A q := fun q h => by rw [← hAe]; exact Or.inr h
  have hS : va_S A s.heap s.heap [] := va_S.rf
  have hP : va_P (dC, dI) classes (wX ad cs σ) s.heap := hP
  have hl := lv_entry ([.ref (ad 0 0)]) (n := 3) (Nat.le_of_ble_eq_true rfl)
  rw [lg_entry_eq]
  generalize (lg_sl ([.ref (ad 0 0)]) ++ List.replicate (3 - (lg_sl ([.ref (ad 0 0)])).length) Slot.unset).toArray = ls at hl ⊢
  have hl : lv_has ls 3 [(0, .ref (ad 0 0))] := hl
  rw [m_O_writeMergedRun] at hM
  refine W_loop (pc := 57) (fun n57 H locs ls st => ∃ (σ : SX) (v1 : Int32), st = [] ∧ m_O_writeMergedRun_57 N n57 σ v1 = some (r0, σ0) ∧ lv_has ls 3 [(0, .ref (ad 0 0)), (1, .int v1)] ∧ va_P (dC, dI) classes (wX ad cs σ) H ∧ va_D A (wX ad cs σ) ∧ va_S A s.heap H locs) ?_ ?_ ?_
  · rintro H locs ls st ⟨σ, v1, -, hM, -⟩
    rw [m_O_writeMergedRun_57] at hM; cases hM
  · intro n57 K57 H locs ls st hI
    obtain ⟨σ, v1, rfl, hM, hl, hP, hD, hS⟩ := hI
    rw [m_O_writeMergedRun_57] at hM
    refine lv_iload_n hx hb d_O_writeMergedRun_57 rfl (lv_at hl 1 rfl) ?_
    refine lv_sipush (v := 150) hx hb d_O_writeMergedRun_58 (by decide) ?_
    refine lv_icmp_ge (tgt := 116) hx hb d_O_writeMergedRun_61 (by decide) (fun h61 => ?_) (fun h61 => ?_)
    · rw [if_pos h61] at hM
      refine lv_iconst (v := 1) hx hb d_O_writeMergedRun_116 (by decide) ?_
      have e9 := Prod.mk.inj (Option.some.inj hM)
      exact W.zret (ty := .boolean) (v := 1) hx hb hr rfl (fun t ht hW => ⟨⟨1, σ, rfl, e9, by rw [ht]; exact hP, va_K.moved hW.alike hK, hD⟩, hS.F ht⟩) hS.2.2 d_O_writeMergedRun_117
    · rw [if_neg h61] at hM
      refine lv_aload_n hx hb d_O_writeMergedRun_64 rfl (lv_at hl 0 rfl) ?_
      obtain ⟨x65, y65, hq65, hM⟩ := bI_some hM
      refine va_calli (va_runV (As := []) (rest := []) ⟨hx, hb, hml, hown, hts⟩ (c_O_sourceOfFirstCard l dC dI ad cs _ N σ hq65) (cwV 0 hts (goodV k_574 k_576 ks_O_sourceOfFirstCard k_1 k_577) rfl rfl rfl ⟨rfl, by decide, by decide, by decide +kernel⟩ ⟨Nat.le_of_ble_eq_true rfl, Nat.le_of_ble_eq_true rfl⟩) ⟨blindX, va_recv hK hP rfl (g_O), payX hP hK hD hN⟩ rfl rfl hl.1 rfl (lv_room (Nat.le_of_ble_eq_true rfl)) d_O_writeMergedRun_65 ⟨Nat.zero_le _, Nat.zero_le _⟩) hS (fun q h0 h => absurd h0 (Nat.not_lt.mpr h)) (fun q h => hA q (Nat.le_trans hS.1 h)) (fun r65 u t H locs ht hvm hpost hB hz1 hk1 hS => ?_)
      obtain ⟨e1, e2⟩ := hpost
      subst e1
      subst e2
      have hP := keepP hP hk1
      refine lv_istore_n hx hb d_O_writeMergedRun_68 rfl hl (by decide) (lv' := [(2, .int r65), (0, .ref (ad 0 0)), (1, .int v1)]) rfl (fun ls hl => ?_)
      refine lv_iload_n hx hb d_O_writeMergedRun_69 rfl (lv_at hl 0 rfl) ?_
      refine lv_iconst (v := (-1)) hx hb d_O_writeMergedRun_70 (by decide) ?_
      refine lv_icmp_ne (tgt := 76) hx hb d_O_writeMergedRun_71 (by decide) (fun h71 => ?_) (fun h71 => ?_)
      · rw [if_neg h71] at hM
        refine lv_aload_n hx hb d_O_writeMergedRun_76 rfl (lv_at hl 1 rfl) ?_
        refine va_get (D := (dC, dI)) (ci := 0) (v := .ref (ad 5 0)) (C := R_O) (T := F_O) (N := 12) hx hb htb in_O hown hK hP 0 (g_O) rfl 4 (by decide) (htb _ k_152) (fun _ h9 => h9) rfl d_O_writeMergedRun_77 ?_
        have hF1 := free_all hD hS hA
        obtain ⟨x80, y80, hq80, hM⟩ := bI_some hM
        refine va_calli (va_runV (As := []) (rest := []) ⟨hx, hb, hml, hown, hts⟩ (c_V_writeCard l dC dI ad cs _ N σ hq80) (cwV 0 hts (goodV k_508 k_509 k_510 k_4 k_511) rfl rfl rfl ⟨rfl, by decide, by decide, by decide +kernel⟩ ⟨Nat.le_of_ble_eq_true rfl, Nat.le_of_ble_eq_true rfl⟩) ⟨blindX, va_recv hK hP rfl (g_V), payX hP hK hD hN⟩ rfl rfl hl.1 rfl (lv_room (Nat.le_of_ble_eq_true rfl)) d_O_writeMergedRun_80 ⟨Nat.zero_le _, Nat.zero_le _⟩) hS (fun q _ h => hF1 q h) hF1 (fun r80 σ80 t H locs ht hvm hpost hB hz1 hk1 hS => ?_)
        obtain ⟨e1, e2⟩ := hpost
        subst e1
        subst e2
        obtain ⟨hP1, hK1, hD1⟩ := hB
        rw [ht] at hP1
        have hP := hP1
        have hD := hD1.weaken (fun _ _ _ h => hF1 _ h)
        refine lv_if_ne (tgt := 88) hx hb d_O_writeMergedRun_83 (by decide) (fun h83 => ?_) (fun h83 => ?_)
        · rw [if_neg h83] at hM
          refine lv_aload_n hx hb d_O_writeMergedRun_88 rfl (lv_at hl 1 rfl) ?_
          refine va_get (D := (dC, dI)) (ci := 0) (v := .ref (ad 6 0)) (C := R_O) (T := F_O) (N := 12) hx hb htb in_O hown hK hP 0 (g_O) rfl 5 (by decide) (htb _ k_153) (fun _ h9 => h9) rfl d_O_writeMergedRun_89 ?_
          refine lv_aload_n hx hb d_O_writeMergedRun_92 rfl (lv_at hl 1 rfl) ?_
          refine lv_iload_n hx hb d_O_writeMergedRun_93 rfl (lv_at hl 0 rfl) ?_
          obtain ⟨x94, y94, hq94, hM⟩ := bI_some hM
          refine va_calli (va_runV (As := [.int r65]) (rest := [.ref (ad 6 0)]) ⟨hx, hb, hml, hown, hts⟩ (c_O_nextCardOf l dC dI ad cs _ N σ80 r65 hq94) (cwV 1 hts (goodV k_578 k_580 ks_O_nextCardOf k_1 k_581) rfl rfl rfl ⟨rfl, by decide, by decide, by decide +kernel⟩ ⟨Nat.le_of_ble_eq_true rfl, Nat.le_of_ble_eq_true rfl⟩) ⟨blindX, va_recv hK hP rfl (g_O), payX hP hK hD hN⟩ rfl rfl hl.1 rfl (lv_room (Nat.le_of_ble_eq_true rfl)) d_O_writeMergedRun_94 ⟨Nat.zero_le _, Nat.zero_le _⟩) hS (fun q h0 h => absurd h0 (Nat.not_lt.mpr h)) (fun q h => hA q (Nat.le_trans hS.1 h)) (fun r94 u t H locs ht hvm hpost hB hz1 hk1 hS => ?_)
          obtain ⟨e1, e2⟩ := hpost
          subst e1
          subst e2
          have hP := keepP hP hk1
          have hF1 := free_all hD hS hA
          obtain ⟨y97, hq97, hM⟩ := bV_some hM
          refine va_callv (va_runV (As := [.int r94]) (rest := []) ⟨hx, hb, hml, hown, hts⟩ (c_R_add l dC dI ad cs _ N σ80 r94 hq97) (cwV 1 hts (goodV k_516 k_517 k_518 k_5 k_519) rfl rfl rfl ⟨rfl, by decide, by decide, by decide +kernel⟩ ⟨Nat.le_of_ble_eq_true rfl, Nat.le_of_ble_eq_true rfl⟩) ⟨blindX, va_recv hK hP rfl (g_R), payX hP hK hD hN⟩ rfl rfl hl.1 rfl (lv_room (Nat.le_of_ble_eq_true rfl)) d_O_writeMergedRun_97 ⟨Nat.zero_le _, Nat.zero_le _⟩) hS (fun q _ h => hF1 q h) hF1 (fun σ97 t H locs ht hvm hpost hB hz1 hk1 hS => ?_)
          subst hpost
          obtain ⟨hP1, hK1, hD1⟩ := hB
          rw [ht] at hP1
          have hP := hP1
          have hD := hD1.weaken (fun _ _ _ h => hF1 _ h)
          refine lv_aload_n hx hb d_O_writeMergedRun_100 rfl (lv_at hl 1 rfl) ?_
          refine va_get (D := (dC, dI)) (ci := 0) (v := .ref (ad 0 2)) (C := R_O) (T := F_O) (N := 12) hx hb htb in_O hown hK hP 0 (g_O) rfl 8 (by decide) (htb _ k_156) (fun _ h9 => h9) rfl d_O_writeMergedRun_101 ?_
          refine lv_iload_n hx hb d_O_writeMergedRun_104 rfl (lv_at hl 0 rfl) ?_
          refine lv_dup2_11 hx hb d_O_writeMergedRun_105 rfl rfl ?_
          have hg106 := gd_c hM
          have hM := gd_v hM
          refine va_iald hx hb hK hP 32 0 (g_O_a2) rfl (inb_in hg106) d_O_writeMergedRun_106 ?_
          refine lv_iconst (v := 1) hx hb d_O_writeMergedRun_107 (by decide) ?_
          refine lv_iadd hx hb d_O_writeMergedRun_108 ?_
          have hg109 := gd_c hM
          have hM := gd_v hM
          refine va_iast (i := r65) (x := (((σ97 0).2 2 r65.toNatClampNeg) + 1)) hx hb hK hP hD hS 32 0 (g_O_a2) rfl (inb_in hg109) d_O_writeMergedRun_109 (fun H locs hP hD hS => ?_)
          have hP := P_eq (t_O_2) hP
          have hD := D_eq (t_O_2) hD
          refine lv_iinc (k := 2) (v := (v1 + 1)) hx hb d_O_writeMergedRun_110 hl rfl rfl (by decide) (lv' := [(1, .int (v1 + 1)), (2, .int r65), (0, .ref (ad 0 0))]) rfl (fun ls hl => ?_)
          refine lv_goto (tgt := 57) hx hb d_O_writeMergedRun_113 (by decide) ?_
          exact K57 _ _ _ _ ⟨(w3 σ97 0 2 r65 (((σ97 0).2 2 r65.toNatClampNeg) + 1)), (v1 + 1), rfl, hM, lv_sub hl [2, 0] rfl, hP, hD, hS⟩
        · rw [if_pos h83] at hM
          refine lv_iconst (v := 0) hx hb d_O_writeMergedRun_86 (by decide) ?_
          have e9 := Prod.mk.inj (Option.some.inj hM)
          exact W.zret (ty := .boolean) (v := 0) hx hb hr rfl (fun t ht hW => ⟨⟨0, σ80, rfl, e9, by rw [ht]; exact hP, va_K.moved hW.alike hK, hD⟩, hS.F ht⟩) hS.2.2 d_O_writeMergedRun_87
      · rw [if_pos h71] at hM
        refine lv_iconst (v := 1) hx hb d_O_writeMergedRun_74 (by decide) ?_
        have e9 := Prod.mk.inj (Option.some.inj hM)
        exact W.zret (ty := .boolean) (v := 1) hx hb hr rfl (fun t ht hW => ⟨⟨1, σ, rfl, e9, by rw [ht]; exact hP, va_K.moved hW.alike hK, hD⟩, hS.F ht⟩) hS.2.2 d_O_writeMergedRun_75
  intro K57
  refine W_loop (pc := 9) (fun n9 H locs ls st => ∃ (σ : SX) (v1 : Int32), st = [] ∧ m_O_writeMergedRun_9 N n9 σ v1 = some (r0, σ0) ∧ lv_has ls 3 [(0, .ref (ad 0 0)), (1, .int v1)] ∧ va_P (dC, dI) classes (wX ad cs σ) H ∧ va_D A (wX ad cs σ) ∧ va_S A s.heap H locs) ?_ ?_ ?_
  · rintro H locs ls st ⟨σ, v1, -, hM, -⟩
    rw [m_O_writeMergedRun_9] at hM; cases hM
  · intro n9 K9 H locs ls st hI
    obtain ⟨σ, v1, rfl, hM, hl, hP, hD, hS⟩ := hI
    rw [m_O_writeMergedRun_9] at hM
    refine lv_iload_n hx hb d_O_writeMergedRun_9 rfl (lv_at hl 1 rfl) ?_
    refine lv_iconst (v := 3) hx hb d_O_writeMergedRun_10 (by decide) ?_
    refine lv_icmp_ge (tgt := 55) hx hb d_O_writeMergedRun_11 (by decide) (fun h11 => ?_) (fun h11 => ?_)
    · rw [if_pos h11] at hM
      refine lv_iconst (v := 0) hx hb d_O_writeMergedRun_55 (by decide) ?_
      refine lv_istore_n hx hb d_O_writeMergedRun_56 rfl hl (by decide) (lv' := [(1, .int 0), (0, .ref (ad 0 0))]) rfl (fun ls hl => ?_)
      exact K57 N _ _ _ _ ⟨σ, 0, rfl, hM, lv_sub hl [1, 0] rfl, hP, hD, hS⟩
    · rw [if_neg h11] at hM
      refine lv_aload_n hx hb d_O_writeMergedRun_14 rfl (lv_at hl 0 rfl) ?_
      refine lv_iload_n hx hb d_O_writeMergedRun_15 rfl (lv_at hl 1 rfl) ?_
      obtain ⟨x16, y16, hq16, hM⟩ := bR_some hM
      refine va_callr (va_runV (As := [.int v1]) (rest := []) ⟨hx, hb, hml, hown, hts⟩ (c_O_tapeInRole l dC dI ad cs _ N σ v1 hq16) (cwV 1 hts (goodV k_305 k_307 ks_O_tapeInRole k_1 k_308) rfl rfl rfl ⟨rfl, by decide, by decide, by decide +kernel⟩ ⟨Nat.le_of_ble_eq_true rfl, Nat.le_of_ble_eq_true rfl⟩) ⟨blindX, va_recv hK hP rfl (g_O), payX hP hK hD hN⟩ rfl rfl hl.1 rfl (lv_room (Nat.le_of_ble_eq_true rfl)) d_O_writeMergedRun_16 ⟨Nat.zero_le _, Nat.zero_le _⟩) hS (fun q h0 h => absurd h0 (Nat.not_lt.mpr h)) (fun q h => hA q (Nat.le_trans hS.1 h)) (fun u ra t H locs ht hvm hpost hB hz1 hk1 hS => ?_)
      subst hpost
      obtain ⟨rfl, hx16⟩ := hB
      have hP := keepP hP hk1
      refine lv_astore_n hx hb d_O_writeMergedRun_19 rfl hl (by decide) (lv' := [(2, .ref (ad (7 + x16) 0)), (0, .ref (ad 0 0)), (1, .int v1)]) rfl (fun ls hl => ?_)
      refine lv_aload_n hx hb d_O_writeMergedRun_20 rfl (lv_at hl 1 rfl) ?_
      refine va_get (D := (dC, dI)) (ci := 0) (v := .ref (ad 0 2)) (C := R_O) (T := F_O) (N := 12) hx hb htb in_O hown hK hP 0 (g_O) rfl 8 (by decide) (htb _ k_156) (fun _ h9 => h9) rfl d_O_writeMergedRun_21 ?_
      refine lv_iload_n hx hb d_O_writeMergedRun_24 rfl (lv_at hl 2 rfl) ?_
      refine lv_iconst (v := 0) hx hb d_O_writeMergedRun_25 (by decide) ?_
      have hg26 := gd_c hM
      have hM := gd_v hM
      refine va_iast (i := v1) (x := 0) hx hb hK hP hD hS 32 0 (g_O_a2) rfl (inb_in hg26) d_O_writeMergedRun_26 (fun H locs hP hD hS => ?_)
      have hP := P_eq (t_O_2) hP
      have hD := D_eq (t_O_2) hD
      refine lv_aload_n hx hb d_O_writeMergedRun_27 rfl (lv_at hl 1 rfl) ?_
      refine va_get (D := (dC, dI)) (ci := 0) (v := .ref (ad 0 3)) (C := R_O) (T := F_O) (N := 12) hx hb htb in_O hown hK hP 0 (g_O) rfl 9 (by decide) (htb _ k_157) (fun _ h9 => h9) rfl d_O_writeMergedRun_28 ?_
      refine lv_iload_n hx hb d_O_writeMergedRun_31 rfl (lv_at hl 2 rfl) ?_
      refine lv_aload_n hx hb d_O_writeMergedRun_32 rfl (lv_at hl 0 rfl) ?_
      obtain ⟨x33, y33, hq33, hM⟩ := bI_some hM
      refine va_calli (va_runV (As := []) (rest := [.int v1, .ref (ad 0 3)]) ⟨hx, hb, hml, hown, hts⟩ (c_T_hasDummy l dC dI ad cs _ N (w3 σ 0 2 v1 0) x16 hx16 hq33) (cwV 0 hts (goodV k_558 k_559 k_560 k_7 k_561) rfl rfl rfl ⟨rfl, by decide, by decide, by decide +kernel⟩ ⟨Nat.le_of_ble_eq_true rfl, Nat.le_of_ble_eq_true rfl⟩) ⟨blindX, va_recv hK hP rfl (g_T hx16), payX hP hK hD hN⟩ rfl rfl hl.1 rfl (lv_room (Nat.le_of_ble_eq_true rfl)) d_O_writeMergedRun_33 ⟨Nat.zero_le _, Nat.zero_le _⟩) hS (fun q h0 h => absurd h0 (Nat.not_lt.mpr h)) (fun q h => hA q (Nat.le_trans hS.1 h)) (fun r33 u t H locs ht hvm hpost hB hz1 hk1 hS => ?_)
      obtain ⟨e1, e2⟩ := hpost
      subst e1
      subst e2
      have hP := keepP hP hk1
      refine lv_if_eq (tgt := 43) hx hb d_O_writeMergedRun_36 (by decide) (fun h36 => ?_) (fun h36 => ?_)
      · rw [if_pos h36] at hM
        refine lv_aload_n hx hb d_O_writeMergedRun_43 rfl (lv_at hl 0 rfl) ?_
        refine lv_iconst (v := 0) hx hb d_O_writeMergedRun_44 (by decide) ?_
        obtain ⟨x45, y45, hq45, hM⟩ := bI_some hM
        refine va_calli (va_runV (As := [.int 0]) (rest := [.int v1, .ref (ad 0 3)]) ⟨hx, hb, hml, hown, hts⟩ (c_T_runLength l dC dI ad cs _ N (w3 σ 0 2 v1 0) x16 hx16 0 hq45) (cwV 1 hts (goodV k_268 k_269 k_270 k_7 k_271) rfl rfl rfl ⟨rfl, by decide, by decide, by decide +kernel⟩ ⟨Nat.le_of_ble_eq_true rfl, Nat.le_of_ble_eq_true rfl⟩) ⟨blindX, va_recv hK hP rfl (g_T hx16), payX hP hK hD hN⟩ rfl rfl hl.1 rfl (lv_room (Nat.le_of_ble_eq_true rfl)) d_O_writeMergedRun_45 ⟨Nat.zero_le _, Nat.zero_le _⟩) hS (fun q h0 h => absurd h0 (Nat.not_lt.mpr h)) (fun q h => hA q (Nat.le_trans hS.1 h)) (fun r45 u t H locs ht hvm hpost hB hz1 hk1 hS => ?_)
        obtain ⟨e1, e2⟩ := hpost
        subst e1
        subst e2
        have hP := keepP hP hk1
        have hg48 := gd_c hM
        have hM := gd_v hM
        refine va_iast (i := v1) (x := r45) hx hb hK hP hD hS 33 0 (g_O_a3) rfl (inb_in hg48) d_O_writeMergedRun_48 (fun H locs hP hD hS => ?_)
        have hP := P_eq (t_O_3) hP
        have hD := D_eq (t_O_3) hD
        refine lv_iinc (k := 2) (v := (v1 + 1)) hx hb d_O_writeMergedRun_49 hl rfl rfl (by decide) (lv' := [(1, .int (v1 + 1)), (2, .ref (ad (7 + x16) 0)), (0, .ref (ad 0 0))]) rfl (fun ls hl => ?_)
        refine lv_goto (tgt := 9) hx hb d_O_writeMergedRun_52 (by decide) ?_
        exact K9 _ _ _ _ ⟨(w3 (w3 σ 0 2 v1 0) 0 3 v1 r45), (v1 + 1), rfl, hM, lv_sub hl [2, 0] rfl, hP, hD, hS⟩
      · rw [if_neg h36] at hM
        refine lv_iconst (v := 0) hx hb d_O_writeMergedRun_39 (by decide) ?_
        refine lv_goto (tgt := 48) hx hb d_O_writeMergedRun_40 (by decide) ?_
        have hg48 := gd_c hM
        have hM := gd_v hM
        refine va_iast (i := v1) (x := 0) hx hb hK hP hD hS 33 0 (g_O_a3) rfl (inb_in hg48) d_O_writeMergedRun_48 (fun H locs hP hD hS => ?_)
        have hP := P_eq (t_O_3) hP
        have hD := D_eq (t_O_3) hD
        refine lv_iinc (k := 2) (v := (v1 + 1)) hx hb d_O_writeMergedRun_49 hl rfl rfl (by decide) (lv' := [(1, .int (v1 + 1)), (2, .ref (ad (7 + x16) 0)), (0, .ref (ad 0 0))]) rfl (fun ls hl => ?_)
        refine lv_goto (tgt := 9) hx hb d_O_writeMergedRun_52 (by decide) ?_
        exact K9 _ _ _ _ ⟨(w3 (w3 σ 0 2 v1 0) 0 3 v1 0), (v1 + 1), rfl, hM, lv_sub hl [2, 0] rfl, hP, hD, hS⟩
  intro K9
  refine lv_aload_n hx hb d_O_writeMergedRun_0 rfl (lv_at hl 0 rfl) ?_
  refine va_get (D := (dC, dI)) (ci := 0) (v := .ref (ad 6 0)) (C := R_O) (T := F_O) (N := 12) hx hb htb in_O hown hK hP 0 (g_O) rfl 5 (by decide) (htb _ k_153) (fun _ h9 => h9) rfl d_O_writeMergedRun_1 ?_
  have hF1 := free_all hD hS hA
  obtain ⟨y4, hq4, hM⟩ := bV_some hM
  refine va_callv (va_runV (As := []) (rest := []) ⟨hx, hb, hml, hown, hts⟩ (c_R_forgetAll l dC dI ad cs _ N σ hq4) (cwV 0 hts (goodV k_499 k_500 k_501 k_5 k_502) rfl rfl rfl ⟨rfl, by decide, by decide, by decide +kernel⟩ ⟨Nat.le_of_ble_eq_true rfl, Nat.le_of_ble_eq_true rfl⟩) ⟨blindX, va_recv hK hP rfl (g_R), payX hP hK hD hN⟩ rfl rfl hl.1 rfl (lv_room (Nat.le_of_ble_eq_true rfl)) d_O_writeMergedRun_4 ⟨Nat.zero_le _, Nat.zero_le _⟩) hS (fun q _ h => hF1 q h) hF1 (fun σ4 t H locs ht hvm hpost hB hz1 hk1 hS => ?_)
  subst hpost
  obtain ⟨hP1, hK1, hD1⟩ := hB
  rw [ht] at hP1
  have hP := hP1
  have hD := hD1.weaken (fun _ _ _ h => hF1 _ h)
  refine lv_iconst (v := 0) hx hb d_O_writeMergedRun_7 (by decide) ?_
  refine lv_istore_n hx hb d_O_writeMergedRun_8 rfl hl (by decide) (lv' := [(1, .int 0), (0, .ref (ad 0 0))]) rfl (fun ls hl => ?_)
  exact K9 N _ _ _ _ ⟨σ4, 0, rfl, hM, lv_sub hl [1, 0] rfl, hP, hD, hS⟩

theorem d_T_append_0 : decode b_T_append 0 = .ok (.aload_n 0, 1) := by decide +kernel
theorem d_T_append_1 : decode b_T_append 1 = .ok (.getfield 22, 3) := by decide +kernel
theorem d_T_append_4 : decode b_T_append 4 = .ok (.sipush 150, 3) := by decide +kernel
theorem d_T_append_7 : decode b_T_append 7 = .ok (.if_icmp .ge 18, 3) := by decide +kernel
theorem d_T_append_10 : decode b_T_append 10 = .ok (.aload_n 1, 1) := by decide +kernel
theorem d_T_append_11 : decode b_T_append 11 = .ok (.getfield 35, 3) := by decide +kernel
theorem d_T_append_14 : decode b_T_append 14 = .ok (.sipush 150, 3) := by decide +kernel
theorem d_T_append_17 : decode b_T_append 17 = .ok (.aload_n 0, 1) := by decide +kernel
theorem d_T_append_18 : decode b_T_append 18 = .ok (.getfield 18, 3) := by decide +kernel
theorem d_T_append_21 : decode b_T_append 21 = .ok (.isub, 1) := by decide +kernel
theorem d_T_append_22 : decode b_T_append 22 = .ok (.if_icmp .le 4, 3) := by decide +kernel
theorem d_T_append_25 : decode b_T_append 25 = .ok (.return_, 1) := by decide +kernel
theorem d_T_append_26 : decode b_T_append 26 = .ok (.aload_n 1, 1) := by decide +kernel
theorem d_T_append_27 : decode b_T_append 27 = .ok (.getfield 40, 3) := by decide +kernel
theorem d_T_append_30 : decode b_T_append 30 = .ok (.iconst 0, 1) := by decide +kernel
theorem d_T_append_31 : decode b_T_append 31 = .ok (.aload_n 0, 1) := by decide +kernel
theorem d_T_append_32 : decode b_T_append 32 = .ok (.getfield 9, 3) := by decide +kernel
theorem d_T_append_35 : decode b_T_append 35 = .ok (.aload_n 0, 1) := by decide +kernel
theorem d_T_append_36 : decode b_T_append 36 = .ok (.getfield 18, 3) := by decide +kernel
theorem d_T_append_39 : decode b_T_append 39 = .ok (.aload_n 1, 1) := by decide +kernel
theorem d_T_append_40 : decode b_T_append 40 = .ok (.getfield 35, 3) := by decide +kernel
theorem d_T_append_43 : decode b_T_append 43 = .ok (.invokestatic 41, 3) := by decide +kernel
theorem d_T_append_46 : decode b_T_append 46 = .ok (.aload_n 0, 1) := by decide +kernel
theorem d_T_append_47 : decode b_T_append 47 = .ok (.dup, 1) := by decide +kernel
theorem d_T_append_48 : decode b_T_append 48 = .ok (.getfield 18, 3) := by decide +kernel
theorem d_T_append_51 : decode b_T_append 51 = .ok (.aload_n 1, 1) := by decide +kernel
theorem d_T_append_52 : decode b_T_append 52 = .ok (.getfield 35, 3) := by decide +kernel
theorem d_T_append_55 : decode b_T_append 55 = .ok (.iadd, 1) := by decide +kernel
theorem d_T_append_56 : decode b_T_append 56 = .ok (.putfield 18, 3) := by decide +kernel
theorem d_T_append_59 : decode b_T_append 59 = .ok (.aload_n 0, 1) := by decide +kernel
theorem d_T_append_60 : decode b_T_append 60 = .ok (.getfield 15, 3) := by decide +kernel
theorem d_T_append_63 : decode b_T_append 63 = .ok (.aload_n 0, 1) := by decide +kernel
theorem d_T_append_64 : decode b_T_append 64 = .ok (.getfield 22, 3) := by decide +kernel
theorem d_T_append_67 : decode b_T_append 67 = .ok (.aload_n 1, 1) := by decide +kernel
theorem d_T_append_68 : decode b_T_append 68 = .ok (.getfield 35, 3) := by decide +kernel
theorem d_T_append_71 : decode b_T_append 71 = .ok (.iastore, 1) := by decide +kernel
theorem d_T_append_72 : decode b_T_append 72 = .ok (.aload_n 0, 1) := by decide +kernel
theorem d_T_append_73 : decode b_T_append 73 = .ok (.dup, 1) := by decide +kernel
theorem d_T_append_74 : decode b_T_append 74 = .ok (.getfield 22, 3) := by decide +kernel
theorem d_T_append_77 : decode b_T_append 77 = .ok (.iconst 1, 1) := by decide +kernel
theorem d_T_append_78 : decode b_T_append 78 = .ok (.iadd, 1) := by decide +kernel
theorem d_T_append_79 : decode b_T_append 79 = .ok (.putfield 22, 3) := by decide +kernel
theorem d_T_append_82 : decode b_T_append 82 = .ok (.return_, 1) := by decide +kernel
def m_T_append (N : Nat) (σ : SX) (i : Nat) : Option (SX) :=
  (if 150 ≤ ((σ (7 + i)).1 1) then some σ else (if ((σ 6).1 0) ≤ (150 - ((σ (7 + i)).1 0)) then (if cpok 0 ((σ (7 + i)).1 0) ((σ 6).1 0) 150 150 = true then (if inb (((w1 (w2 σ (7 + i) 1 (va_cpy ((σ 6).2 1) ((σ (7 + i)).2 1) (0 : Int32).toNatClampNeg ((σ (7 + i)).1 0).toNatClampNeg ((σ 6).1 0).toNatClampNeg)) (7 + i) 0 ((((w2 σ (7 + i) 1 (va_cpy ((σ 6).2 1) ((σ (7 + i)).2 1) (0 : Int32).toNatClampNeg ((σ (7 + i)).1 0).toNatClampNeg ((σ 6).1 0).toNatClampNeg)) (7 + i)).1 0) + (((w2 σ (7 + i) 1 (va_cpy ((σ 6).2 1) ((σ (7 + i)).2 1) (0 : Int32).toNatClampNeg ((σ (7 + i)).1 0).toNatClampNeg ((σ 6).1 0).toNatClampNeg)) 6).1 0))) (7 + i)).1 1) 150 = true then some (w1 (w3 (w1 (w2 σ (7 + i) 1 (va_cpy ((σ 6).2 1) ((σ (7 + i)).2 1) (0 : Int32).toNatClampNeg ((σ (7 + i)).1 0).toNatClampNeg ((σ 6).1 0).toNatClampNeg)) (7 + i) 0 ((((w2 σ (7 + i) 1 (va_cpy ((σ 6).2 1) ((σ (7 + i)).2 1) (0 : Int32).toNatClampNeg ((σ (7 + i)).1 0).toNatClampNeg ((σ 6).1 0).toNatClampNeg)) (7 + i)).1 0) + (((w2 σ (7 + i) 1 (va_cpy ((σ 6).2 1) ((σ (7 + i)).2 1) (0 : Int32).toNatClampNeg ((σ (7 + i)).1 0).toNatClampNeg ((σ 6).1 0).toNatClampNeg)) 6).1 0))) (7 + i) 2 (((w1 (w2 σ (7 + i) 1 (va_cpy ((σ 6).2 1) ((σ (7 + i)).2 1) (0 : Int32).toNatClampNeg ((σ (7 + i)).1 0).toNatClampNeg ((σ 6).1 0).toNatClampNeg)) (7 + i) 0 ((((w2 σ (7 + i) 1 (va_cpy ((σ 6).2 1) ((σ (7 + i)).2 1) (0 : Int32).toNatClampNeg ((σ (7 + i)).1 0).toNatClampNeg ((σ 6).1 0).toNatClampNeg)) (7 + i)).1 0) + (((w2 σ (7 + i) 1 (va_cpy ((σ 6).2 1) ((σ (7 + i)).2 1) (0 : Int32).toNatClampNeg ((σ (7 + i)).1 0).toNatClampNeg ((σ 6).1 0).toNatClampNeg)) 6).1 0))) (7 + i)).1 1) (((w1 (w2 σ (7 + i) 1 (va_cpy ((σ 6).2 1) ((σ (7 + i)).2 1) (0 : Int32).toNatClampNeg ((σ (7 + i)).1 0).toNatClampNeg ((σ 6).1 0).toNatClampNeg)) (7 + i) 0 ((((w2 σ (7 + i) 1 (va_cpy ((σ 6).2 1) ((σ (7 + i)).2 1) (0 : Int32).toNatClampNeg ((σ (7 + i)).1 0).toNatClampNeg ((σ 6).1 0).toNatClampNeg)) (7 + i)).1 0) + (((w2 σ (7 + i) 1 (va_cpy ((σ 6).2 1) ((σ (7 + i)).2 1) (0 : Int32).toNatClampNeg ((σ (7 + i)).1 0).toNatClampNeg ((σ 6).1 0).toNatClampNeg)) 6).1 0))) 6).1 0)) (7 + i) 1 ((((w3 (w1 (w2 σ (7 + i) 1 (va_cpy ((σ 6).2 1) ((σ (7 + i)).2 1) (0 : Int32).toNatClampNeg ((σ (7 + i)).1 0).toNatClampNeg ((σ 6).1 0).toNatClampNeg)) (7 + i) 0 ((((w2 σ (7 + i) 1 (va_cpy ((σ 6).2 1) ((σ (7 + i)).2 1) (0 : Int32).toNatClampNeg ((σ (7 + i)).1 0).toNatClampNeg ((σ 6).1 0).toNatClampNeg)) (7 + i)).1 0) + (((w2 σ (7 + i) 1 (va_cpy ((σ 6).2 1) ((σ (7 + i)).2 1) (0 : Int32).toNatClampNeg ((σ (7 + i)).1 0).toNatClampNeg ((σ 6).1 0).toNatClampNeg)) 6).1 0))) (7 + i) 2 (((w1 (w2 σ (7 + i) 1 (va_cpy ((σ 6).2 1) ((σ (7 + i)).2 1) (0 : Int32).toNatClampNeg ((σ (7 + i)).1 0).toNatClampNeg ((σ 6).1 0).toNatClampNeg)) (7 + i) 0 ((((w2 σ (7 + i) 1 (va_cpy ((σ 6).2 1) ((σ (7 + i)).2 1) (0 : Int32).toNatClampNeg ((σ (7 + i)).1 0).toNatClampNeg ((σ 6).1 0).toNatClampNeg)) (7 + i)).1 0) + (((w2 σ (7 + i) 1 (va_cpy ((σ 6).2 1) ((σ (7 + i)).2 1) (0 : Int32).toNatClampNeg ((σ (7 + i)).1 0).toNatClampNeg ((σ 6).1 0).toNatClampNeg)) 6).1 0))) (7 + i)).1 1) (((w1 (w2 σ (7 + i) 1 (va_cpy ((σ 6).2 1) ((σ (7 + i)).2 1) (0 : Int32).toNatClampNeg ((σ (7 + i)).1 0).toNatClampNeg ((σ 6).1 0).toNatClampNeg)) (7 + i) 0 ((((w2 σ (7 + i) 1 (va_cpy ((σ 6).2 1) ((σ (7 + i)).2 1) (0 : Int32).toNatClampNeg ((σ (7 + i)).1 0).toNatClampNeg ((σ 6).1 0).toNatClampNeg)) (7 + i)).1 0) + (((w2 σ (7 + i) 1 (va_cpy ((σ 6).2 1) ((σ (7 + i)).2 1) (0 : Int32).toNatClampNeg ((σ (7 + i)).1 0).toNatClampNeg ((σ 6).1 0).toNatClampNeg)) 6).1 0))) 6).1 0)) (7 + i)).1 1) + 1)) else none) else none) else some σ))

set_option maxHeartbeats 4000000 in
set_option maxRecDepth 100000 in
theorem c_T_append (l : Launch) (dC : Nat → ClassId) (dI : Nat → Nat → Nat) (ad : Nat → Nat → Nat) (cs : Nat → ClassId) (sz N : Nat) (σ : SX) (i : Nat) (hi : i < 4) {σ0 : SX} (hM : m_T_append N σ i = some σ0) : Met l y_T_append (wd y_T_append b_T_append 2 none) ({ frames := 1, cells := 0, slots := 0, locals := 60 }) (va_Pc [.ref (ad (7 + i) 0), .ref (ad 6 0)] (preX dC dI ad cs sz σ)) (va_Qv (fun (u : SX) => u = σ0) (atX dC dI ad cs (va_A (wX ad cs σ) sz)) (va_A (wX ad cs σ) sz)) 0 0 (va_A (wX ad cs σ) sz) := by
  refine Met.ofW (cc := b_T_append) (maxL := 2) (ret := none) (by decide) rfl ?_
  intro p e s m args below meth c s₁ B hml hv
  obtain ⟨rfl, hsz, hP, hK, hD0, hN⟩ := hv
  have hx := B.exec
  have hb := B.bytes
  have hr := B.returns
  have hts := atoms_spec (ws := (wd y_T_append b_T_append 2 none)) B.pre
  have htb : ∀ w ∈ tb, w.before _ s = true := fun w h => hts w (List.mem_cons_of_mem _ h)
  have hown : s.vm.findClass R_T = some m.cls := findClass_of_methodNamed B.named
  have hlocks := B.notSynchronized
  subst hsz
  have hD := hD0.self (sz := s.heap.size)
  generalize hAe : va_A (wX ad cs σ) s.heap.size = A at hD ⊢
  have hA : ∀ q : Nat, s.heap.size ≤ q → A q := fun q h => by rw [← hAe]; exact Or.inr h
  have hS : va_S A s.heap s.heap [] := va_S.rf
  have hP : va_P (dC, dI) classes (wX ad cs σ) s.heap := hP
  have hl := lv_entry ([.ref (ad (7 + i) 0), .ref (ad 6 0)]) (n := 2) (Nat.le_of_ble_eq_true rfl)
  rw [lg_entry_eq]
  generalize (lg_sl ([.ref (ad (7 + i) 0), .ref (ad 6 0)]) ++ List.replicate (2 - (lg_sl ([.ref (ad (7 + i) 0), .ref (ad 6 0)])).length) Slot.unset).toArray = ls at hl ⊢
  have hl : lv_has ls 2 [(0, .ref (ad (7 + i) 0)), (1, .ref (ad 6 0))] := hl
  rw [m_T_append] at hM
  refine lv_aload_n hx hb d_T_append_0 rfl (lv_at hl 0 rfl) ?_
  refine va_get (D := (dC, dI)) (ci := 6) (v := .int ((σ (7 + i)).1 1)) (C := R_T) (T := F_T) (N := 6) hx hb htb in_T hown hK hP (19 + 3 * i) (g_T hi) rfl 3 (by decide) (htb _ k_132) (fun _ h9 => h9) rfl d_T_append_1 ?_
  refine lv_sipush (v := 150) hx hb d_T_append_4 (by decide) ?_
  refine lv_icmp_ge (tgt := 25) hx hb d_T_append_7 (by decide) (fun h7 => ?_) (fun h7 => ?_)
  · rw [if_pos h7] at hM
    have e9 := Option.some.inj hM
    exact W.vret hx hb hr (fun t ht hW => ⟨⟨σ, rfl, e9, by rw [ht]; exact hP, va_K.moved hW.alike hK, hD⟩, hS.F ht⟩) hS.2.2 d_T_append_25
  · rw [if_neg h7] at hM
    refine lv_aload_n hx hb d_T_append_10 rfl (lv_at hl 1 rfl) ?_
    refine va_getN (D := (dC, dI)) (ci := 5) (v := .int ((σ 6).1 0)) (C := R_R) (T := F_R) (N := 2) hx hb htb in_R hown hK hP 16 (g_R) rfl 1 (by decide) (va_Nw.use rfl hN.2.2.2.2.2.1) (fun _ h9 => h9) rfl d_T_append_11 ?_
    refine lv_sipush (v := 150) hx hb d_T_append_14 (by decide) ?_
    refine lv_aload_n hx hb d_T_append_17 rfl (lv_at hl 0 rfl) ?_
    refine va_get (D := (dC, dI)) (ci := 6) (v := .int ((σ (7 + i)).1 0)) (C := R_T) (T := F_T) (N := 6) hx hb htb in_T hown hK hP (19 + 3 * i) (g_T hi) rfl 2 (by decide) (htb _ k_131) (fun _ h9 => h9) rfl d_T_append_18 ?_
    refine lv_isub hx hb d_T_append_21 ?_
    refine lv_icmp_le (tgt := 26) hx hb d_T_append_22 (by decide) (fun h22 => ?_) (fun h22 => ?_)
    · rw [if_pos h22] at hM
      refine lv_aload_n hx hb d_T_append_26 rfl (lv_at hl 1 rfl) ?_
      refine va_getN (D := (dC, dI)) (ci := 5) (v := .ref (ad 6 1)) (C := R_R) (T := F_R) (N := 2) hx hb htb in_R hown hK hP 16 (g_R) rfl 0 (by decide) (va_Nw.use rfl hN.2.2.2.2.1) (fun _ h9 => h9) rfl d_T_append_27 ?_
      refine lv_iconst (v := 0) hx hb d_T_append_30 (by decide) ?_
      refine lv_aload_n hx hb d_T_append_31 rfl (lv_at hl 0 rfl) ?_
      refine va_get (D := (dC, dI)) (ci := 6) (v := .ref (ad (7 + i) 1)) (C := R_T) (T := F_T) (N := 6) hx hb htb in_T hown hK hP (19 + 3 * i) (g_T hi) rfl 0 (by decide) (htb _ k_129) (fun _ h9 => h9) rfl d_T_append_32 ?_
      refine lv_aload_n hx hb d_T_append_35 rfl (lv_at hl 0 rfl) ?_
      refine va_get (D := (dC, dI)) (ci := 6) (v := .int ((σ (7 + i)).1 0)) (C := R_T) (T := F_T) (N := 6) hx hb htb in_T hown hK hP (19 + 3 * i) (g_T hi) rfl 2 (by decide) (htb _ k_131) (fun _ h9 => h9) rfl d_T_append_36 ?_
      refine lv_aload_n hx hb d_T_append_39 rfl (lv_at hl 1 rfl) ?_
      refine va_getN (D := (dC, dI)) (ci := 5) (v := .int ((σ 6).1 0)) (C := R_R) (T := F_R) (N := 2) hx hb htb in_R hown hK hP 16 (g_R) rfl 1 (by decide) (va_Nw.use rfl hN.2.2.2.2.2.1) (fun _ h9 => h9) rfl d_T_append_40 ?_
      have hc43 := gd_c hM
      have hM := gd_v hM
      refine va_copyi (own := R_T) (sp := 0) (dp := ((σ (7 + i)).1 0)) (n := ((σ 6).1 0)) hx hb (by rw [hml]; exact hl.1.symm) hown (htb _ k_547) (htb _ k_549) (htb _ k_548) (htb _ k_15) hK hP hD hS 17 (19 + 3 * i + 1) 0 0 (g_R_a1) (g_T_a1 hi) rfl rfl rfl (cpok_1 hc43) (cpok_2 hc43) (cpok_3 hc43) (cpok_4 hc43) (cpok_5 hc43) (fun _ _ => rfl) (Nat.le_of_ble_eq_true rfl) (by decide) d_T_append_43 (fun H locs hP hD hS => ?_)
      have hP := P_eq (u_T_1 hi) hP
      have hD := D_eq (u_T_1 hi) hD
      refine lv_aload_n hx hb d_T_append_46 rfl (lv_at hl 0 rfl) ?_
      refine lv_dup hx hb d_T_append_47 rfl ?_
      refine va_get (D := (dC, dI)) (ci := 6) (v := .int (((w2 σ (7 + i) 1 (va_cpy ((σ 6).2 1) ((σ (7 + i)).2 1) (0 : Int32).toNatClampNeg ((σ (7 + i)).1 0).toNatClampNeg ((σ 6).1 0).toNatClampNeg)) (7 + i)).1 0)) (C := R_T) (T := F_T) (N := 6) hx hb htb in_T hown hK hP (19 + 3 * i) (g_T hi) rfl 2 (by decide) (htb _ k_131) (fun _ h9 => h9) rfl d_T_append_48 ?_
      refine lv_aload_n hx hb d_T_append_51 rfl (lv_at hl 1 rfl) ?_
      refine va_getN (D := (dC, dI)) (ci := 5) (v := .int (((w2 σ (7 + i) 1 (va_cpy ((σ 6).2 1) ((σ (7 + i)).2 1) (0 : Int32).toNatClampNeg ((σ (7 + i)).1 0).toNatClampNeg ((σ 6).1 0).toNatClampNeg)) 6).1 0)) (C := R_R) (T := F_R) (N := 2) hx hb htb in_R hown hK hP 16 (g_R) rfl 1 (by decide) (va_Nw.use rfl hN.2.2.2.2.2.1) (fun _ h9 => h9) rfl d_T_append_52 ?_
      refine lv_iadd hx hb d_T_append_55 ?_
      refine va_put (D := (dC, dI)) (ci := 6) (v := .int ((((w2 σ (7 + i) 1 (va_cpy ((σ 6).2 1) ((σ (7 + i)).2 1) (0 : Int32).toNatClampNeg ((σ (7 + i)).1 0).toNatClampNeg ((σ 6).1 0).toNatClampNeg)) (7 + i)).1 0) + (((w2 σ (7 + i) 1 (va_cpy ((σ 6).2 1) ((σ (7 + i)).2 1) (0 : Int32).toNatClampNeg ((σ (7 + i)).1 0).toNatClampNeg ((σ 6).1 0).toNatClampNeg)) 6).1 0))) (ty := .int) (C := R_T) (T := F_T) (N := 6) hx hb htb in_T ft_T ft_T_ok n_T hown hK hP hD hS (19 + 3 * i) (g_T hi) rfl 2 (by decide) (htb _ k_131) (fun _ h9 => h9) rfl (by decide +kernel) rfl rfl (Nat.le_of_ble_eq_true rfl) d_T_append_56 (fun H locs hP hD hS => ?_)
      have hP := P_eq (s_T_0 hi) hP
      have hD := D_eq (s_T_0 hi) hD
      refine lv_aload_n hx hb d_T_append_59 rfl (lv_at hl 0 rfl) ?_
      refine va_get (D := (dC, dI)) (ci := 6) (v := .ref (ad (7 + i) 2)) (C := R_T) (T := F_T) (N := 6) hx hb htb in_T hown hK hP (19 + 3 * i) (g_T hi) rfl 1 (by decide) (htb _ k_130) (fun _ h9 => h9) rfl d_T_append_60 ?_
      refine lv_aload_n hx hb d_T_append_63 rfl (lv_at hl 0 rfl) ?_
      refine va_get (D := (dC, dI)) (ci := 6) (v := .int (((w1 (w2 σ (7 + i) 1 (va_cpy ((σ 6).2 1) ((σ (7 + i)).2 1) (0 : Int32).toNatClampNeg ((σ (7 + i)).1 0).toNatClampNeg ((σ 6).1 0).toNatClampNeg)) (7 + i) 0 ((((w2 σ (7 + i) 1 (va_cpy ((σ 6).2 1) ((σ (7 + i)).2 1) (0 : Int32).toNatClampNeg ((σ (7 + i)).1 0).toNatClampNeg ((σ 6).1 0).toNatClampNeg)) (7 + i)).1 0) + (((w2 σ (7 + i) 1 (va_cpy ((σ 6).2 1) ((σ (7 + i)).2 1) (0 : Int32).toNatClampNeg ((σ (7 + i)).1 0).toNatClampNeg ((σ 6).1 0).toNatClampNeg)) 6).1 0))) (7 + i)).1 1)) (C := R_T) (T := F_T) (N := 6) hx hb htb in_T hown hK hP (19 + 3 * i) (g_T hi) rfl 3 (by decide) (htb _ k_132) (fun _ h9 => h9) rfl d_T_append_64 ?_
      refine lv_aload_n hx hb d_T_append_67 rfl (lv_at hl 1 rfl) ?_
      refine va_getN (D := (dC, dI)) (ci := 5) (v := .int (((w1 (w2 σ (7 + i) 1 (va_cpy ((σ 6).2 1) ((σ (7 + i)).2 1) (0 : Int32).toNatClampNeg ((σ (7 + i)).1 0).toNatClampNeg ((σ 6).1 0).toNatClampNeg)) (7 + i) 0 ((((w2 σ (7 + i) 1 (va_cpy ((σ 6).2 1) ((σ (7 + i)).2 1) (0 : Int32).toNatClampNeg ((σ (7 + i)).1 0).toNatClampNeg ((σ 6).1 0).toNatClampNeg)) (7 + i)).1 0) + (((w2 σ (7 + i) 1 (va_cpy ((σ 6).2 1) ((σ (7 + i)).2 1) (0 : Int32).toNatClampNeg ((σ (7 + i)).1 0).toNatClampNeg ((σ 6).1 0).toNatClampNeg)) 6).1 0))) 6).1 0)) (C := R_R) (T := F_R) (N := 2) hx hb htb in_R hown hK hP 16 (g_R) rfl 1 (by decide) (va_Nw.use rfl hN.2.2.2.2.2.1) (fun _ h9 => h9) rfl d_T_append_68 ?_
      have hg71 := gd_c hM
      have hM := gd_v hM
      refine va_iast (i := (((w1 (w2 σ (7 + i) 1 (va_cpy ((σ 6).2 1) ((σ (7 + i)).2 1) (0 : Int32).toNatClampNeg ((σ (7 + i)).1 0).toNatClampNeg ((σ 6).1 0).toNatClampNeg)) (7 + i) 0 ((((w2 σ (7 + i) 1 (va_cpy ((σ 6).2 1) ((σ (7 + i)).2 1) (0 : Int32).toNatClampNeg ((σ (7 + i)).1 0).toNatClampNeg ((σ 6).1 0).toNatClampNeg)) (7 + i)).1 0) + (((w2 σ (7 + i) 1 (va_cpy ((σ 6).2 1) ((σ (7 + i)).2 1) (0 : Int32).toNatClampNeg ((σ (7 + i)).1 0).toNatClampNeg ((σ 6).1 0).toNatClampNeg)) 6).1 0))) (7 + i)).1 1)) (x := (((w1 (w2 σ (7 + i) 1 (va_cpy ((σ 6).2 1) ((σ (7 + i)).2 1) (0 : Int32).toNatClampNeg ((σ (7 + i)).1 0).toNatClampNeg ((σ 6).1 0).toNatClampNeg)) (7 + i) 0 ((((w2 σ (7 + i) 1 (va_cpy ((σ 6).2 1) ((σ (7 + i)).2 1) (0 : Int32).toNatClampNeg ((σ (7 + i)).1 0).toNatClampNeg ((σ 6).1 0).toNatClampNeg)) (7 + i)).1 0) + (((w2 σ (7 + i) 1 (va_cpy ((σ 6).2 1) ((σ (7 + i)).2 1) (0 : Int32).toNatClampNeg ((σ (7 + i)).1 0).toNatClampNeg ((σ 6).1 0).toNatClampNeg)) 6).1 0))) 6).1 0)) hx hb hK hP hD hS (19 + 3 * i + 2) 0 (g_T_a2 hi) rfl (inb_in hg71) d_T_append_71 (fun H locs hP hD hS => ?_)
      have hP := P_eq (t_T_2 hi) hP
      have hD := D_eq (t_T_2 hi) hD
      refine lv_aload_n hx hb d_T_append_72 rfl (lv_at hl 0 rfl) ?_
      refine lv_dup hx hb d_T_append_73 rfl ?_
      refine va_get (D := (dC, dI)) (ci := 6) (v := .int (((w3 (w1 (w2 σ (7 + i) 1 (va_cpy ((σ 6).2 1) ((σ (7 + i)).2 1) (0 : Int32).toNatClampNeg ((σ (7 + i)).1 0).toNatClampNeg ((σ 6).1 0).toNatClampNeg)) (7 + i) 0 ((((w2 σ (7 + i) 1 (va_cpy ((σ 6).2 1) ((σ (7 + i)).2 1) (0 : Int32).toNatClampNeg ((σ (7 + i)).1 0).toNatClampNeg ((σ 6).1 0).toNatClampNeg)) (7 + i)).1 0) + (((w2 σ (7 + i) 1 (va_cpy ((σ 6).2 1) ((σ (7 + i)).2 1) (0 : Int32).toNatClampNeg ((σ (7 + i)).1 0).toNatClampNeg ((σ 6).1 0).toNatClampNeg)) 6).1 0))) (7 + i) 2 (((w1 (w2 σ (7 + i) 1 (va_cpy ((σ 6).2 1) ((σ (7 + i)).2 1) (0 : Int32).toNatClampNeg ((σ (7 + i)).1 0).toNatClampNeg ((σ 6).1 0).toNatClampNeg)) (7 + i) 0 ((((w2 σ (7 + i) 1 (va_cpy ((σ 6).2 1) ((σ (7 + i)).2 1) (0 : Int32).toNatClampNeg ((σ (7 + i)).1 0).toNatClampNeg ((σ 6).1 0).toNatClampNeg)) (7 + i)).1 0) + (((w2 σ (7 + i) 1 (va_cpy ((σ 6).2 1) ((σ (7 + i)).2 1) (0 : Int32).toNatClampNeg ((σ (7 + i)).1 0).toNatClampNeg ((σ 6).1 0).toNatClampNeg)) 6).1 0))) (7 + i)).1 1) (((w1 (w2 σ (7 + i) 1 (va_cpy ((σ 6).2 1) ((σ (7 + i)).2 1) (0 : Int32).toNatClampNeg ((σ (7 + i)).1 0).toNatClampNeg ((σ 6).1 0).toNatClampNeg)) (7 + i) 0 ((((w2 σ (7 + i) 1 (va_cpy ((σ 6).2 1) ((σ (7 + i)).2 1) (0 : Int32).toNatClampNeg ((σ (7 + i)).1 0).toNatClampNeg ((σ 6).1 0).toNatClampNeg)) (7 + i)).1 0) + (((w2 σ (7 + i) 1 (va_cpy ((σ 6).2 1) ((σ (7 + i)).2 1) (0 : Int32).toNatClampNeg ((σ (7 + i)).1 0).toNatClampNeg ((σ 6).1 0).toNatClampNeg)) 6).1 0))) 6).1 0)) (7 + i)).1 1)) (C := R_T) (T := F_T) (N := 6) hx hb htb in_T hown hK hP (19 + 3 * i) (g_T hi) rfl 3 (by decide) (htb _ k_132) (fun _ h9 => h9) rfl d_T_append_74 ?_
      refine lv_iconst (v := 1) hx hb d_T_append_77 (by decide) ?_
      refine lv_iadd hx hb d_T_append_78 ?_
      refine va_put (D := (dC, dI)) (ci := 6) (v := .int ((((w3 (w1 (w2 σ (7 + i) 1 (va_cpy ((σ 6).2 1) ((σ (7 + i)).2 1) (0 : Int32).toNatClampNeg ((σ (7 + i)).1 0).toNatClampNeg ((σ 6).1 0).toNatClampNeg)) (7 + i) 0 ((((w2 σ (7 + i) 1 (va_cpy ((σ 6).2 1) ((σ (7 + i)).2 1) (0 : Int32).toNatClampNeg ((σ (7 + i)).1 0).toNatClampNeg ((σ 6).1 0).toNatClampNeg)) (7 + i)).1 0) + (((w2 σ (7 + i) 1 (va_cpy ((σ 6).2 1) ((σ (7 + i)).2 1) (0 : Int32).toNatClampNeg ((σ (7 + i)).1 0).toNatClampNeg ((σ 6).1 0).toNatClampNeg)) 6).1 0))) (7 + i) 2 (((w1 (w2 σ (7 + i) 1 (va_cpy ((σ 6).2 1) ((σ (7 + i)).2 1) (0 : Int32).toNatClampNeg ((σ (7 + i)).1 0).toNatClampNeg ((σ 6).1 0).toNatClampNeg)) (7 + i) 0 ((((w2 σ (7 + i) 1 (va_cpy ((σ 6).2 1) ((σ (7 + i)).2 1) (0 : Int32).toNatClampNeg ((σ (7 + i)).1 0).toNatClampNeg ((σ 6).1 0).toNatClampNeg)) (7 + i)).1 0) + (((w2 σ (7 + i) 1 (va_cpy ((σ 6).2 1) ((σ (7 + i)).2 1) (0 : Int32).toNatClampNeg ((σ (7 + i)).1 0).toNatClampNeg ((σ 6).1 0).toNatClampNeg)) 6).1 0))) (7 + i)).1 1) (((w1 (w2 σ (7 + i) 1 (va_cpy ((σ 6).2 1) ((σ (7 + i)).2 1) (0 : Int32).toNatClampNeg ((σ (7 + i)).1 0).toNatClampNeg ((σ 6).1 0).toNatClampNeg)) (7 + i) 0 ((((w2 σ (7 + i) 1 (va_cpy ((σ 6).2 1) ((σ (7 + i)).2 1) (0 : Int32).toNatClampNeg ((σ (7 + i)).1 0).toNatClampNeg ((σ 6).1 0).toNatClampNeg)) (7 + i)).1 0) + (((w2 σ (7 + i) 1 (va_cpy ((σ 6).2 1) ((σ (7 + i)).2 1) (0 : Int32).toNatClampNeg ((σ (7 + i)).1 0).toNatClampNeg ((σ 6).1 0).toNatClampNeg)) 6).1 0))) 6).1 0)) (7 + i)).1 1) + 1)) (ty := .int) (C := R_T) (T := F_T) (N := 6) hx hb htb in_T ft_T ft_T_ok n_T hown hK hP hD hS (19 + 3 * i) (g_T hi) rfl 3 (by decide) (htb _ k_132) (fun _ h9 => h9) rfl (by decide +kernel) rfl rfl (Nat.le_of_ble_eq_true rfl) d_T_append_79 (fun H locs hP hD hS => ?_)
      have hP := P_eq (s_T_1 hi) hP
      have hD := D_eq (s_T_1 hi) hD
      have e9 := Option.some.inj hM
      exact W.vret hx hb hr (fun t ht hW => ⟨⟨(w1 (w3 (w1 (w2 σ (7 + i) 1 (va_cpy ((σ 6).2 1) ((σ (7 + i)).2 1) (0 : Int32).toNatClampNeg ((σ (7 + i)).1 0).toNatClampNeg ((σ 6).1 0).toNatClampNeg)) (7 + i) 0 ((((w2 σ (7 + i) 1 (va_cpy ((σ 6).2 1) ((σ (7 + i)).2 1) (0 : Int32).toNatClampNeg ((σ (7 + i)).1 0).toNatClampNeg ((σ 6).1 0).toNatClampNeg)) (7 + i)).1 0) + (((w2 σ (7 + i) 1 (va_cpy ((σ 6).2 1) ((σ (7 + i)).2 1) (0 : Int32).toNatClampNeg ((σ (7 + i)).1 0).toNatClampNeg ((σ 6).1 0).toNatClampNeg)) 6).1 0))) (7 + i) 2 (((w1 (w2 σ (7 + i) 1 (va_cpy ((σ 6).2 1) ((σ (7 + i)).2 1) (0 : Int32).toNatClampNeg ((σ (7 + i)).1 0).toNatClampNeg ((σ 6).1 0).toNatClampNeg)) (7 + i) 0 ((((w2 σ (7 + i) 1 (va_cpy ((σ 6).2 1) ((σ (7 + i)).2 1) (0 : Int32).toNatClampNeg ((σ (7 + i)).1 0).toNatClampNeg ((σ 6).1 0).toNatClampNeg)) (7 + i)).1 0) + (((w2 σ (7 + i) 1 (va_cpy ((σ 6).2 1) ((σ (7 + i)).2 1) (0 : Int32).toNatClampNeg ((σ (7 + i)).1 0).toNatClampNeg ((σ 6).1 0).toNatClampNeg)) 6).1 0))) (7 + i)).1 1) (((w1 (w2 σ (7 + i) 1 (va_cpy ((σ 6).2 1) ((σ (7 + i)).2 1) (0 : Int32).toNatClampNeg ((σ (7 + i)).1 0).toNatClampNeg ((σ 6).1 0).toNatClampNeg)) (7 + i) 0 ((((w2 σ (7 + i) 1 (va_cpy ((σ 6).2 1) ((σ (7 + i)).2 1) (0 : Int32).toNatClampNeg ((σ (7 + i)).1 0).toNatClampNeg ((σ 6).1 0).toNatClampNeg)) (7 + i)).1 0) + (((w2 σ (7 + i) 1 (va_cpy ((σ 6).2 1) ((σ (7 + i)).2 1) (0 : Int32).toNatClampNeg ((σ (7 + i)).1 0).toNatClampNeg ((σ 6).1 0).toNatClampNeg)) 6).1 0))) 6).1 0)) (7 + i) 1 ((((w3 (w1 (w2 σ (7 + i) 1 (va_cpy ((σ 6).2 1) ((σ (7 + i)).2 1) (0 : Int32).toNatClampNeg ((σ (7 + i)).1 0).toNatClampNeg ((σ 6).1 0).toNatClampNeg)) (7 + i) 0 ((((w2 σ (7 + i) 1 (va_cpy ((σ 6).2 1) ((σ (7 + i)).2 1) (0 : Int32).toNatClampNeg ((σ (7 + i)).1 0).toNatClampNeg ((σ 6).1 0).toNatClampNeg)) (7 + i)).1 0) + (((w2 σ (7 + i) 1 (va_cpy ((σ 6).2 1) ((σ (7 + i)).2 1) (0 : Int32).toNatClampNeg ((σ (7 + i)).1 0).toNatClampNeg ((σ 6).1 0).toNatClampNeg)) 6).1 0))) (7 + i) 2 (((w1 (w2 σ (7 + i) 1 (va_cpy ((σ 6).2 1) ((σ (7 + i)).2 1) (0 : Int32).toNatClampNeg ((σ (7 + i)).1 0).toNatClampNeg ((σ 6).1 0).toNatClampNeg)) (7 + i) 0 ((((w2 σ (7 + i) 1 (va_cpy ((σ 6).2 1) ((σ (7 + i)).2 1) (0 : Int32).toNatClampNeg ((σ (7 + i)).1 0).toNatClampNeg ((σ 6).1 0).toNatClampNeg)) (7 + i)).1 0) + (((w2 σ (7 + i) 1 (va_cpy ((σ 6).2 1) ((σ (7 + i)).2 1) (0 : Int32).toNatClampNeg ((σ (7 + i)).1 0).toNatClampNeg ((σ 6).1 0).toNatClampNeg)) 6).1 0))) (7 + i)).1 1) (((w1 (w2 σ (7 + i) 1 (va_cpy ((σ 6).2 1) ((σ (7 + i)).2 1) (0 : Int32).toNatClampNeg ((σ (7 + i)).1 0).toNatClampNeg ((σ 6).1 0).toNatClampNeg)) (7 + i) 0 ((((w2 σ (7 + i) 1 (va_cpy ((σ 6).2 1) ((σ (7 + i)).2 1) (0 : Int32).toNatClampNeg ((σ (7 + i)).1 0).toNatClampNeg ((σ 6).1 0).toNatClampNeg)) (7 + i)).1 0) + (((w2 σ (7 + i) 1 (va_cpy ((σ 6).2 1) ((σ (7 + i)).2 1) (0 : Int32).toNatClampNeg ((σ (7 + i)).1 0).toNatClampNeg ((σ 6).1 0).toNatClampNeg)) 6).1 0))) 6).1 0)) (7 + i)).1 1) + 1)), rfl, e9, by rw [ht]; exact hP, va_K.moved hW.alike hK, hD⟩, hS.F ht⟩) hS.2.2 d_T_append_82
    · rw [if_neg h22] at hM
      have e9 := Option.some.inj hM
      exact W.vret hx hb hr (fun t ht hW => ⟨⟨σ, rfl, e9, by rw [ht]; exact hP, va_K.moved hW.alike hK, hD⟩, hS.F ht⟩) hS.2.2 d_T_append_25
