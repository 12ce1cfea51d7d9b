def xm_O_card (N : Nat) (σ : SX) (a1 : Int32) (a2 : Int32) : Option Nat :=
  (if ((σ 0).1 0) = 0 then (bI (m_D_isFull N σ) fun r11 σ11 => (if r11 = 0 then none else some 0)) else some 0)

set_option maxHeartbeats 4000000 in
set_option maxRecDepth 100000 in
theorem x_O_card (l : Launch) (htr : l.stackTraces = false) (dC : Nat → ClassId) (dI : Nat → Nat → Nat) (ad : Nat → Nat → Nat) (cs : Nat → ClassId) (sz N : Nat) (σ : SX) (a1 : Int32) (a2 : Int32) {k0 : Nat} (hM : xm_O_card N σ a1 a2 = some k0) : MetX l y_O_card (wd y_O_card b_O_card 3 (some .int)) ({ frames := 6, cells := 1, slots := 6, locals := 100 }) (va_Pc [.ref (ad 0 0), .int a1, .int a2] (fun U => preX dC dI ad cs sz σ U ∧ stW U)) (xn k0) 1 6 := by
  refine MetX.ofW (cc := b_O_card) (maxL := 3) (ret := (some .int)) (by decide) rfl ?_
  intro p e s m args below meth c s₁ B hml hv
  obtain ⟨rfl, ⟨hsz, hP, hK, hD0, hN⟩, hZ⟩ := hv
  have hx := B.exec
  have hb := B.bytes
  have hts := atoms_spec (ws := (wd y_O_card b_O_card 3 (some .int))) B.pre
  have htb : ∀ w ∈ tb, w.before _ s = true := fun w h => hts w (List.mem_cons_of_mem _ h)
  have hown : s.vm.findClass R_O = some m.cls := findClass_of_methodNamed B.named
  have hlocks := B.notSynchronized
  subst hsz
  have hD := hD0
  have hA : ∀ q : Nat, s.heap.size ≤ q → s.heap.size ≤ q := fun q h => h
  have hS : va_S (fun q => s.heap.size ≤ q) s.heap s.heap [] := va_S.rf
  have hP : va_P (dC, dI) classes (wX ad cs σ) s.heap := hP
  have hl := lv_entry ([.ref (ad 0 0), .int a1, .int a2]) (n := 3) (Nat.le_of_ble_eq_true rfl)
  rw [lg_entry_eq]
  generalize (lg_sl ([.ref (ad 0 0), .int a1, .int a2]) ++ List.replicate (3 - (lg_sl ([.ref (ad 0 0), .int a1, .int a2])).length) Slot.unset).toArray = ls at hl ⊢
  have hl : lv_has ls 3 [(0, .ref (ad 0 0)), (1, .int a1), (2, .int a2)] := hl
  rw [xm_O_card] at hM
  refine lv_aload_n hx hb d_O_card_0 rfl (lv_at hl 0 rfl) ?_
  refine va_get (D := (dC, dI)) (ci := 0) (v := .int ((σ 0).1 0)) (C := R_O) (T := F_O) (N := 12) hx hb htb in_O hown hK hP 0 (g_O) rfl 10 (by decide) (htb _ k_158) (fun _ h9 => h9) rfl d_O_card_1 ?_
  refine lv_if_ne (tgt := 17) hx hb d_O_card_4 (by decide) (fun h4 => ?_) (fun h4 => ?_)
  · rw [if_neg h4] at hM
    have e9 := Option.some.inj hM
    subst e9
    exact W_throw0 (own := R_O) (cls := xS) (names := upN) (ia := 77) (ic := 79) hx hb htr (hl.1.trans hml.symm) hlocks (B.noHandlers (hts _ List.mem_cons_self)) hown (by decide +kernel) (by decide +kernel) (ow_0 htb hZ) (htb _ k_353) (htb _ k_12) d_O_card_17 d_O_card_20 d_O_card_21 d_O_card_24 (Nat.le_of_ble_eq_true rfl) (Nat.le_of_ble_eq_true rfl) (Nat.le_of_ble_eq_true rfl) (Nat.le_of_ble_eq_true rfl) hS (Nat.le_of_ble_eq_true rfl) (Nat.le_of_ble_eq_true rfl)
  · rw [if_pos h4] at hM
    refine lv_aload_n hx hb d_O_card_7 rfl (lv_at hl 0 rfl) ?_
    refine va_get (D := (dC, dI)) (ci := 0) (v := .ref (ad 1 0)) (C := R_O) (T := F_O) (N := 12) hx hb htb in_O hown hK hP 0 (g_O) rfl 0 (by decide) (htb _ k_148) (fun _ h9 => h9) rfl d_O_card_8 ?_
    obtain ⟨x11, y11, hq11, hM⟩ := bI_some hM
    refine va_calli (va_runV (As := []) (rest := []) ⟨hx, hb, hml, hown, hts⟩ (c_D_isFull l dC dI ad cs _ N σ hq11) (cwV 0 hts (goodV k_349 k_350 k_351 k_2 k_352) rfl rfl rfl ⟨rfl, by decide, by decide, by decide +kernel⟩ ⟨Nat.le_of_ble_eq_true rfl, Nat.le_of_ble_eq_true rfl⟩) ⟨blindX, va_recv hK hP rfl (g_D), payX hP hK hD hN⟩ rfl rfl hl.1 rfl (lv_room (Nat.le_of_ble_eq_true rfl)) d_O_card_11 ⟨Nat.zero_le _, Nat.zero_le _⟩) hS (fun q h0 h => absurd h0 (Nat.not_lt.mpr h)) (fun q h => hA q (Nat.le_trans hS.1 h)) (fun r11 u t H locs ht hvm hpost hB hz1 hk1 hS => ?_)
    obtain ⟨e1, e2⟩ := hpost
    subst e1
    subst e2
    have hP := keepP hP hk1
    refine lv_if_eq (tgt := 25) hx hb d_O_card_14 (by decide) (fun h14 => ?_) (fun h14 => ?_)
    · rw [if_pos h14] at hM
      cases hM
    · rw [if_neg h14] at hM
      have e9 := Option.some.inj hM
      subst e9
      exact W_throw0 (own := R_O) (cls := xS) (names := upN) (ia := 77) (ic := 79) hx hb htr (hl.1.trans hml.symm) hlocks (B.noHandlers (hts _ List.mem_cons_self)) hown (by decide +kernel) (by decide +kernel) (ow_0 htb hZ) (htb _ k_353) (htb _ k_12) d_O_card_17 d_O_card_20 d_O_card_21 d_O_card_24 (Nat.le_of_ble_eq_true rfl) (Nat.le_of_ble_eq_true rfl) (Nat.le_of_ble_eq_true rfl) (Nat.le_of_ble_eq_true rfl) hS (Nat.le_of_ble_eq_true rfl) (Nat.le_of_ble_eq_true rfl)

def xm_O_part (N : Nat) (σ : SX) (a1 : Int32) (a2 : Int32) : Option Nat :=
  (bP (m_O_isField a1) fun r1 => (if r1 = 0 then some 1 else (if a2 < 0 then some 1 else (if a2 < 4 then (if ((σ 0).1 0) = 0 then (bI (m_D_keyIsFull N σ) fun r35 σ35 => (if r35 = 0 then none else some 0)) else some 0) else some 1))))

set_option maxHeartbeats 4000000 in
set_option maxRecDepth 100000 in
theorem x_O_part (l : Launch) (htr : l.stackTraces = false) (dC : Nat → ClassId) (dI : Nat → Nat → Nat) (ad : Nat → Nat → Nat) (cs : Nat → ClassId) (sz N : Nat) (σ : SX) (a1 : Int32) (a2 : Int32) {k0 : Nat} (hM : xm_O_part N σ a1 a2 = some k0) : MetX l y_O_part (wd y_O_part b_O_part 3 (some .int)) ({ frames := 6, cells := 1, slots := 6, locals := 100 }) (va_Pc [.ref (ad 0 0), .int a1, .int a2] (fun U => preX dC dI ad cs sz σ U ∧ stW U)) (xn k0) 1 6 := by
  refine MetX.ofW (cc := b_O_part) (maxL := 3) (ret := (some .int)) (by decide) rfl ?_
  intro p e s m args below meth c s₁ B hml hv
  obtain ⟨rfl, ⟨hsz, hP, hK, hD0, hN⟩, hZ⟩ := hv
  have hx := B.exec
  have hb := B.bytes
  have hts := atoms_spec (ws := (wd y_O_part b_O_part 3 (some .int))) B.pre
  have htb : ∀ w ∈ tb, w.before _ s = true := fun w h => hts w (List.mem_cons_of_mem _ h)
  have hown : s.vm.findClass R_O = some m.cls := findClass_of_methodNamed B.named
  have hlocks := B.notSynchronized
  subst hsz
  have hD := hD0
  have hA : ∀ q : Nat, s.heap.size ≤ q → s.heap.size ≤ q := fun q h => h
  have hS : va_S (fun q => s.heap.size ≤ q) s.heap s.heap [] := va_S.rf
  have hP : va_P (dC, dI) classes (wX ad cs σ) s.heap := hP
  have hl := lv_entry ([.ref (ad 0 0), .int a1, .int a2]) (n := 3) (Nat.le_of_ble_eq_true rfl)
  rw [lg_entry_eq]
  generalize (lg_sl ([.ref (ad 0 0), .int a1, .int a2]) ++ List.replicate (3 - (lg_sl ([.ref (ad 0 0), .int a1, .int a2])).length) Slot.unset).toArray = ls at hl ⊢
  have hl : lv_has ls 3 [(0, .ref (ad 0 0)), (1, .int a1), (2, .int a2)] := hl
  rw [xm_O_part] at hM
  refine lv_iload_n hx hb d_O_part_0 rfl (lv_at hl 1 rfl) ?_
  obtain ⟨x1, hq1, hM⟩ := bP_some hM
  refine va_calli (va_runS (As := [.int a1]) (rest := []) ⟨hx, hb, hml, hown, hts⟩ (c_O_isField l _ a1 hq1) (cwS 1 hts (goodS k_428 k_327 k_1 k_328) rfl rfl rfl ⟨rfl, by decide, by decide, by decide +kernel⟩ ⟨Nat.le_of_ble_eq_true rfl, Nat.le_of_ble_eq_true rfl⟩) ⟨blindS, payS⟩ rfl rfl hl.1 rfl (lv_room (Nat.le_of_ble_eq_true rfl)) d_O_part_1 ⟨Nat.zero_le _, Nat.zero_le _⟩) hS (fun q h0 h => absurd h0 (Nat.not_lt.mpr h)) (fun q h => hA q (Nat.le_trans hS.1 h)) (fun r1 u t H locs ht hvm hpost hB hz1 hk1 hS => ?_)
  subst hpost
  have hP := keepP hP hk1
  refine lv_if_eq (tgt := 16) hx hb d_O_part_4 (by decide) (fun h4 => ?_) (fun h4 => ?_)
  · rw [if_pos h4] at hM
    have e9 := Option.some.inj hM
    subst e9
    exact W_throw0 (own := R_O) (cls := xI) (names := upN) (ia := 88) (ic := 90) hx hb htr (hl.1.trans hml.symm) hlocks (B.noHandlers (hts _ List.mem_cons_self)) hown (by decide +kernel) (by decide +kernel) (ow_1 htb hZ) (htb _ k_429) (htb _ k_13) d_O_part_16 d_O_part_19 d_O_part_20 d_O_part_23 (Nat.le_of_ble_eq_true rfl) (Nat.le_of_ble_eq_true rfl) (Nat.le_of_ble_eq_true rfl) (Nat.le_of_ble_eq_true rfl) hS (Nat.le_of_ble_eq_true rfl) (Nat.le_of_ble_eq_true rfl)
  · rw [if_neg h4] at hM
    refine lv_iload_n hx hb d_O_part_7 rfl (lv_at hl 2 rfl) ?_
    refine lv_if_lt (tgt := 16) hx hb d_O_part_8 (by decide) (fun h8 => ?_) (fun h8 => ?_)
    · rw [if_pos h8] at hM
      have e9 := Option.some.inj hM
      subst e9
      exact W_throw0 (own := R_O) (cls := xI) (names := upN) (ia := 88) (ic := 90) hx hb htr (hl.1.trans hml.symm) hlocks (B.noHandlers (hts _ List.mem_cons_self)) hown (by decide +kernel) (by decide +kernel) (ow_1 htb hZ) (htb _ k_429) (htb _ k_13) d_O_part_16 d_O_part_19 d_O_part_20 d_O_part_23 (Nat.le_of_ble_eq_true rfl) (Nat.le_of_ble_eq_true rfl) (Nat.le_of_ble_eq_true rfl) (Nat.le_of_ble_eq_true rfl) hS (Nat.le_of_ble_eq_true rfl) (Nat.le_of_ble_eq_true rfl)
    · rw [if_neg h8] at hM
      refine lv_iload_n hx hb d_O_part_11 rfl (lv_at hl 2 rfl) ?_
      refine lv_iconst (v := 4) hx hb d_O_part_12 (by decide) ?_
      refine lv_icmp_lt (tgt := 24) hx hb d_O_part_13 (by decide) (fun h13 => ?_) (fun h13 => ?_)
      · rw [if_pos h13] at hM
        refine lv_aload_n hx hb d_O_part_24 rfl (lv_at hl 0 rfl) ?_
        refine va_get (D := (dC, dI)) (ci := 0) (v := .int ((σ 0).1 0)) (C := R_O) (T := F_O) (N := 12) hx hb htb in_O hown hK hP 0 (g_O) rfl 10 (by decide) (htb _ k_158) (fun _ h9 => h9) rfl d_O_part_25 ?_
        refine lv_if_ne (tgt := 41) hx hb d_O_part_28 (by decide) (fun h28 => ?_) (fun h28 => ?_)
        · rw [if_neg h28] at hM
          have e9 := Option.some.inj hM
          subst e9
          exact W_throw0 (own := R_O) (cls := xS) (names := upN) (ia := 77) (ic := 79) hx hb htr (hl.1.trans hml.symm) hlocks (B.noHandlers (hts _ List.mem_cons_self)) hown (by decide +kernel) (by decide +kernel) (ow_0 htb hZ) (htb _ k_353) (htb _ k_12) d_O_part_41 d_O_part_44 d_O_part_45 d_O_part_48 (Nat.le_of_ble_eq_true rfl) (Nat.le_of_ble_eq_true rfl) (Nat.le_of_ble_eq_true rfl) (Nat.le_of_ble_eq_true rfl) hS (Nat.le_of_ble_eq_true rfl) (Nat.le_of_ble_eq_true rfl)
        · rw [if_pos h28] at hM
          refine lv_aload_n hx hb d_O_part_31 rfl (lv_at hl 0 rfl) ?_
          refine va_get (D := (dC, dI)) (ci := 0) (v := .ref (ad 1 0)) (C := R_O) (T := F_O) (N := 12) hx hb htb in_O hown hK hP 0 (g_O) rfl 0 (by decide) (htb _ k_148) (fun _ h9 => h9) rfl d_O_part_32 ?_
          obtain ⟨x35, y35, hq35, hM⟩ := bI_some hM
          refine va_calli (va_runV (As := []) (rest := []) ⟨hx, hb, hml, hown, hts⟩ (c_D_keyIsFull l dC dI ad cs _ N σ hq35) (cwV 0 hts (goodV k_444 k_445 k_446 k_2 k_447) rfl rfl rfl ⟨rfl, by decide, by decide, by decide +kernel⟩ ⟨Nat.le_of_ble_eq_true rfl, Nat.le_of_ble_eq_true rfl⟩) ⟨blindX, va_recv hK hP rfl (g_D), payX hP hK hD hN⟩ rfl rfl hl.1 rfl (lv_room (Nat.le_of_ble_eq_true rfl)) d_O_part_35 ⟨Nat.zero_le _, Nat.zero_le _⟩) hS (fun q h0 h => absurd h0 (Nat.not_lt.mpr h)) (fun q h => hA q (Nat.le_trans hS.1 h)) (fun r35 u t H locs ht hvm hpost hB hz1 hk1 hS => ?_)
          obtain ⟨e1, e2⟩ := hpost
          subst e1
          subst e2
          have hP := keepP hP hk1
          refine lv_if_eq (tgt := 49) hx hb d_O_part_38 (by decide) (fun h38 => ?_) (fun h38 => ?_)
          · rw [if_pos h38] at hM
            cases hM
          · rw [if_neg h38] at hM
            have e9 := Option.some.inj hM
            subst e9
            exact W_throw0 (own := R_O) (cls := xS) (names := upN) (ia := 77) (ic := 79) hx hb htr (hl.1.trans hml.symm) hlocks (B.noHandlers (hts _ List.mem_cons_self)) hown (by decide +kernel) (by decide +kernel) (ow_0 htb hZ) (htb _ k_353) (htb _ k_12) d_O_part_41 d_O_part_44 d_O_part_45 d_O_part_48 (Nat.le_of_ble_eq_true rfl) (Nat.le_of_ble_eq_true rfl) (Nat.le_of_ble_eq_true rfl) (Nat.le_of_ble_eq_true rfl) hS (Nat.le_of_ble_eq_true rfl) (Nat.le_of_ble_eq_true rfl)
      · rw [if_neg h13] at hM
        have e9 := Option.some.inj hM
        subst e9
        exact W_throw0 (own := R_O) (cls := xI) (names := upN) (ia := 88) (ic := 90) hx hb htr (hl.1.trans hml.symm) hlocks (B.noHandlers (hts _ List.mem_cons_self)) hown (by decide +kernel) (by decide +kernel) (ow_1 htb hZ) (htb _ k_429) (htb _ k_13) d_O_part_16 d_O_part_19 d_O_part_20 d_O_part_23 (Nat.le_of_ble_eq_true rfl) (Nat.le_of_ble_eq_true rfl) (Nat.le_of_ble_eq_true rfl) (Nat.le_of_ble_eq_true rfl) hS (Nat.le_of_ble_eq_true rfl) (Nat.le_of_ble_eq_true rfl)

def xm_O_start (N : Nat) (σ : SX) : Option Nat :=
  (if ((σ 0).1 0) = 0 then none else some 0)

set_option maxHeartbeats 4000000 in
set_option maxRecDepth 100000 in
theorem x_O_start (l : Launch) (htr : l.stackTraces = false) (dC : Nat → ClassId) (dI : Nat → Nat → Nat) (ad : Nat → Nat → Nat) (cs : Nat → ClassId) (sz N : Nat) (σ : SX) {k0 : Nat} (hM : xm_O_start N σ = some k0) : MetX l y_O_start (wd y_O_start b_O_start 2 none) ({ frames := 6, cells := 1, slots := 6, locals := 100 }) (va_Pc [.ref (ad 0 0)] (fun U => preX dC dI ad cs sz σ U ∧ stW U)) (xn k0) 1 6 := by
  refine MetX.ofW (cc := b_O_start) (maxL := 2) (ret := none) (by decide) rfl ?_
  intro p e s m args below meth c s₁ B hml hv
  obtain ⟨rfl, ⟨hsz, hP, hK, hD0, hN⟩, hZ⟩ := hv
  have hx := B.exec
  have hb := B.bytes
  have hts := atoms_spec (ws := (wd y_O_start b_O_start 2 none)) B.pre
  have htb : ∀ w ∈ tb, w.before _ s = true := fun w h => hts w (List.mem_cons_of_mem _ h)
  have hown : s.vm.findClass R_O = some m.cls := findClass_of_methodNamed B.named
  have hlocks := B.notSynchronized
  subst hsz
  have hD := hD0
  have hA : ∀ q : Nat, s.heap.size ≤ q → s.heap.size ≤ q := fun q h => h
  have hS : va_S (fun q => s.heap.size ≤ q) s.heap s.heap [] := va_S.rf
  have hP : va_P (dC, dI) classes (wX ad cs σ) s.heap := hP
  have hl := lv_entry ([.ref (ad 0 0)]) (n := 2) (Nat.le_of_ble_eq_true rfl)
  rw [lg_entry_eq]
  generalize (lg_sl ([.ref (ad 0 0)]) ++ List.replicate (2 - (lg_sl ([.ref (ad 0 0)])).length) Slot.unset).toArray = ls at hl ⊢
  have hl : lv_has ls 2 [(0, .ref (ad 0 0))] := hl
  rw [xm_O_start] at hM
  refine lv_aload_n hx hb d_O_start_0 rfl (lv_at hl 0 rfl) ?_
  refine va_get (D := (dC, dI)) (ci := 0) (v := .int ((σ 0).1 0)) (C := R_O) (T := F_O) (N := 12) hx hb htb in_O hown hK hP 0 (g_O) rfl 10 (by decide) (htb _ k_158) (fun _ h9 => h9) rfl d_O_start_1 ?_
  refine lv_if_eq (tgt := 15) hx hb d_O_start_4 (by decide) (fun h4 => ?_) (fun h4 => ?_)
  · rw [if_pos h4] at hM
    cases hM
  · rw [if_neg h4] at hM
    have e9 := Option.some.inj hM
    subst e9
    exact W_throw0 (own := R_O) (cls := xS) (names := upN) (ia := 77) (ic := 79) hx hb htr (hl.1.trans hml.symm) hlocks (B.noHandlers (hts _ List.mem_cons_self)) hown (by decide +kernel) (by decide +kernel) (ow_0 htb hZ) (htb _ k_353) (htb _ k_12) d_O_start_7 d_O_start_10 d_O_start_11 d_O_start_14 (Nat.le_of_ble_eq_true rfl) (Nat.le_of_ble_eq_true rfl) (Nat.le_of_ble_eq_true rfl) (Nat.le_of_ble_eq_true rfl) hS (Nat.le_of_ble_eq_true rfl) (Nat.le_of_ble_eq_true rfl)

def xm_O_step (N : Nat) (σ : SX) (a1 : Int32) : Option Nat :=
  (if a1 < 1 then some 1 else (if a1 ≤ 300 then (if ((σ 0).1 0) = 0 then some 0 else (bI (m_V_hasPower N σ) fun r31 σ31 => (if r31 = 0 then some 0 else none))) else some 1))

set_option maxHeartbeats 4000000 in
set_option maxRecDepth 100000 in
theorem x_O_step (l : Launch) (htr : l.stackTraces = false) (dC : Nat → ClassId) (dI : Nat → Nat → Nat) (ad : Nat → Nat → Nat) (cs : Nat → ClassId) (sz N : Nat) (σ : SX) (a1 : Int32) {k0 : Nat} (hM : xm_O_step N σ a1 = some k0) : MetX l y_O_step (wd y_O_step b_O_step 4 (some .int)) ({ frames := 6, cells := 1, slots := 6, locals := 100 }) (va_Pc [.ref (ad 0 0), .int a1] (fun U => preX dC dI ad cs sz σ U ∧ stW U)) (xn k0) 1 6 := by
  refine MetX.ofW (cc := b_O_step) (maxL := 4) (ret := (some .int)) (by decide) rfl ?_
  intro p e s m args below meth c s₁ B hml hv
  obtain ⟨rfl, ⟨hsz, hP, hK, hD0, hN⟩, hZ⟩ := hv
  have hx := B.exec
  have hb := B.bytes
  have hts := atoms_spec (ws := (wd y_O_step b_O_step 4 (some .int))) B.pre
  have htb : ∀ w ∈ tb, w.before _ s = true := fun w h => hts w (List.mem_cons_of_mem _ h)
  have hown : s.vm.findClass R_O = some m.cls := findClass_of_methodNamed B.named
  have hlocks := B.notSynchronized
  subst hsz
  have hD := hD0
  have hA : ∀ q : Nat, s.heap.size ≤ q → s.heap.size ≤ q := fun q h => h
  have hS : va_S (fun q => s.heap.size ≤ q) s.heap s.heap [] := va_S.rf
  have hP : va_P (dC, dI) classes (wX ad cs σ) s.heap := hP
  have hl := lv_entry ([.ref (ad 0 0), .int a1]) (n := 4) (Nat.le_of_ble_eq_true rfl)
  rw [lg_entry_eq]
  generalize (lg_sl ([.ref (ad 0 0), .int a1]) ++ List.replicate (4 - (lg_sl ([.ref (ad 0 0), .int a1])).length) Slot.unset).toArray = ls at hl ⊢
  have hl : lv_has ls 4 [(0, .ref (ad 0 0)), (1, .int a1)] := hl
  rw [xm_O_step] at hM
  refine lv_iload_n hx hb d_O_step_0 rfl (lv_at hl 1 rfl) ?_
  refine lv_iconst (v := 1) hx hb d_O_step_1 (by decide) ?_
  refine lv_icmp_lt (tgt := 12) hx hb d_O_step_2 (by decide) (fun h2 => ?_) (fun h2 => ?_)
  · rw [if_pos h2] at hM
    have e9 := Option.some.inj hM
    subst e9
    exact W_throw0 (own := R_O) (cls := xI) (names := upN) (ia := 88) (ic := 90) hx hb htr (hl.1.trans hml.symm) hlocks (B.noHandlers (hts _ List.mem_cons_self)) hown (by decide +kernel) (by decide +kernel) (ow_1 htb hZ) (htb _ k_429) (htb _ k_13) d_O_step_12 d_O_step_15 d_O_step_16 d_O_step_19 (Nat.le_of_ble_eq_true rfl) (Nat.le_of_ble_eq_true rfl) (Nat.le_of_ble_eq_true rfl) (Nat.le_of_ble_eq_true rfl) hS (Nat.le_of_ble_eq_true rfl) (Nat.le_of_ble_eq_true rfl)
  · rw [if_neg h2] at hM
    refine lv_iload_n hx hb d_O_step_5 rfl (lv_at hl 1 rfl) ?_
    refine lv_sipush (v := 300) hx hb d_O_step_6 (by decide) ?_
    refine lv_icmp_le (tgt := 20) hx hb d_O_step_9 (by decide) (fun h9 => ?_) (fun h9 => ?_)
    · rw [if_pos h9] at hM
      refine lv_aload_n hx hb d_O_step_20 rfl (lv_at hl 0 rfl) ?_
      refine va_get (D := (dC, dI)) (ci := 0) (v := .int ((σ 0).1 0)) (C := R_O) (T := F_O) (N := 12) hx hb htb in_O hown hK hP 0 (g_O) rfl 10 (by decide) (htb _ k_158) (fun _ h9 => h9) rfl d_O_step_21 ?_
      refine lv_if_eq (tgt := 37) hx hb d_O_step_24 (by decide) (fun h24 => ?_) (fun h24 => ?_)
      · rw [if_pos h24] at hM
        have e9 := Option.some.inj hM
        subst e9
        exact W_throw0 (own := R_O) (cls := xS) (names := upN) (ia := 77) (ic := 79) hx hb htr (hl.1.trans hml.symm) hlocks (B.noHandlers (hts _ List.mem_cons_self)) hown (by decide +kernel) (by decide +kernel) (ow_0 htb hZ) (htb _ k_353) (htb _ k_12) d_O_step_37 d_O_step_40 d_O_step_41 d_O_step_44 (Nat.le_of_ble_eq_true rfl) (Nat.le_of_ble_eq_true rfl) (Nat.le_of_ble_eq_true rfl) (Nat.le_of_ble_eq_true rfl) hS (Nat.le_of_ble_eq_true rfl) (Nat.le_of_ble_eq_true rfl)
      · rw [if_neg h24] at hM
        refine lv_aload_n hx hb d_O_step_27 rfl (lv_at hl 0 rfl) ?_
        refine va_get (D := (dC, dI)) (ci := 0) (v := .ref (ad 5 0)) (C := R_O) (T := F_O) (N := 12) hx hb htb in_O hown hK hP 0 (g_O) rfl 4 (by decide) (htb _ k_152) (fun _ h9 => h9) rfl d_O_step_28 ?_
        obtain ⟨x31, y31, hq31, hM⟩ := bI_some hM
        refine va_calli (va_runV (As := []) (rest := []) ⟨hx, hb, hml, hown, hts⟩ (c_V_hasPower l dC dI ad cs _ N σ hq31) (cwV 0 hts (goodV k_213 k_214 k_215 k_4 k_216) rfl rfl rfl ⟨rfl, by decide, by decide, by decide +kernel⟩ ⟨Nat.le_of_ble_eq_true rfl, Nat.le_of_ble_eq_true rfl⟩) ⟨blindX, va_recv hK hP rfl (g_V), payX hP hK hD hN⟩ rfl rfl hl.1 rfl (lv_room (Nat.le_of_ble_eq_true rfl)) d_O_step_31 ⟨Nat.zero_le _, Nat.zero_le _⟩) hS (fun q h0 h => absurd h0 (Nat.not_lt.mpr h)) (fun q h => hA q (Nat.le_trans hS.1 h)) (fun r31 u t H locs ht hvm hpost hB hz1 hk1 hS => ?_)
        obtain ⟨e1, e2⟩ := hpost
        subst e1
        subst e2
        have hP := keepP hP hk1
        refine lv_if_ne (tgt := 45) hx hb d_O_step_34 (by decide) (fun h34 => ?_) (fun h34 => ?_)
        · rw [if_neg h34] at hM
          cases hM
        · rw [if_pos h34] at hM
          have e9 := Option.some.inj hM
          subst e9
          exact W_throw0 (own := R_O) (cls := xS) (names := upN) (ia := 77) (ic := 79) hx hb htr (hl.1.trans hml.symm) hlocks (B.noHandlers (hts _ List.mem_cons_self)) hown (by decide +kernel) (by decide +kernel) (ow_0 htb hZ) (htb _ k_353) (htb _ k_12) d_O_step_37 d_O_step_40 d_O_step_41 d_O_step_44 (Nat.le_of_ble_eq_true rfl) (Nat.le_of_ble_eq_true rfl) (Nat.le_of_ble_eq_true rfl) (Nat.le_of_ble_eq_true rfl) hS (Nat.le_of_ble_eq_true rfl) (Nat.le_of_ble_eq_true rfl)
    · rw [if_neg h9] at hM
      have e9 := Option.some.inj hM
      subst e9
      exact W_throw0 (own := R_O) (cls := xI) (names := upN) (ia := 88) (ic := 90) hx hb htr (hl.1.trans hml.symm) hlocks (B.noHandlers (hts _ List.mem_cons_self)) hown (by decide +kernel) (by decide +kernel) (ow_1 htb hZ) (htb _ k_429) (htb _ k_13) d_O_step_12 d_O_step_15 d_O_step_16 d_O_step_19 (Nat.le_of_ble_eq_true rfl) (Nat.le_of_ble_eq_true rfl) (Nat.le_of_ble_eq_true rfl) (Nat.le_of_ble_eq_true rfl) hS (Nat.le_of_ble_eq_true rfl) (Nat.le_of_ble_eq_true rfl)

def xm_O_fault (N : Nat) (σ : SX) (a1 : Int32) (a2 : Int32) : Option Nat :=
  (bP (m_O_isTape a1) fun r1 => (if r1 = 0 then some 1 else (if a2 < 0 then some 1 else (if a2 ≤ 20 then none else some 1))))

set_option maxHeartbeats 4000000 in
set_option maxRecDepth 100000 in
theorem x_O_fault (l : Launch) (htr : l.stackTraces = false) (dC : Nat → ClassId) (dI : Nat → Nat → Nat) (ad : Nat → Nat → Nat) (cs : Nat → ClassId) (sz N : Nat) (σ : SX) (a1 : Int32) (a2 : Int32) {k0 : Nat} (hM : xm_O_fault N σ a1 a2 = some k0) : MetX l y_O_fault (wd y_O_fault b_O_fault 3 (some .int)) ({ frames := 6, cells := 1, slots := 6, locals := 100 }) (va_Pc [.ref (ad 0 0), .int a1, .int a2] (fun U => preX dC dI ad cs sz σ U ∧ stW U)) (xn k0) 1 6 := by
  refine MetX.ofW (cc := b_O_fault) (maxL := 3) (ret := (some .int)) (by decide) rfl ?_
  intro p e s m args below meth c s₁ B hml hv
  obtain ⟨rfl, ⟨hsz, hP, hK, hD0, hN⟩, hZ⟩ := hv
  have hx := B.exec
  have hb := B.bytes
  have hts := atoms_spec (ws := (wd y_O_fault b_O_fault 3 (some .int))) B.pre
  have htb : ∀ w ∈ tb, w.before _ s = true := fun w h => hts w (List.mem_cons_of_mem _ h)
  have hown : s.vm.findClass R_O = some m.cls := findClass_of_methodNamed B.named
  have hlocks := B.notSynchronized
  subst hsz
  have hD := hD0
  have hA : ∀ q : Nat, s.heap.size ≤ q → s.heap.size ≤ q := fun q h => h
  have hS : va_S (fun q => s.heap.size ≤ q) s.heap s.heap [] := va_S.rf
  have hP : va_P (dC, dI) classes (wX ad cs σ) s.heap := hP
  have hl := lv_entry ([.ref (ad 0 0), .int a1, .int a2]) (n := 3) (Nat.le_of_ble_eq_true rfl)
  rw [lg_entry_eq]
  generalize (lg_sl ([.ref (ad 0 0), .int a1, .int a2]) ++ List.replicate (3 - (lg_sl ([.ref (ad 0 0), .int a1, .int a2])).length) Slot.unset).toArray = ls at hl ⊢
  have hl : lv_has ls 3 [(0, .ref (ad 0 0)), (1, .int a1), (2, .int a2)] := hl
  rw [xm_O_fault] at hM
  refine lv_iload_n hx hb d_O_fault_0 rfl (lv_at hl 1 rfl) ?_
  obtain ⟨x1, hq1, hM⟩ := bP_some hM
  refine va_calli (va_runS (As := [.int a1]) (rest := []) ⟨hx, hb, hml, hown, hts⟩ (c_O_isTape l _ a1 hq1) (cwS 1 hts (goodS k_245 k_246 k_1 k_247) rfl rfl rfl ⟨rfl, by decide, by decide, by decide +kernel⟩ ⟨Nat.le_of_ble_eq_true rfl, Nat.le_of_ble_eq_true rfl⟩) ⟨blindS, payS⟩ rfl rfl hl.1 rfl (lv_room (Nat.le_of_ble_eq_true rfl)) d_O_fault_1 ⟨Nat.zero_le _, Nat.zero_le _⟩) hS (fun q h0 h => absurd h0 (Nat.not_lt.mpr h)) (fun q h => hA q (Nat.le_trans hS.1 h)) (fun r1 u t H locs ht hvm hpost hB hz1 hk1 hS => ?_)
  subst hpost
  have hP := keepP hP hk1
  refine lv_if_eq (tgt := 17) hx hb d_O_fault_4 (by decide) (fun h4 => ?_) (fun h4 => ?_)
  · rw [if_pos h4] at hM
    have e9 := Option.some.inj hM
    subst e9
    exact W_throw0 (own := R_O) (cls := xI) (names := upN) (ia := 88) (ic := 90) hx hb htr (hl.1.trans hml.symm) hlocks (B.noHandlers (hts _ List.mem_cons_self)) hown (by decide +kernel) (by decide +kernel) (ow_1 htb hZ) (htb _ k_429) (htb _ k_13) d_O_fault_17 d_O_fault_20 d_O_fault_21 d_O_fault_24 (Nat.le_of_ble_eq_true rfl) (Nat.le_of_ble_eq_true rfl) (Nat.le_of_ble_eq_true rfl) (Nat.le_of_ble_eq_true rfl) hS (Nat.le_of_ble_eq_true rfl) (Nat.le_of_ble_eq_true rfl)
  · rw [if_neg h4] at hM
    refine lv_iload_n hx hb d_O_fault_7 rfl (lv_at hl 2 rfl) ?_
    refine lv_if_lt (tgt := 17) hx hb d_O_fault_8 (by decide) (fun h8 => ?_) (fun h8 => ?_)
    · rw [if_pos h8] at hM
      have e9 := Option.some.inj hM
      subst e9
      exact W_throw0 (own := R_O) (cls := xI) (names := upN) (ia := 88) (ic := 90) hx hb htr (hl.1.trans hml.symm) hlocks (B.noHandlers (hts _ List.mem_cons_self)) hown (by decide +kernel) (by decide +kernel) (ow_1 htb hZ) (htb _ k_429) (htb _ k_13) d_O_fault_17 d_O_fault_20 d_O_fault_21 d_O_fault_24 (Nat.le_of_ble_eq_true rfl) (Nat.le_of_ble_eq_true rfl) (Nat.le_of_ble_eq_true rfl) (Nat.le_of_ble_eq_true rfl) hS (Nat.le_of_ble_eq_true rfl) (Nat.le_of_ble_eq_true rfl)
    · rw [if_neg h8] at hM
      refine lv_iload_n hx hb d_O_fault_11 rfl (lv_at hl 2 rfl) ?_
      refine lv_bipush (v := 20) hx hb d_O_fault_12 (by decide) ?_
      refine lv_icmp_le (tgt := 25) hx hb d_O_fault_14 (by decide) (fun h14 => ?_) (fun h14 => ?_)
      · rw [if_pos h14] at hM
        cases hM
      · rw [if_neg h14] at hM
        have e9 := Option.some.inj hM
        subst e9
        exact W_throw0 (own := R_O) (cls := xI) (names := upN) (ia := 88) (ic := 90) hx hb htr (hl.1.trans hml.symm) hlocks (B.noHandlers (hts _ List.mem_cons_self)) hown (by decide +kernel) (by decide +kernel) (ow_1 htb hZ) (htb _ k_429) (htb _ k_13) d_O_fault_17 d_O_fault_20 d_O_fault_21 d_O_fault_24 (Nat.le_of_ble_eq_true rfl) (Nat.le_of_ble_eq_true rfl) (Nat.le_of_ble_eq_true rfl) (Nat.le_of_ble_eq_true rfl) hS (Nat.le_of_ble_eq_true rfl) (Nat.le_of_ble_eq_true rfl)
