theorem d_O_nextCardOf_0 : decode b_O_nextCardOf 0 = .ok (.aload_n 0, 1) := by decide +kernel
theorem d_O_nextCardOf_1 : decode b_O_nextCardOf 1 = .ok (.iload_n 1, 1) := by decide +kernel
theorem d_O_nextCardOf_2 : decode b_O_nextCardOf 2 = .ok (.invokevirtual 161, 3) := by decide +kernel
theorem d_O_nextCardOf_5 : decode b_O_nextCardOf 5 = .ok (.iconst 0, 1) := by decide +kernel
theorem d_O_nextCardOf_6 : decode b_O_nextCardOf 6 = .ok (.aload_n 0, 1) := by decide +kernel
theorem d_O_nextCardOf_7 : decode b_O_nextCardOf 7 = .ok (.getfield 47, 3) := by decide +kernel
theorem d_O_nextCardOf_10 : decode b_O_nextCardOf 10 = .ok (.iload_n 1, 1) := by decide +kernel
theorem d_O_nextCardOf_11 : decode b_O_nextCardOf 11 = .ok (.iaload, 1) := by decide +kernel
theorem d_O_nextCardOf_12 : decode b_O_nextCardOf 12 = .ok (.invokevirtual 152, 3) := by decide +kernel
theorem d_O_nextCardOf_15 : decode b_O_nextCardOf 15 = .ok (.ireturn, 1) := by decide +kernel
def m_O_nextCardOf (N : Nat) (σ : SX) (a1 : Int32) : Option (Int32 × SX) :=
  (bR (m_O_tapeInRole N σ a1) fun x2 σ2 => (if inb a1 3 = true then (bI (m_T_cardOfRun N σ x2 0 ((σ 0).2 2 a1.toNatClampNeg)) fun r12 σ12 => some (r12, σ)) else none))

set_option maxHeartbeats 4000000 in
set_option maxRecDepth 100000 in
theorem c_O_nextCardOf (l : Launch) (dC : Nat → ClassId) (dI : Nat → Nat → Nat) (ad : Nat → Nat → Nat) (cs : Nat → ClassId) (sz N : Nat) (σ : SX) (a1 : Int32) {r0 : Int32} {σ0 : SX} (hM : m_O_nextCardOf N σ a1 = some (r0, σ0)) : Met l y_O_nextCardOf (wd y_O_nextCardOf b_O_nextCardOf 2 (some .int)) ({ frames := 2, cells := 0, slots := 0, locals := 45 }) (va_Pc [.ref (ad 0 0), .int a1] (preX dC dI ad cs sz σ)) (va_Qi (fun (r : Int32) (_ : Unit) => r = r0 ∧ σ = σ0) (fun _ _ => True) (fun q => sz ≤ q)) 0 0 (fun q => sz ≤ q) := by
  refine Met.ofW (cc := b_O_nextCardOf) (maxL := 2) (ret := (some .int)) (by decide) rfl ?_
  intro p e s m args below meth c s₁ B hml hv
  obtain ⟨rfl, hsz, hP, hK, hD0, hN⟩ := hv
  have hx := B.exec
  have hb := B.bytes
  have hr := B.returns
  have hts := atoms_spec (ws := (wd y_O_nextCardOf b_O_nextCardOf 2 (some .int))) B.pre
  have htb : ∀ w ∈ tb, w.before _ s = true := fun w h => hts w (List.mem_cons_of_mem _ h)
  have hown : s.vm.findClass R_O = some m.cls := findClass_of_methodNamed B.named
  have hlocks := B.notSynchronized
  subst hsz
  have hD := hD0
  have hA : ∀ q : Nat, s.heap.size ≤ q → s.heap.size ≤ q := fun q h => h
  have hS : va_S (fun q => s.heap.size ≤ q) s.heap s.heap [] := va_S.rf
  have hP : va_P (dC, dI) classes (wX ad cs σ) s.heap := hP
  have hl := lv_entry ([.ref (ad 0 0), .int a1]) (n := 2) (Nat.le_of_ble_eq_true rfl)
  rw [lg_entry_eq]
  generalize (lg_sl ([.ref (ad 0 0), .int a1]) ++ List.replicate (2 - (lg_sl ([.ref (ad 0 0), .int a1])).length) Slot.unset).toArray = ls at hl ⊢
  have hl : lv_has ls 2 [(0, .ref (ad 0 0)), (1, .int a1)] := hl
  rw [m_O_nextCardOf] at hM
  refine lv_aload_n hx hb d_O_nextCardOf_0 rfl (lv_at hl 0 rfl) ?_
  refine lv_iload_n hx hb d_O_nextCardOf_1 rfl (lv_at hl 1 rfl) ?_
  obtain ⟨x2, y2, hq2, hM⟩ := bR_some hM
  refine va_callr (va_runV (As := [.int a1]) (rest := []) ⟨hx, hb, hml, hown, hts⟩ (c_O_tapeInRole l dC dI ad cs _ N σ a1 hq2) (cwV 1 hts (goodV k_305 k_307 ks_O_tapeInRole k_1 k_308) rfl rfl rfl ⟨rfl, by decide, by decide, by decide +kernel⟩ ⟨Nat.le_of_ble_eq_true rfl, Nat.le_of_ble_eq_true rfl⟩) ⟨blindX, va_recv hK hP rfl (g_O), payX hP hK hD hN⟩ rfl rfl hl.1 rfl (lv_room (Nat.le_of_ble_eq_true rfl)) d_O_nextCardOf_2 ⟨Nat.zero_le _, Nat.zero_le _⟩) hS (fun q h0 h => absurd h0 (Nat.not_lt.mpr h)) (fun q h => hA q (Nat.le_trans hS.1 h)) (fun u ra t H locs ht hvm hpost hB hz1 hk1 hS => ?_)
  subst hpost
  obtain ⟨rfl, hx2⟩ := hB
  have hP := keepP hP hk1
  refine lv_iconst (v := 0) hx hb d_O_nextCardOf_5 (by decide) ?_
  refine lv_aload_n hx hb d_O_nextCardOf_6 rfl (lv_at hl 0 rfl) ?_
  refine va_get (D := (dC, dI)) (ci := 0) (v := .ref (ad 0 2)) (C := R_O) (T := F_O) (N := 12) hx hb htb in_O hown hK hP 0 (g_O) rfl 8 (by decide) (htb _ k_156) (fun _ h9 => h9) rfl d_O_nextCardOf_7 ?_
  refine lv_iload_n hx hb d_O_nextCardOf_10 rfl (lv_at hl 1 rfl) ?_
  have hg11 := gd_c hM
  have hM := gd_v hM
  refine va_iald hx hb hK hP 32 0 (g_O_a2) rfl (inb_in hg11) d_O_nextCardOf_11 ?_
  obtain ⟨x12, y12, hq12, hM⟩ := bI_some hM
  refine va_calli (va_runV (As := [.int 0, .int ((σ 0).2 2 a1.toNatClampNeg)]) (rest := []) ⟨hx, hb, hml, hown, hts⟩ (c_T_cardOfRun l dC dI ad cs _ N σ x2 hx2 0 ((σ 0).2 2 a1.toNatClampNeg) hq12) (cwV 2 hts (goodV k_276 k_277 k_278 k_7 k_279) rfl rfl rfl ⟨rfl, by decide, by decide, by decide +kernel⟩ ⟨Nat.le_of_ble_eq_true rfl, Nat.le_of_ble_eq_true rfl⟩) ⟨blindX, va_recv hK hP rfl (g_T hx2), payX hP hK hD hN⟩ rfl rfl hl.1 rfl (lv_room (Nat.le_of_ble_eq_true rfl)) d_O_nextCardOf_12 ⟨Nat.zero_le _, Nat.zero_le _⟩) hS (fun q h0 h => absurd h0 (Nat.not_lt.mpr h)) (fun q h => hA q (Nat.le_trans hS.1 h)) (fun r12 u t H locs ht hvm hpost hB hz1 hk1 hS => ?_)
  obtain ⟨e1, e2⟩ := hpost
  subst e1
  subst e2
  have hP := keepP hP hk1
  have e9 := Prod.mk.inj (Option.some.inj hM)
  exact W.iret (v := r12) hx hb hr (fun t ht hW => ⟨⟨r12, (), rfl, e9, trivial⟩, hS.F ht⟩) hS.2.2 d_O_nextCardOf_15

theorem d_O_sourceOfFirstCard_0 : decode b_O_sourceOfFirstCard 0 = .ok (.iconst (-1), 1) := by decide +kernel
theorem d_O_sourceOfFirstCard_1 : decode b_O_sourceOfFirstCard 1 = .ok (.istore_n 1, 1) := by decide +kernel
theorem d_O_sourceOfFirstCard_2 : decode b_O_sourceOfFirstCard 2 = .ok (.iconst 0, 1) := by decide +kernel
theorem d_O_sourceOfFirstCard_3 : decode b_O_sourceOfFirstCard 3 = .ok (.istore_n 2, 1) := by decide +kernel
theorem d_O_sourceOfFirstCard_4 : decode b_O_sourceOfFirstCard 4 = .ok (.iload_n 2, 1) := by decide +kernel
theorem d_O_sourceOfFirstCard_5 : decode b_O_sourceOfFirstCard 5 = .ok (.iconst 3, 1) := by decide +kernel
theorem d_O_sourceOfFirstCard_6 : decode b_O_sourceOfFirstCard 6 = .ok (.if_icmp .ge 51, 3) := by decide +kernel
theorem d_O_sourceOfFirstCard_9 : decode b_O_sourceOfFirstCard 9 = .ok (.aload_n 0, 1) := by decide +kernel
theorem d_O_sourceOfFirstCard_10 : decode b_O_sourceOfFirstCard 10 = .ok (.getfield 47, 3) := by decide +kernel
theorem d_O_sourceOfFirstCard_13 : decode b_O_sourceOfFirstCard 13 = .ok (.iload_n 2, 1) := by decide +kernel
theorem d_O_sourceOfFirstCard_14 : decode b_O_sourceOfFirstCard 14 = .ok (.iaload, 1) := by decide +kernel
theorem d_O_sourceOfFirstCard_15 : decode b_O_sourceOfFirstCard 15 = .ok (.aload_n 0, 1) := by decide +kernel
theorem d_O_sourceOfFirstCard_16 : decode b_O_sourceOfFirstCard 16 = .ok (.getfield 50, 3) := by decide +kernel
theorem d_O_sourceOfFirstCard_19 : decode b_O_sourceOfFirstCard 19 = .ok (.iload_n 2, 1) := by decide +kernel
theorem d_O_sourceOfFirstCard_20 : decode b_O_sourceOfFirstCard 20 = .ok (.iaload, 1) := by decide +kernel
theorem d_O_sourceOfFirstCard_21 : decode b_O_sourceOfFirstCard 21 = .ok (.if_icmp .ge 30, 3) := by decide +kernel
theorem d_O_sourceOfFirstCard_24 : decode b_O_sourceOfFirstCard 24 = .ok (.iload_n 1, 1) := by decide +kernel
theorem d_O_sourceOfFirstCard_25 : decode b_O_sourceOfFirstCard 25 = .ok (.iconst (-1), 1) := by decide +kernel
theorem d_O_sourceOfFirstCard_26 : decode b_O_sourceOfFirstCard 26 = .ok (.if_icmp .eq 23, 3) := by decide +kernel
theorem d_O_sourceOfFirstCard_29 : decode b_O_sourceOfFirstCard 29 = .ok (.aload_n 0, 1) := by decide +kernel
theorem d_O_sourceOfFirstCard_30 : decode b_O_sourceOfFirstCard 30 = .ok (.getfield 10, 3) := by decide +kernel
theorem d_O_sourceOfFirstCard_33 : decode b_O_sourceOfFirstCard 33 = .ok (.aload_n 0, 1) := by decide +kernel
theorem d_O_sourceOfFirstCard_34 : decode b_O_sourceOfFirstCard 34 = .ok (.iload_n 2, 1) := by decide +kernel
theorem d_O_sourceOfFirstCard_35 : decode b_O_sourceOfFirstCard 35 = .ok (.invokevirtual 241, 3) := by decide +kernel
theorem d_O_sourceOfFirstCard_38 : decode b_O_sourceOfFirstCard 38 = .ok (.aload_n 0, 1) := by decide +kernel
theorem d_O_sourceOfFirstCard_39 : decode b_O_sourceOfFirstCard 39 = .ok (.iload_n 1, 1) := by decide +kernel
theorem d_O_sourceOfFirstCard_40 : decode b_O_sourceOfFirstCard 40 = .ok (.invokevirtual 241, 3) := by decide +kernel
theorem d_O_sourceOfFirstCard_43 : decode b_O_sourceOfFirstCard 43 = .ok (.invokevirtual 168, 3) := by decide +kernel
theorem d_O_sourceOfFirstCard_46 : decode b_O_sourceOfFirstCard 46 = .ok (.ifCond .eq 5, 3) := by decide +kernel
theorem d_O_sourceOfFirstCard_49 : decode b_O_sourceOfFirstCard 49 = .ok (.iload_n 2, 1) := by decide +kernel
theorem d_O_sourceOfFirstCard_50 : decode b_O_sourceOfFirstCard 50 = .ok (.istore_n 1, 1) := by decide +kernel
theorem d_O_sourceOfFirstCard_51 : decode b_O_sourceOfFirstCard 51 = .ok (.iinc 2 1, 3) := by decide +kernel
theorem d_O_sourceOfFirstCard_54 : decode b_O_sourceOfFirstCard 54 = .ok (.goto (-50), 3) := by decide +kernel
theorem d_O_sourceOfFirstCard_57 : decode b_O_sourceOfFirstCard 57 = .ok (.iload_n 1, 1) := by decide +kernel
theorem d_O_sourceOfFirstCard_58 : decode b_O_sourceOfFirstCard 58 = .ok (.ireturn, 1) := by decide +kernel
def m_O_sourceOfFirstCard_4 (N : Nat) : Nat → SX → Int32 → Int32 → Option (Int32 × SX)
  | 0, _, _, _ => none
  | n4 + 1, σ, v1, v2 =>
    (if 3 ≤ v2 then some (v1, σ) else (if inb v2 3 = true then (if inb v2 3 = true then (if ((σ 0).2 3 v2.toNatClampNeg) ≤ ((σ 0).2 2 v2.toNatClampNeg) then m_O_sourceOfFirstCard_4 N n4 σ v1 (v2 + 1) else (if v1 = (-1) then m_O_sourceOfFirstCard_4 N n4 σ v2 (v2 + 1) else (bI (m_O_nextCardOf N σ v2) fun r35 σ35 => (bI (m_O_nextCardOf N σ v1) fun r40 σ40 => (bI (m_D_comesBefore N σ r35 r40) fun r43 σ43 => (if r43 = 0 then m_O_sourceOfFirstCard_4 N n4 σ v1 (v2 + 1) else m_O_sourceOfFirstCard_4 N n4 σ v2 (v2 + 1))))))) else none) else none))

def m_O_sourceOfFirstCard (N : Nat) (σ : SX) : Option (Int32 × SX) :=
  m_O_sourceOfFirstCard_4 N N σ (-1) 0

set_option maxHeartbeats 4000000 in
set_option maxRecDepth 100000 in
theorem c_O_sourceOfFirstCard (l : Launch) (dC : Nat → ClassId) (dI : Nat → Nat → Nat) (ad : Nat → Nat → Nat) (cs : Nat → ClassId) (sz N : Nat) (σ : SX) {r0 : Int32} {σ0 : SX} (hM : m_O_sourceOfFirstCard N σ = some (r0, σ0)) : Met l y_O_sourceOfFirstCard (wd y_O_sourceOfFirstCard b_O_sourceOfFirstCard 3 (some .int)) ({ frames := 3, cells := 0, slots := 0, locals := 70 }) (va_Pc [.ref (ad 0 0)] (preX dC dI ad cs sz σ)) (va_Qi (fun (r : Int32) (_ : Unit) => r = r0 ∧ σ = σ0) (fun _ _ => True) (fun q => sz ≤ q)) 0 0 (fun q => sz ≤ q) := by
  refine Met.ofW (cc := b_O_sourceOfFirstCard) (maxL := 3) (ret := (some .int)) (by decide) rfl ?_
  intro p e s m args below meth c s₁ B hml hv
  obtain ⟨rfl, hsz, hP, hK, hD0, hN⟩ := hv
  have hx := B.exec
  have hb := B.bytes
  have hr := B.returns
  have hts := atoms_spec (ws := (wd y_O_sourceOfFirstCard b_O_sourceOfFirstCard 3 (some .int))) B.pre
  have htb : ∀ w ∈ tb, w.before _ s = true := fun w h => hts w (List.mem_cons_of_mem _ h)
  have hown : s.vm.findClass R_O = some m.cls := findClass_of_methodNamed B.named
  have hlocks := B.notSynchronized
  subst hsz
  have hD := hD0
  have hA : ∀ q : Nat, s.heap.size ≤ q → s.heap.size ≤ q := fun q h => h
  have hS : va_S (fun q => s.heap.size ≤ q) s.heap s.heap [] := va_S.rf
  have hP : va_P (dC, dI) classes (wX ad cs σ) s.heap := hP
  have hl := lv_entry ([.ref (ad 0 0)]) (n := 3) (Nat.le_of_ble_eq_true rfl)
  rw [lg_entry_eq]
  generalize (lg_sl ([.ref (ad 0 0)]) ++ List.replicate (3 - (lg_sl ([.ref (ad 0 0)])).length) Slot.unset).toArray = ls at hl ⊢
  have hl : lv_has ls 3 [(0, .ref (ad 0 0))] := hl
  rw [m_O_sourceOfFirstCard] at hM
  refine W_loop (pc := 4) (fun n4 H locs ls st => ∃ (v1 : Int32) (v2 : Int32), st = [] ∧ m_O_sourceOfFirstCard_4 N n4 σ v1 v2 = some (r0, σ0) ∧ lv_has ls 3 [(0, .ref (ad 0 0)), (1, .int v1), (2, .int v2)] ∧ va_P (dC, dI) classes (wX ad cs σ) H ∧ va_D (fun _ => True) (wX ad cs σ) ∧ va_S (fun q => s.heap.size ≤ q) s.heap H locs) ?_ ?_ ?_
  · rintro H locs ls st ⟨v1, v2, -, hM, -⟩
    rw [m_O_sourceOfFirstCard_4] at hM; cases hM
  · intro n4 K4 H locs ls st hI
    obtain ⟨v1, v2, rfl, hM, hl, hP, hD, hS⟩ := hI
    rw [m_O_sourceOfFirstCard_4] at hM
    refine lv_iload_n hx hb d_O_sourceOfFirstCard_4 rfl (lv_at hl 2 rfl) ?_
    refine lv_iconst (v := 3) hx hb d_O_sourceOfFirstCard_5 (by decide) ?_
    refine lv_icmp_ge (tgt := 57) hx hb d_O_sourceOfFirstCard_6 (by decide) (fun h6 => ?_) (fun h6 => ?_)
    · rw [if_pos h6] at hM
      refine lv_iload_n hx hb d_O_sourceOfFirstCard_57 rfl (lv_at hl 1 rfl) ?_
      have e9 := Prod.mk.inj (Option.some.inj hM)
      exact W.iret (v := v1) hx hb hr (fun t ht hW => ⟨⟨v1, (), rfl, e9, trivial⟩, hS.F ht⟩) hS.2.2 d_O_sourceOfFirstCard_58
    · rw [if_neg h6] at hM
      refine lv_aload_n hx hb d_O_sourceOfFirstCard_9 rfl (lv_at hl 0 rfl) ?_
      refine va_get (D := (dC, dI)) (ci := 0) (v := .ref (ad 0 2)) (C := R_O) (T := F_O) (N := 12) hx hb htb in_O hown hK hP 0 (g_O) rfl 8 (by decide) (htb _ k_156) (fun _ h9 => h9) rfl d_O_sourceOfFirstCard_10 ?_
      refine lv_iload_n hx hb d_O_sourceOfFirstCard_13 rfl (lv_at hl 2 rfl) ?_
      have hg14 := gd_c hM
      have hM := gd_v hM
      refine va_iald hx hb hK hP 32 0 (g_O_a2) rfl (inb_in hg14) d_O_sourceOfFirstCard_14 ?_
      refine lv_aload_n hx hb d_O_sourceOfFirstCard_15 rfl (lv_at hl 0 rfl) ?_
      refine va_get (D := (dC, dI)) (ci := 0) (v := .ref (ad 0 3)) (C := R_O) (T := F_O) (N := 12) hx hb htb in_O hown hK hP 0 (g_O) rfl 9 (by decide) (htb _ k_157) (fun _ h9 => h9) rfl d_O_sourceOfFirstCard_16 ?_
      refine lv_iload_n hx hb d_O_sourceOfFirstCard_19 rfl (lv_at hl 2 rfl) ?_
      have hg20 := gd_c hM
      have hM := gd_v hM
      refine va_iald hx hb hK hP 33 0 (g_O_a3) rfl (inb_in hg20) d_O_sourceOfFirstCard_20 ?_
      refine lv_icmp_ge (tgt := 51) hx hb d_O_sourceOfFirstCard_21 (by decide) (fun h21 => ?_) (fun h21 => ?_)
      · rw [if_pos h21] at hM
        refine lv_iinc (k := 2) (v := (v2 + 1)) hx hb d_O_sourceOfFirstCard_51 hl rfl rfl (by decide) (lv' := [(2, .int (v2 + 1)), (0, .ref (ad 0 0)), (1, .int v1)]) rfl (fun ls hl => ?_)
        refine lv_goto (tgt := 4) hx hb d_O_sourceOfFirstCard_54 (by decide) ?_
        exact K4 _ _ _ _ ⟨v1, (v2 + 1), rfl, hM, lv_sub hl [1, 2, 0] rfl, hP, hD, hS⟩
      · rw [if_neg h21] at hM
        refine lv_iload_n hx hb d_O_sourceOfFirstCard_24 rfl (lv_at hl 1 rfl) ?_
        refine lv_iconst (v := (-1)) hx hb d_O_sourceOfFirstCard_25 (by decide) ?_
        refine lv_icmp_eq (tgt := 49) hx hb d_O_sourceOfFirstCard_26 (by decide) (fun h26 => ?_) (fun h26 => ?_)
        · rw [if_pos h26] at hM
          refine lv_iload_n hx hb d_O_sourceOfFirstCard_49 rfl (lv_at hl 2 rfl) ?_
          refine lv_istore_n hx hb d_O_sourceOfFirstCard_50 rfl hl (by decide) (lv' := [(1, .int v2), (0, .ref (ad 0 0)), (2, .int v2)]) rfl (fun ls hl => ?_)
          refine lv_iinc (k := 2) (v := (v2 + 1)) hx hb d_O_sourceOfFirstCard_51 hl rfl rfl (by decide) (lv' := [(2, .int (v2 + 1)), (1, .int v2), (0, .ref (ad 0 0))]) rfl (fun ls hl => ?_)
          refine lv_goto (tgt := 4) hx hb d_O_sourceOfFirstCard_54 (by decide) ?_
          exact K4 _ _ _ _ ⟨v2, (v2 + 1), rfl, hM, lv_sub hl [2, 1, 0] rfl, hP, hD, hS⟩
        · rw [if_neg h26] at hM
          refine lv_aload_n hx hb d_O_sourceOfFirstCard_29 rfl (lv_at hl 0 rfl) ?_
          refine va_get (D := (dC, dI)) (ci := 0) (v := .ref (ad 1 0)) (C := R_O) (T := F_O) (N := 12) hx hb htb in_O hown hK hP 0 (g_O) rfl 0 (by decide) (htb _ k_148) (fun _ h9 => h9) rfl d_O_sourceOfFirstCard_30 ?_
          refine lv_aload_n hx hb d_O_sourceOfFirstCard_33 rfl (lv_at hl 0 rfl) ?_
          refine lv_iload_n hx hb d_O_sourceOfFirstCard_34 rfl (lv_at hl 2 rfl) ?_
          obtain ⟨x35, y35, hq35, hM⟩ := bI_some hM
          refine va_calli (va_runV (As := [.int v2]) (rest := [.ref (ad 1 0)]) ⟨hx, hb, hml, hown, hts⟩ (c_O_nextCardOf l dC dI ad cs _ N σ v2 hq35) (cwV 1 hts (goodV k_578 k_580 ks_O_nextCardOf k_1 k_581) rfl rfl rfl ⟨rfl, by decide, by decide, by decide +kernel⟩ ⟨Nat.le_of_ble_eq_true rfl, Nat.le_of_ble_eq_true rfl⟩) ⟨blindX, va_recv hK hP rfl (g_O), payX hP hK hD hN⟩ rfl rfl hl.1 rfl (lv_room (Nat.le_of_ble_eq_true rfl)) d_O_sourceOfFirstCard_35 ⟨Nat.zero_le _, Nat.zero_le _⟩) hS (fun q h0 h => absurd h0 (Nat.not_lt.mpr h)) (fun q h => hA q (Nat.le_trans hS.1 h)) (fun r35 u t H locs ht hvm hpost hB hz1 hk1 hS => ?_)
          obtain ⟨e1, e2⟩ := hpost
          subst e1
          subst e2
          have hP := keepP hP hk1
          refine lv_aload_n hx hb d_O_sourceOfFirstCard_38 rfl (lv_at hl 0 rfl) ?_
          refine lv_iload_n hx hb d_O_sourceOfFirstCard_39 rfl (lv_at hl 1 rfl) ?_
          obtain ⟨x40, y40, hq40, hM⟩ := bI_some hM
          refine va_calli (va_runV (As := [.int v1]) (rest := [.int r35, .ref (ad 1 0)]) ⟨hx, hb, hml, hown, hts⟩ (c_O_nextCardOf l dC dI ad cs _ N σ v1 hq40) (cwV 1 hts (goodV k_578 k_580 ks_O_nextCardOf k_1 k_581) rfl rfl rfl ⟨rfl, by decide, by decide, by decide +kernel⟩ ⟨Nat.le_of_ble_eq_true rfl, Nat.le_of_ble_eq_true rfl⟩) ⟨blindX, va_recv hK hP rfl (g_O), payX hP hK hD hN⟩ rfl rfl hl.1 rfl (lv_room (Nat.le_of_ble_eq_true rfl)) d_O_sourceOfFirstCard_40 ⟨Nat.zero_le _, Nat.zero_le _⟩) hS (fun q h0 h => absurd h0 (Nat.not_lt.mpr h)) (fun q h => hA q (Nat.le_trans hS.1 h)) (fun r40 u t H locs ht hvm hpost hB hz1 hk1 hS => ?_)
          obtain ⟨e1, e2⟩ := hpost
          subst e1
          subst e2
          have hP := keepP hP hk1
          obtain ⟨x43, y43, hq43, hM⟩ := bI_some hM
          refine va_calli (va_runV (As := [.int r35, .int r40]) (rest := []) ⟨hx, hb, hml, hown, hts⟩ (c_D_comesBefore l dC dI ad cs _ N σ r35 r40 hq43) (cwV 2 hts (goodV k_317 k_318 k_319 k_2 k_320) rfl rfl rfl ⟨rfl, by decide, by decide, by decide +kernel⟩ ⟨Nat.le_of_ble_eq_true rfl, Nat.le_of_ble_eq_true rfl⟩) ⟨blindX, va_recv hK hP rfl (g_D), payX hP hK hD hN⟩ rfl rfl hl.1 rfl (lv_room (Nat.le_of_ble_eq_true rfl)) d_O_sourceOfFirstCard_43 ⟨Nat.zero_le _, Nat.zero_le _⟩) hS (fun q h0 h => absurd h0 (Nat.not_lt.mpr h)) (fun q h => hA q (Nat.le_trans hS.1 h)) (fun r43 u t H locs ht hvm hpost hB hz1 hk1 hS => ?_)
          obtain ⟨e1, e2⟩ := hpost
          subst e1
          subst e2
          have hP := keepP hP hk1
          refine lv_if_eq (tgt := 51) hx hb d_O_sourceOfFirstCard_46 (by decide) (fun h46 => ?_) (fun h46 => ?_)
          · rw [if_pos h46] at hM
            refine lv_iinc (k := 2) (v := (v2 + 1)) hx hb d_O_sourceOfFirstCard_51 hl rfl rfl (by decide) (lv' := [(2, .int (v2 + 1)), (0, .ref (ad 0 0)), (1, .int v1)]) rfl (fun ls hl => ?_)
            refine lv_goto (tgt := 4) hx hb d_O_sourceOfFirstCard_54 (by decide) ?_
            exact K4 _ _ _ _ ⟨v1, (v2 + 1), rfl, hM, lv_sub hl [1, 2, 0] rfl, hP, hD, hS⟩
          · rw [if_neg h46] at hM
            refine lv_iload_n hx hb d_O_sourceOfFirstCard_49 rfl (lv_at hl 2 rfl) ?_
            refine lv_istore_n hx hb d_O_sourceOfFirstCard_50 rfl hl (by decide) (lv' := [(1, .int v2), (0, .ref (ad 0 0)), (2, .int v2)]) rfl (fun ls hl => ?_)
            refine lv_iinc (k := 2) (v := (v2 + 1)) hx hb d_O_sourceOfFirstCard_51 hl rfl rfl (by decide) (lv' := [(2, .int (v2 + 1)), (1, .int v2), (0, .ref (ad 0 0))]) rfl (fun ls hl => ?_)
            refine lv_goto (tgt := 4) hx hb d_O_sourceOfFirstCard_54 (by decide) ?_
            exact K4 _ _ _ _ ⟨v2, (v2 + 1), rfl, hM, lv_sub hl [2, 1, 0] rfl, hP, hD, hS⟩
  intro K4
  refine lv_iconst (v := (-1)) hx hb d_O_sourceOfFirstCard_0 (by decide) ?_
  refine lv_istore_n hx hb d_O_sourceOfFirstCard_1 rfl hl (by decide) (lv' := [(1, .int (-1)), (0, .ref (ad 0 0))]) rfl (fun ls hl => ?_)
  refine lv_iconst (v := 0) hx hb d_O_sourceOfFirstCard_2 (by decide) ?_
  refine lv_istore_n hx hb d_O_sourceOfFirstCard_3 rfl hl (by decide) (lv' := [(2, .int 0), (1, .int (-1)), (0, .ref (ad 0 0))]) rfl (fun ls hl => ?_)
  exact K4 N _ _ _ _ ⟨(-1), 0, rfl, hM, lv_sub hl [2, 1, 0] rfl, hP, hD, hS⟩

theorem d_O_writeMergedRun_0 : decode b_O_writeMergedRun 0 = .ok (.aload_n 0, 1) := by decide +kernel
theorem d_O_writeMergedRun_1 : decode b_O_writeMergedRun 1 = .ok (.getfield 33, 3) := by decide +kernel
theorem d_O_writeMergedRun_4 : decode b_O_writeMergedRun 4 = .ok (.invokevirtual 196, 3) := by decide +kernel
theorem d_O_writeMergedRun_7 : decode b_O_writeMergedRun 7 = .ok (.iconst 0, 1) := by decide +kernel
theorem d_O_writeMergedRun_8 : decode b_O_writeMergedRun 8 = .ok (.istore_n 1, 1) := by decide +kernel
theorem d_O_writeMergedRun_9 : decode b_O_writeMergedRun 9 = .ok (.iload_n 1, 1) := by decide +kernel
theorem d_O_writeMergedRun_10 : decode b_O_writeMergedRun 10 = .ok (.iconst 3, 1) := by decide +kernel
theorem d_O_writeMergedRun_11 : decode b_O_writeMergedRun 11 = .ok (.if_icmp .ge 44, 3) := by decide +kernel
theorem d_O_writeMergedRun_14 : decode b_O_writeMergedRun 14 = .ok (.aload_n 0, 1) := by decide +kernel
theorem d_O_writeMergedRun_15 : decode b_O_writeMergedRun 15 = .ok (.iload_n 1, 1) := by decide +kernel
theorem d_O_writeMergedRun_16 : decode b_O_writeMergedRun 16 = .ok (.invokevirtual 161, 3) := by decide +kernel
theorem d_O_writeMergedRun_19 : decode b_O_writeMergedRun 19 = .ok (.astore_n 2, 1) := by decide +kernel
theorem d_O_writeMergedRun_20 : decode b_O_writeMergedRun 20 = .ok (.aload_n 0, 1) := by decide +kernel
theorem d_O_writeMergedRun_21 : decode b_O_writeMergedRun 21 = .ok (.getfield 47, 3) := by decide +kernel
theorem d_O_writeMergedRun_24 : decode b_O_writeMergedRun 24 = .ok (.iload_n 1, 1) := by decide +kernel
theorem d_O_writeMergedRun_25 : decode b_O_writeMergedRun 25 = .ok (.iconst 0, 1) := by decide +kernel
theorem d_O_writeMergedRun_26 : decode b_O_writeMergedRun 26 = .ok (.iastore, 1) := by decide +kernel
theorem d_O_writeMergedRun_27 : decode b_O_writeMergedRun 27 = .ok (.aload_n 0, 1) := by decide +kernel
theorem d_O_writeMergedRun_28 : decode b_O_writeMergedRun 28 = .ok (.getfield 50, 3) := by decide +kernel
theorem d_O_writeMergedRun_31 : decode b_O_writeMergedRun 31 = .ok (.iload_n 1, 1) := by decide +kernel
theorem d_O_writeMergedRun_32 : decode b_O_writeMergedRun 32 = .ok (.aload_n 2, 1) := by decide +kernel
theorem d_O_writeMergedRun_33 : decode b_O_writeMergedRun 33 = .ok (.invokevirtual 232, 3) := by decide +kernel
theorem d_O_writeMergedRun_36 : decode b_O_writeMergedRun 36 = .ok (.ifCond .eq 7, 3) := by decide +kernel
theorem d_O_writeMergedRun_39 : decode b_O_writeMergedRun 39 = .ok (.iconst 0, 1) := by decide +kernel
theorem d_O_writeMergedRun_40 : decode b_O_writeMergedRun 40 = .ok (.goto 8, 3) := by decide +kernel
theorem d_O_writeMergedRun_43 : decode b_O_writeMergedRun 43 = .ok (.aload_n 2, 1) := by decide +kernel
theorem d_O_writeMergedRun_44 : decode b_O_writeMergedRun 44 = .ok (.iconst 0, 1) := by decide +kernel
theorem d_O_writeMergedRun_45 : decode b_O_writeMergedRun 45 = .ok (.invokevirtual 149, 3) := by decide +kernel
theorem d_O_writeMergedRun_48 : decode b_O_writeMergedRun 48 = .ok (.iastore, 1) := by decide +kernel
theorem d_O_writeMergedRun_49 : decode b_O_writeMergedRun 49 = .ok (.iinc 1 1, 3) := by decide +kernel
theorem d_O_writeMergedRun_52 : decode b_O_writeMergedRun 52 = .ok (.goto (-43), 3) := by decide +kernel
theorem d_O_writeMergedRun_55 : decode b_O_writeMergedRun 55 = .ok (.iconst 0, 1) := by decide +kernel
theorem d_O_writeMergedRun_56 : decode b_O_writeMergedRun 56 = .ok (.istore_n 1, 1) := by decide +kernel
theorem d_O_writeMergedRun_57 : decode b_O_writeMergedRun 57 = .ok (.iload_n 1, 1) := by decide +kernel
theorem d_O_writeMergedRun_58 : decode b_O_writeMergedRun 58 = .ok (.sipush 150, 3) := by decide +kernel
theorem d_O_writeMergedRun_61 : decode b_O_writeMergedRun 61 = .ok (.if_icmp .ge 55, 3) := by decide +kernel
theorem d_O_writeMergedRun_64 : decode b_O_writeMergedRun 64 = .ok (.aload_n 0, 1) := by decide +kernel
theorem d_O_writeMergedRun_65 : decode b_O_writeMergedRun 65 = .ok (.invokevirtual 238, 3) := by decide +kernel
theorem d_O_writeMergedRun_68 : decode b_O_writeMergedRun 68 = .ok (.istore_n 2, 1) := by decide +kernel
theorem d_O_writeMergedRun_69 : decode b_O_writeMergedRun 69 = .ok (.iload_n 2, 1) := by decide +kernel
theorem d_O_writeMergedRun_70 : decode b_O_writeMergedRun 70 = .ok (.iconst (-1), 1) := by decide +kernel
theorem d_O_writeMergedRun_71 : decode b_O_writeMergedRun 71 = .ok (.if_icmp .ne 5, 3) := by decide +kernel
theorem d_O_writeMergedRun_74 : decode b_O_writeMergedRun 74 = .ok (.iconst 1, 1) := by decide +kernel
theorem d_O_writeMergedRun_75 : decode b_O_writeMergedRun 75 = .ok (.ireturn, 1) := by decide +kernel
theorem d_O_writeMergedRun_76 : decode b_O_writeMergedRun 76 = .ok (.aload_n 0, 1) := by decide +kernel
theorem d_O_writeMergedRun_77 : decode b_O_writeMergedRun 77 = .ok (.getfield 26, 3) := by decide +kernel
theorem d_O_writeMergedRun_80 : decode b_O_writeMergedRun 80 = .ok (.invokevirtual 201, 3) := by decide +kernel
theorem d_O_writeMergedRun_83 : decode b_O_writeMergedRun 83 = .ok (.ifCond .ne 5, 3) := by decide +kernel
theorem d_O_writeMergedRun_86 : decode b_O_writeMergedRun 86 = .ok (.iconst 0, 1) := by decide +kernel
theorem d_O_writeMergedRun_87 : decode b_O_writeMergedRun 87 = .ok (.ireturn, 1) := by decide +kernel
theorem d_O_writeMergedRun_88 : decode b_O_writeMergedRun 88 = .ok (.aload_n 0, 1) := by decide +kernel
theorem d_O_writeMergedRun_89 : decode b_O_writeMergedRun 89 = .ok (.getfield 33, 3) := by decide +kernel
theorem d_O_writeMergedRun_92 : decode b_O_writeMergedRun 92 = .ok (.aload_n 0, 1) := by decide +kernel
theorem d_O_writeMergedRun_93 : decode b_O_writeMergedRun 93 = .ok (.iload_n 2, 1) := by decide +kernel
theorem d_O_writeMergedRun_94 : decode b_O_writeMergedRun 94 = .ok (.invokevirtual 241, 3) := by decide +kernel
theorem d_O_writeMergedRun_97 : decode b_O_writeMergedRun 97 = .ok (.invokevirtual 207, 3) := by decide +kernel
theorem d_O_writeMergedRun_100 : decode b_O_writeMergedRun 100 = .ok (.aload_n 0, 1) := by decide +kernel
theorem d_O_writeMergedRun_101 : decode b_O_writeMergedRun 101 = .ok (.getfield 47, 3) := by decide +kernel
theorem d_O_writeMergedRun_104 : decode b_O_writeMergedRun 104 = .ok (.iload_n 2, 1) := by decide +kernel
theorem d_O_writeMergedRun_105 : decode b_O_writeMergedRun 105 = .ok (.dup2, 1) := by decide +kernel
theorem d_O_writeMergedRun_106 : decode b_O_writeMergedRun 106 = .ok (.iaload, 1) := by decide +kernel
theorem d_O_writeMergedRun_107 : decode b_O_writeMergedRun 107 = .ok (.iconst 1, 1) := by decide +kernel
theorem d_O_writeMergedRun_108 : decode b_O_writeMergedRun 108 = .ok (.iadd, 1) := by decide +kernel
theorem d_O_writeMergedRun_109 : decode b_O_writeMergedRun 109 = .ok (.iastore, 1) := by decide +kernel
theorem d_O_writeMergedRun_110 : decode b_O_writeMergedRun 110 = .ok (.iinc 1 1, 3) := by decide +kernel
theorem d_O_writeMergedRun_113 : decode b_O_writeMergedRun 113 = .ok (.goto (-56), 3) := by decide +kernel
theorem d_O_writeMergedRun_116 : decode b_O_writeMergedRun 116 = .ok (.iconst 1, 1) := by decide +kernel
theorem d_O_writeMergedRun_117 : decode b_O_writeMergedRun 117 = .ok (.ireturn, 1) := by decide +kernel
def m_O_writeMergedRun_57 (N : Nat) : Nat → SX → Int32 → Option (Int32 × SX)
  | 0, _, _ => none
  | n57 + 1, σ, v1 =>
    (if 150 ≤ v1 then some (1, σ) else (bI (m_O_sourceOfFirstCard N σ) fun r65 σ65 => (if r65 = (-1) then some (1, σ) else (bI (m_V_writeCard N σ) fun r80 σ80 => (if r80 = 0 then some (0, σ80) else (bI (m_O_nextCardOf N σ80 r65) fun r94 σ94 => (bV (m_R_add N σ80 r94) fun σ97 => (if inb r65 3 = true then (if inb r65 3 = true then m_O_writeMergedRun_57 N n57 (w3 σ97 0 2 r65 (((σ97 0).2 2 r65.toNatClampNeg) + 1)) (v1 + 1) else none) else none))))))))

def m_O_writeMergedRun_9 (N : Nat) : Nat → SX → Int32 → Option (Int32 × SX)
  | 0, _, _ => none
  | n9 + 1, σ, v1 =>
    (if 3 ≤ v1 then m_O_writeMergedRun_57 N N σ 0 else (bR (m_O_tapeInRole N σ v1) fun x16 σ16 => (if inb v1 3 = true then (bI (m_T_hasDummy N (w3 σ 0 2 v1 0) x16) fun r33 σ33 => (if r33 = 0 then (bI (m_T_runLength N (w3 σ 0 2 v1 0) x16 0) fun r45 σ45 => (if inb v1 3 = true then m_O_writeMergedRun_9 N n9 (w3 (w3 σ 0 2 v1 0) 0 3 v1 r45) (v1 + 1) else none)) else (if inb v1 3 = true then m_O_writeMergedRun_9 N n9 (w3 (w3 σ 0 2 v1 0) 0 3 v1 0) (v1 + 1) else none))) else none)))

def m_O_writeMergedRun (N : Nat) (σ : SX) : Option (Int32 × SX) :=
  (bV (m_R_forgetAll N σ) fun σ4 => m_O_writeMergedRun_9 N N σ4 0)

set_option maxHeartbeats 4000000 in
set_option maxRecDepth 100000 in
theorem c_O_writeMergedRun (l : Launch) (dC : Nat → ClassId) (dI : Nat → Nat → Nat) (ad : Nat → Nat → Nat) (cs : Nat → ClassId) (sz N : Nat) (σ : SX) {r0 : Int32} {σ0 : SX} (hM : m_O_writeMergedRun N σ = some (r0, σ0)) : Met l y_O_writeMergedRun (wd y_O_writeMergedRun b_O_writeMergedRun 3 (some .boolean)) ({ frames := 4, cells := 0, slots := 0, locals := 92 }) (va_Pc [.ref (ad 0 0)] (preX dC dI ad cs sz σ)) (va_Qi (fun (r : Int32) (u : SX) => r = r0 ∧ u = σ0) (atX dC dI ad cs (va_A (wX ad cs σ) sz)) (va_A (wX ad cs σ) sz)) 0 0 (va_A (wX ad cs σ) sz) := by
  refine Met.ofW (cc := b_O_writeMergedRun) (maxL := 3) (ret := (some .boolean)) (by decide) rfl ?_
  intro p e s m args below meth c s₁ B hml hv
  obtain ⟨rfl, hsz, hP, hK, hD0, hN⟩ := hv
  have hx := B.exec
  have hb := B.bytes
  have hr := B.returns
  have hts := atoms_spec (ws := (wd y_O_writeMergedRun b_O_writeMergedRun 3 (some .boolean))) B.pre
  have htb : ∀ w ∈ tb, w.before _ s = true := fun w h => hts w (List.mem_cons_of_mem _ h)
  have hown : s.vm.findClass R_O = some m.cls := findClass_of_methodNamed B.named
  have hlocks := B.notSynchronized
  subst hsz
  have hD := hD0.self (sz := s.heap.size)
  generalize hAe : va_A (wX ad cs σ) s.heap.size = A at hD ⊢
  have hA : ∀ q : Nat, s.heap.size ≤ q → A q := fun q h => by rw [← hAe]; exact Or.inr h
  have hS : va_S A s.heap s.heap [] := va_S.rf
  have hP : va_P (dC, dI) classes (wX ad cs σ) s.heap := hP
  have hl := lv_entry ([.ref (ad 0 0)]) (n := 3) (Nat.le_of_ble_eq_true rfl)
  rw [lg_entry_eq]
  generalize (lg_sl ([.ref (ad 0 0)]) ++ List.replicate (3 - (lg_sl ([.ref (ad 0 0)])).length) Slot.unset).toArray = ls at hl ⊢
  have hl : lv_has ls 3 [(0, .ref (ad 0 0))] := hl
  rw [m_O_writeMergedRun] at hM
  refine W_loop (pc := 57) (fun n57 H locs ls st => ∃ (σ : SX) (v1 : Int32), st = [] ∧ m_O_writeMergedRun_57 N n57 σ v1 = some (r0, σ0) ∧ lv_has ls 3 [(0, .ref (ad 0 0)), (1, .int v1)] ∧ va_P (dC, dI) classes (wX ad cs σ) H ∧ va_D A (wX ad cs σ) ∧ va_S A s.heap H locs) ?_ ?_ ?_
  · rintro H locs ls st ⟨σ, v1, -, hM, -⟩
    rw [m_O_writeMergedRun_57] at hM; cases hM
  · intro n57 K57 H locs ls st hI
    obtain ⟨σ, v1, rfl, hM, hl, hP, hD, hS⟩ := hI
    rw [m_O_writeMergedRun_57] at hM
    refine lv_iload_n hx hb d_O_writeMergedRun_57 rfl (lv_at hl 1 rfl) ?_
    refine lv_sipush (v := 150) hx hb d_O_writeMergedRun_58 (by decide) ?_
    refine lv_icmp_ge (tgt := 116) hx hb d_O_writeMergedRun_61 (by decide) (fun h61 => ?_) (fun h61 => ?_)
    · rw [if_pos h61] at hM
      refine lv_iconst (v := 1) hx hb d_O_writeMergedRun_116 (by decide) ?_
      have e9 := Prod.mk.inj (Option.some.inj hM)
      exact W.zret (ty := .boolean) (v := 1) hx hb hr rfl (fun t ht hW => ⟨⟨1, σ, rfl, e9, by rw [ht]; exact hP, va_K.moved hW.alike hK, hD⟩, hS.F ht⟩) hS.2.2 d_O_writeMergedRun_117
    · rw [if_neg h61] at hM
      refine lv_aload_n hx hb d_O_writeMergedRun_64 rfl (lv_at hl 0 rfl) ?_
      obtain ⟨x65, y65, hq65, hM⟩ := bI_some hM
      refine va_calli (va_runV (As := []) (rest := []) ⟨hx, hb, hml, hown, hts⟩ (c_O_sourceOfFirstCard l dC dI ad cs _ N σ hq65) (cwV 0 hts (goodV k_574 k_576 ks_O_sourceOfFirstCard k_1 k_577) rfl rfl rfl ⟨rfl, by decide, by decide, by decide +kernel⟩ ⟨Nat.le_of_ble_eq_true rfl, Nat.le_of_ble_eq_true rfl⟩) ⟨blindX, va_recv hK hP rfl (g_O), payX hP hK hD hN⟩ rfl rfl hl.1 rfl (lv_room (Nat.le_of_ble_eq_true rfl)) d_O_writeMergedRun_65 ⟨Nat.zero_le _, Nat.zero_le _⟩) hS (fun q h0 h => absurd h0 (Nat.not_lt.mpr h)) (fun q h => hA q (Nat.le_trans hS.1 h)) (fun r65 u t H locs ht hvm hpost hB hz1 hk1 hS => ?_)
      obtain ⟨e1, e2⟩ := hpost
      subst e1
      subst e2
      have hP := keepP hP hk1
      refine lv_istore_n hx hb d_O_writeMergedRun_68 rfl hl (by decide) (lv' := [(2, .int r65), (0, .ref (ad 0 0)), (1, .int v1)]) rfl (fun ls hl => ?_)
      refine lv_iload_n hx hb d_O_writeMergedRun_69 rfl (lv_at hl 0 rfl) ?_
      refine lv_iconst (v := (-1)) hx hb d_O_writeMergedRun_70 (by decide) ?_
      refine lv_icmp_ne (tgt := 76) hx hb d_O_writeMergedRun_71 (by decide) (fun h71 => ?_) (fun h71 => ?_)
      · rw [if_neg h71] at hM
        refine lv_aload_n hx hb d_O_writeMergedRun_76 rfl (lv_at hl 1 rfl) ?_
        refine va_get (D := (dC, dI)) (ci := 0) (v := .ref (ad 5 0)) (C := R_O) (T := F_O) (N := 12) hx hb htb in_O hown hK hP 0 (g_O) rfl 4 (by decide) (htb _ k_152) (fun _ h9 => h9) rfl d_O_writeMergedRun_77 ?_
        have hF1 := free_all hD hS hA
        obtain ⟨x80, y80, hq80, hM⟩ := bI_some hM
        refine va_calli (va_runV (As := []) (rest := []) ⟨hx, hb, hml, hown, hts⟩ (c_V_writeCard l dC dI ad cs _ N σ hq80) (cwV 0 hts (goodV k_508 k_509 k_510 k_4 k_511) rfl rfl rfl ⟨rfl, by decide, by decide, by decide +kernel⟩ ⟨Nat.le_of_ble_eq_true rfl, Nat.le_of_ble_eq_true rfl⟩) ⟨blindX, va_recv hK hP rfl (g_V), payX hP hK hD hN⟩ rfl rfl hl.1 rfl (lv_room (Nat.le_of_ble_eq_true rfl)) d_O_writeMergedRun_80 ⟨Nat.zero_le _, Nat.zero_le _⟩) hS (fun q _ h => hF1 q h) hF1 (fun r80 σ80 t H locs ht hvm hpost hB hz1 hk1 hS => ?_)
        obtain ⟨e1, e2⟩ := hpost
        subst e1
        subst e2
        obtain ⟨hP1, hK1, hD1⟩ := hB
        rw [ht] at hP1
        have hP := hP1
        have hD := hD1.weaken (fun _ _ _ h => hF1 _ h)
        refine lv_if_ne (tgt := 88) hx hb d_O_writeMergedRun_83 (by decide) (fun h83 => ?_) (fun h83 => ?_)
        · rw [if_neg h83] at hM
          refine lv_aload_n hx hb d_O_writeMergedRun_88 rfl (lv_at hl 1 rfl) ?_
          refine va_get (D := (dC, dI)) (ci := 0) (v := .ref (ad 6 0)) (C := R_O) (T := F_O) (N := 12) hx hb htb in_O hown hK hP 0 (g_O) rfl 5 (by decide) (htb _ k_153) (fun _ h9 => h9) rfl d_O_writeMergedRun_89 ?_
          refine lv_aload_n hx hb d_O_writeMergedRun_92 rfl (lv_at hl 1 rfl) ?_
          refine lv_iload_n hx hb d_O_writeMergedRun_93 rfl (lv_at hl 0 rfl) ?_
          obtain ⟨x94, y94, hq94, hM⟩ := bI_some hM
          refine va_calli (va_runV (As := [.int r65]) (rest := [.ref (ad 6 0)]) ⟨hx, hb, hml, hown, hts⟩ (c_O_nextCardOf l dC dI ad cs _ N σ80 r65 hq94) (cwV 1 hts (goodV k_578 k_580 ks_O_nextCardOf k_1 k_581) rfl rfl rfl ⟨rfl, by decide, by decide, by decide +kernel⟩ ⟨Nat.le_of_ble_eq_true rfl, Nat.le_of_ble_eq_true rfl⟩) ⟨blindX, va_recv hK hP rfl (g_O), payX hP hK hD hN⟩ rfl rfl hl.1 rfl (lv_room (Nat.le_of_ble_eq_true rfl)) d_O_writeMergedRun_94 ⟨Nat.zero_le _, Nat.zero_le _⟩) hS (fun q h0 h => absurd h0 (Nat.not_lt.mpr h)) (fun q h => hA q (Nat.le_trans hS.1 h)) (fun r94 u t H locs ht hvm hpost hB hz1 hk1 hS => ?_)
          obtain ⟨e1, e2⟩ := hpost
          subst e1
          subst e2
          have hP := keepP hP hk1
          have hF1 := free_all hD hS hA
          obtain ⟨y97, hq97, hM⟩ := bV_some hM
          refine va_callv (va_runV (As := [.int r94]) (rest := []) ⟨hx, hb, hml, hown, hts⟩ (c_R_add l dC dI ad cs _ N σ80 r94 hq97) (cwV 1 hts (goodV k_516 k_517 k_518 k_5 k_519) rfl rfl rfl ⟨rfl, by decide, by decide, by decide +kernel⟩ ⟨Nat.le_of_ble_eq_true rfl, Nat.le_of_ble_eq_true rfl⟩) ⟨blindX, va_recv hK hP rfl (g_R), payX hP hK hD hN⟩ rfl rfl hl.1 rfl (lv_room (Nat.le_of_ble_eq_true rfl)) d_O_writeMergedRun_97 ⟨Nat.zero_le _, Nat.zero_le _⟩) hS (fun q _ h => hF1 q h) hF1 (fun σ97 t H locs ht hvm hpost hB hz1 hk1 hS => ?_)
          subst hpost
          obtain ⟨hP1, hK1, hD1⟩ := hB
          rw [ht] at hP1
          have hP := hP1
          have hD := hD1.weaken (fun _ _ _ h => hF1 _ h)
          refine lv_aload_n hx hb d_O_writeMergedRun_100 rfl (lv_at hl 1 rfl) ?_
          refine va_get (D := (dC, dI)) (ci := 0) (v := .ref (ad 0 2)) (C := R_O) (T := F_O) (N := 12) hx hb htb in_O hown hK hP 0 (g_O) rfl 8 (by decide) (htb _ k_156) (fun _ h9 => h9) rfl d_O_writeMergedRun_101 ?_
          refine lv_iload_n hx hb d_O_writeMergedRun_104 rfl (lv_at hl 0 rfl) ?_
          refine lv_dup2_11 hx hb d_O_writeMergedRun_105 rfl rfl ?_
          have hg106 := gd_c hM
          have hM := gd_v hM
          refine va_iald hx hb hK hP 32 0 (g_O_a2) rfl (inb_in hg106) d_O_writeMergedRun_106 ?_
          refine lv_iconst (v := 1) hx hb d_O_writeMergedRun_107 (by decide) ?_
          refine lv_iadd hx hb d_O_writeMergedRun_108 ?_
          have hg109 := gd_c hM
          have hM := gd_v hM
          refine va_iast (i := r65) (x := (((σ97 0).2 2 r65.toNatClampNeg) + 1)) hx hb hK hP hD hS 32 0 (g_O_a2) rfl (inb_in hg109) d_O_writeMergedRun_109 (fun H locs hP hD hS => ?_)
          have hP := P_eq (t_O_2) hP
          have hD := D_eq (t_O_2) hD
          refine lv_iinc (k := 2) (v := (v1 + 1)) hx hb d_O_writeMergedRun_110 hl rfl rfl (by decide) (lv' := [(1, .int (v1 + 1)), (2, .int r65), (0, .ref (ad 0 0))]) rfl (fun ls hl => ?_)
          refine lv_goto (tgt := 57) hx hb d_O_writeMergedRun_113 (by decide) ?_
          exact K57 _ _ _ _ ⟨(w3 σ97 0 2 r65 (((σ97 0).2 2 r65.toNatClampNeg) + 1)), (v1 + 1), rfl, hM, lv_sub hl [2, 0] rfl, hP, hD, hS⟩
        · rw [if_pos h83] at hM
          refine lv_iconst (v := 0) hx hb d_O_writeMergedRun_86 (by decide) ?_
          have e9 := Prod.mk.inj (Option.some.inj hM)
          exact W.zret (ty := .boolean) (v := 0) hx hb hr rfl (fun t ht hW => ⟨⟨0, σ80, rfl, e9, by rw [ht]; exact hP, va_K.moved hW.alike hK, hD⟩, hS.F ht⟩) hS.2.2 d_O_writeMergedRun_87
      · rw [if_pos h71] at hM
        refine lv_iconst (v := 1) hx hb d_O_writeMergedRun_74 (by decide) ?_
        have e9 := Prod.mk.inj (Option.some.inj hM)
        exact W.zret (ty := .boolean) (v := 1) hx hb hr rfl (fun t ht hW => ⟨⟨1, σ, rfl, e9, by rw [ht]; exact hP, va_K.moved hW.alike hK, hD⟩, hS.F ht⟩) hS.2.2 d_O_writeMergedRun_75
  intro K57
  refine W_loop (pc := 9) (fun n9 H locs ls st => ∃ (σ : SX) (v1 : Int32), st = [] ∧ m_O_writeMergedRun_9 N n9 σ v1 = some (r0, σ0) ∧ lv_has ls 3 [(0, .ref (ad 0 0)), (1, .int v1)] ∧ va_P (dC, dI) classes (wX ad cs σ) H ∧ va_D A (wX ad cs σ) ∧ va_S A s.heap H locs) ?_ ?_ ?_
  · rintro H locs ls st ⟨σ, v1, -, hM, -⟩
    rw [m_O_writeMergedRun_9] at hM; cases hM
  · intro n9 K9 H locs ls st hI
    obtain ⟨σ, v1, rfl, hM, hl, hP, hD, hS⟩ := hI
    rw [m_O_writeMergedRun_9] at hM
    refine lv_iload_n hx hb d_O_writeMergedRun_9 rfl (lv_at hl 1 rfl) ?_
    refine lv_iconst (v := 3) hx hb d_O_writeMergedRun_10 (by decide) ?_
    refine lv_icmp_ge (tgt := 55) hx hb d_O_writeMergedRun_11 (by decide) (fun h11 => ?_) (fun h11 => ?_)
    · rw [if_pos h11] at hM
      refine lv_iconst (v := 0) hx hb d_O_writeMergedRun_55 (by decide) ?_
      refine lv_istore_n hx hb d_O_writeMergedRun_56 rfl hl (by decide) (lv' := [(1, .int 0), (0, .ref (ad 0 0))]) rfl (fun ls hl => ?_)
      exact K57 N _ _ _ _ ⟨σ, 0, rfl, hM, lv_sub hl [1, 0] rfl, hP, hD, hS⟩
    · rw [if_neg h11] at hM
      refine lv_aload_n hx hb d_O_writeMergedRun_14 rfl (lv_at hl 0 rfl) ?_
      refine lv_iload_n hx hb d_O_writeMergedRun_15 rfl (lv_at hl 1 rfl) ?_
      obtain ⟨x16, y16, hq16, hM⟩ := bR_some hM
      refine va_callr (va_runV (As := [.int v1]) (rest := []) ⟨hx, hb, hml, hown, hts⟩ (c_O_tapeInRole l dC dI ad cs _ N σ v1 hq16) (cwV 1 hts (goodV k_305 k_307 ks_O_tapeInRole k_1 k_308) rfl rfl rfl ⟨rfl, by decide, by decide, by decide +kernel⟩ ⟨Nat.le_of_ble_eq_true rfl, Nat.le_of_ble_eq_true rfl⟩) ⟨blindX, va_recv hK hP rfl (g_O), payX hP hK hD hN⟩ rfl rfl hl.1 rfl (lv_room (Nat.le_of_ble_eq_true rfl)) d_O_writeMergedRun_16 ⟨Nat.zero_le _, Nat.zero_le _⟩) hS (fun q h0 h => absurd h0 (Nat.not_lt.mpr h)) (fun q h => hA q (Nat.le_trans hS.1 h)) (fun u ra t H locs ht hvm hpost hB hz1 hk1 hS => ?_)
      subst hpost
      obtain ⟨rfl, hx16⟩ := hB
      have hP := keepP hP hk1
      refine lv_astore_n hx hb d_O_writeMergedRun_19 rfl hl (by decide) (lv' := [(2, .ref (ad (7 + x16) 0)), (0, .ref (ad 0 0)), (1, .int v1)]) rfl (fun ls hl => ?_)
      refine lv_aload_n hx hb d_O_writeMergedRun_20 rfl (lv_at hl 1 rfl) ?_
      refine va_get (D := (dC, dI)) (ci := 0) (v := .ref (ad 0 2)) (C := R_O) (T := F_O) (N := 12) hx hb htb in_O hown hK hP 0 (g_O) rfl 8 (by decide) (htb _ k_156) (fun _ h9 => h9) rfl d_O_writeMergedRun_21 ?_
      refine lv_iload_n hx hb d_O_writeMergedRun_24 rfl (lv_at hl 2 rfl) ?_
      refine lv_iconst (v := 0) hx hb d_O_writeMergedRun_25 (by decide) ?_
      have hg26 := gd_c hM
      have hM := gd_v hM
      refine va_iast (i := v1) (x := 0) hx hb hK hP hD hS 32 0 (g_O_a2) rfl (inb_in hg26) d_O_writeMergedRun_26 (fun H locs hP hD hS => ?_)
      have hP := P_eq (t_O_2) hP
      have hD := D_eq (t_O_2) hD
      refine lv_aload_n hx hb d_O_writeMergedRun_27 rfl (lv_at hl 1 rfl) ?_
      refine va_get (D := (dC, dI)) (ci := 0) (v := .ref (ad 0 3)) (C := R_O) (T := F_O) (N := 12) hx hb htb in_O hown hK hP 0 (g_O) rfl 9 (by decide) (htb _ k_157) (fun _ h9 => h9) rfl d_O_writeMergedRun_28 ?_
      refine lv_iload_n hx hb d_O_writeMergedRun_31 rfl (lv_at hl 2 rfl) ?_
      refine lv_aload_n hx hb d_O_writeMergedRun_32 rfl (lv_at hl 0 rfl) ?_
      obtain ⟨x33, y33, hq33, hM⟩ := bI_some hM
      refine va_calli (va_runV (As := []) (rest := [.int v1, .ref (ad 0 3)]) ⟨hx, hb, hml, hown, hts⟩ (c_T_hasDummy l dC dI ad cs _ N (w3 σ 0 2 v1 0) x16 hx16 hq33) (cwV 0 hts (goodV k_558 k_559 k_560 k_7 k_561) rfl rfl rfl ⟨rfl, by decide, by decide, by decide +kernel⟩ ⟨Nat.le_of_ble_eq_true rfl, Nat.le_of_ble_eq_true rfl⟩) ⟨blindX, va_recv hK hP rfl (g_T hx16), payX hP hK hD hN⟩ rfl rfl hl.1 rfl (lv_room (Nat.le_of_ble_eq_true rfl)) d_O_writeMergedRun_33 ⟨Nat.zero_le _, Nat.zero_le _⟩) hS (fun q h0 h => absurd h0 (Nat.not_lt.mpr h)) (fun q h => hA q (Nat.le_trans hS.1 h)) (fun r33 u t H locs ht hvm hpost hB hz1 hk1 hS => ?_)
      obtain ⟨e1, e2⟩ := hpost
      subst e1
      subst e2
      have hP := keepP hP hk1
      refine lv_if_eq (tgt := 43) hx hb d_O_writeMergedRun_36 (by decide) (fun h36 => ?_) (fun h36 => ?_)
      · rw [if_pos h36] at hM
        refine lv_aload_n hx hb d_O_writeMergedRun_43 rfl (lv_at hl 0 rfl) ?_
        refine lv_iconst (v := 0) hx hb d_O_writeMergedRun_44 (by decide) ?_
        obtain ⟨x45, y45, hq45, hM⟩ := bI_some hM
        refine va_calli (va_runV (As := [.int 0]) (rest := [.int v1, .ref (ad 0 3)]) ⟨hx, hb, hml, hown, hts⟩ (c_T_runLength l dC dI ad cs _ N (w3 σ 0 2 v1 0) x16 hx16 0 hq45) (cwV 1 hts (goodV k_268 k_269 k_270 k_7 k_271) rfl rfl rfl ⟨rfl, by decide, by decide, by decide +kernel⟩ ⟨Nat.le_of_ble_eq_true rfl, Nat.le_of_ble_eq_true rfl⟩) ⟨blindX, va_recv hK hP rfl (g_T hx16), payX hP hK hD hN⟩ rfl rfl hl.1 rfl (lv_room (Nat.le_of_ble_eq_true rfl)) d_O_writeMergedRun_45 ⟨Nat.zero_le _, Nat.zero_le _⟩) hS (fun q h0 h => absurd h0 (Nat.not_lt.mpr h)) (fun q h => hA q (Nat.le_trans hS.1 h)) (fun r45 u t H locs ht hvm hpost hB hz1 hk1 hS => ?_)
        obtain ⟨e1, e2⟩ := hpost
        subst e1
        subst e2
        have hP := keepP hP hk1
        have hg48 := gd_c hM
        have hM := gd_v hM
        refine va_iast (i := v1) (x := r45) hx hb hK hP hD hS 33 0 (g_O_a3) rfl (inb_in hg48) d_O_writeMergedRun_48 (fun H locs hP hD hS => ?_)
        have hP := P_eq (t_O_3) hP
        have hD := D_eq (t_O_3) hD
        refine lv_iinc (k := 2) (v := (v1 + 1)) hx hb d_O_writeMergedRun_49 hl rfl rfl (by decide) (lv' := [(1, .int (v1 + 1)), (2, .ref (ad (7 + x16) 0)), (0, .ref (ad 0 0))]) rfl (fun ls hl => ?_)
        refine lv_goto (tgt := 9) hx hb d_O_writeMergedRun_52 (by decide) ?_
        exact K9 _ _ _ _ ⟨(w3 (w3 σ 0 2 v1 0) 0 3 v1 r45), (v1 + 1), rfl, hM, lv_sub hl [2, 0] rfl, hP, hD, hS⟩
      · rw [if_neg h36] at hM
        refine lv_iconst (v := 0) hx hb d_O_writeMergedRun_39 (by decide) ?_
        refine lv_goto (tgt := 48) hx hb d_O_writeMergedRun_40 (by decide) ?_
        have hg48 := gd_c hM
        have hM := gd_v hM
        refine va_iast (i := v1) (x := 0) hx hb hK hP hD hS 33 0 (g_O_a3) rfl (inb_in hg48) d_O_writeMergedRun_48 (fun H locs hP hD hS => ?_)
        have hP := P_eq (t_O_3) hP
        have hD := D_eq (t_O_3) hD
        refine lv_iinc (k := 2) (v := (v1 + 1)) hx hb d_O_writeMergedRun_49 hl rfl rfl (by decide) (lv' := [(1, .int (v1 + 1)), (2, .ref (ad (7 + x16) 0)), (0, .ref (ad 0 0))]) rfl (fun ls hl => ?_)
        refine lv_goto (tgt := 9) hx hb d_O_writeMergedRun_52 (by decide) ?_
        exact K9 _ _ _ _ ⟨(w3 (w3 σ 0 2 v1 0) 0 3 v1 0), (v1 + 1), rfl, hM, lv_sub hl [2, 0] rfl, hP, hD, hS⟩
  intro K9
  refine lv_aload_n hx hb d_O_writeMergedRun_0 rfl (lv_at hl 0 rfl) ?_
  refine va_get (D := (dC, dI)) (ci := 0) (v := .ref (ad 6 0)) (C := R_O) (T := F_O) (N := 12) hx hb htb in_O hown hK hP 0 (g_O) rfl 5 (by decide) (htb _ k_153) (fun _ h9 => h9) rfl d_O_writeMergedRun_1 ?_
  have hF1 := free_all hD hS hA
  obtain ⟨y4, hq4, hM⟩ := bV_some hM
  refine va_callv (va_runV (As := []) (rest := []) ⟨hx, hb, hml, hown, hts⟩ (c_R_forgetAll l dC dI ad cs _ N σ hq4) (cwV 0 hts (goodV k_499 k_500 k_501 k_5 k_502) rfl rfl rfl ⟨rfl, by decide, by decide, by decide +kernel⟩ ⟨Nat.le_of_ble_eq_true rfl, Nat.le_of_ble_eq_true rfl⟩) ⟨blindX, va_recv hK hP rfl (g_R), payX hP hK hD hN⟩ rfl rfl hl.1 rfl (lv_room (Nat.le_of_ble_eq_true rfl)) d_O_writeMergedRun_4 ⟨Nat.zero_le _, Nat.zero_le _⟩) hS (fun q _ h => hF1 q h) hF1 (fun σ4 t H locs ht hvm hpost hB hz1 hk1 hS => ?_)
  subst hpost
  obtain ⟨hP1, hK1, hD1⟩ := hB
  rw [ht] at hP1
  have hP := hP1
  have hD := hD1.weaken (fun _ _ _ h => hF1 _ h)
  refine lv_iconst (v := 0) hx hb d_O_writeMergedRun_7 (by decide) ?_
  refine lv_istore_n hx hb d_O_writeMergedRun_8 rfl hl (by decide) (lv' := [(1, .int 0), (0, .ref (ad 0 0))]) rfl (fun ls hl => ?_)
  exact K9 N _ _ _ _ ⟨σ4, 0, rfl, hM, lv_sub hl [1, 0] rfl, hP, hD, hS⟩

theorem d_O_mergeRuns_0 : decode b_O_mergeRuns 0 = .ok (.aload_n 0, 1) := by decide +kernel
theorem d_O_mergeRuns_1 : decode b_O_mergeRuns 1 = .ok (.invokevirtual 214, 3) := by decide +kernel
theorem d_O_mergeRuns_4 : decode b_O_mergeRuns 4 = .ok (.ifCond .eq 15, 3) := by decide +kernel
theorem d_O_mergeRuns_7 : decode b_O_mergeRuns 7 = .ok (.aload_n 0, 1) := by decide +kernel
theorem d_O_mergeRuns_8 : decode b_O_mergeRuns 8 = .ok (.iconst 3, 1) := by decide +kernel
theorem d_O_mergeRuns_9 : decode b_O_mergeRuns 9 = .ok (.invokevirtual 161, 3) := by decide +kernel
theorem d_O_mergeRuns_12 : decode b_O_mergeRuns 12 = .ok (.iconst 1, 1) := by decide +kernel
theorem d_O_mergeRuns_13 : decode b_O_mergeRuns 13 = .ok (.invokevirtual 189, 3) := by decide +kernel
theorem d_O_mergeRuns_16 : decode b_O_mergeRuns 16 = .ok (.goto 31, 3) := by decide +kernel
theorem d_O_mergeRuns_19 : decode b_O_mergeRuns 19 = .ok (.aload_n 0, 1) := by decide +kernel
theorem d_O_mergeRuns_20 : decode b_O_mergeRuns 20 = .ok (.invokevirtual 217, 3) := by decide +kernel
theorem d_O_mergeRuns_23 : decode b_O_mergeRuns 23 = .ok (.ifCond .eq 10, 3) := by decide +kernel
theorem d_O_mergeRuns_26 : decode b_O_mergeRuns 26 = .ok (.aload_n 0, 1) := by decide +kernel
theorem d_O_mergeRuns_27 : decode b_O_mergeRuns 27 = .ok (.invokevirtual 220, 3) := by decide +kernel
theorem d_O_mergeRuns_30 : decode b_O_mergeRuns 30 = .ok (.ifCond .ne 5, 3) := by decide +kernel
theorem d_O_mergeRuns_33 : decode b_O_mergeRuns 33 = .ok (.iconst 0, 1) := by decide +kernel
theorem d_O_mergeRuns_34 : decode b_O_mergeRuns 34 = .ok (.ireturn, 1) := by decide +kernel
theorem d_O_mergeRuns_35 : decode b_O_mergeRuns 35 = .ok (.aload_n 0, 1) := by decide +kernel
theorem d_O_mergeRuns_36 : decode b_O_mergeRuns 36 = .ok (.iconst 3, 1) := by decide +kernel
theorem d_O_mergeRuns_37 : decode b_O_mergeRuns 37 = .ok (.invokevirtual 161, 3) := by decide +kernel
theorem d_O_mergeRuns_40 : decode b_O_mergeRuns 40 = .ok (.aload_n 0, 1) := by decide +kernel
theorem d_O_mergeRuns_41 : decode b_O_mergeRuns 41 = .ok (.getfield 33, 3) := by decide +kernel
theorem d_O_mergeRuns_44 : decode b_O_mergeRuns 44 = .ok (.invokevirtual 192, 3) := by decide +kernel
theorem d_O_mergeRuns_47 : decode b_O_mergeRuns 47 = .ok (.aload_n 0, 1) := by decide +kernel
theorem d_O_mergeRuns_48 : decode b_O_mergeRuns 48 = .ok (.invokevirtual 223, 3) := by decide +kernel
theorem d_O_mergeRuns_51 : decode b_O_mergeRuns 51 = .ok (.aload_n 0, 1) := by decide +kernel
theorem d_O_mergeRuns_52 : decode b_O_mergeRuns 52 = .ok (.iconst 2, 1) := by decide +kernel
theorem d_O_mergeRuns_53 : decode b_O_mergeRuns 53 = .ok (.invokevirtual 161, 3) := by decide +kernel
theorem d_O_mergeRuns_56 : decode b_O_mergeRuns 56 = .ok (.invokevirtual 226, 3) := by decide +kernel
theorem d_O_mergeRuns_59 : decode b_O_mergeRuns 59 = .ok (.ifCond .eq 7, 3) := by decide +kernel
theorem d_O_mergeRuns_62 : decode b_O_mergeRuns 62 = .ok (.aload_n 0, 1) := by decide +kernel
theorem d_O_mergeRuns_63 : decode b_O_mergeRuns 63 = .ok (.invokevirtual 229, 3) := by decide +kernel
theorem d_O_mergeRuns_66 : decode b_O_mergeRuns 66 = .ok (.iconst 1, 1) := by decide +kernel
theorem d_O_mergeRuns_67 : decode b_O_mergeRuns 67 = .ok (.ireturn, 1) := by decide +kernel
def m_O_mergeRuns_47 (N : Nat) (σ : SX) : Option (Int32 × SX) :=
    (bV (m_O_takeFromSources N σ) fun σ48 => (bR (m_O_tapeInRole N σ48 2) fun x53 σ53 => (bI (m_T_isBare N σ48 x53) fun r56 σ56 => (if r56 = 0 then some (1, σ48) else (bV (m_O_endLevel N σ48) fun σ63 => some (1, σ63))))))

def m_O_mergeRuns (N : Nat) (σ : SX) : Option (Int32 × SX) :=
  (bI (m_O_everySourceHasDummy N σ) fun r1 σ1 => (if r1 = 0 then (bI (m_O_sourcesCanBeRead N σ) fun r20 σ20 => (if r20 = 0 then some (0, σ20) else (bI (m_O_writeMergedRun N σ20) fun r27 σ27 => (if r27 = 0 then some (0, σ27) else (bR (m_O_tapeInRole N σ27 3) fun x37 σ37 => (bV (m_T_append N σ27 x37) fun σ44 => m_O_mergeRuns_47 N σ44)))))) else (bR (m_O_tapeInRole N σ 3) fun x9 σ9 => (bV (m_T_addDummies N σ x9 1) fun σ13 => m_O_mergeRuns_47 N σ13))))

set_option maxHeartbeats 4000000 in
set_option maxRecDepth 100000 in
theorem c_O_mergeRuns (l : Launch) (dC : Nat → ClassId) (dI : Nat → Nat → Nat) (ad : Nat → Nat → Nat) (cs : Nat → ClassId) (sz N : Nat) (σ : SX) {r0 : Int32} {σ0 : SX} (hM : m_O_mergeRuns N σ = some (r0, σ0)) : Met l y_O_mergeRuns (wd y_O_mergeRuns b_O_mergeRuns 1 (some .boolean)) ({ frames := 5, cells := 0, slots := 0, locals := 114 }) (va_Pc [.ref (ad 0 0)] (preX dC dI ad cs sz σ)) (va_Qi (fun (r : Int32) (u : SX) => r = r0 ∧ u = σ0) (atX dC dI ad cs (va_A (wX ad cs σ) sz)) (va_A (wX ad cs σ) sz)) 0 0 (va_A (wX ad cs σ) sz) := by
  refine Met.ofW (cc := b_O_mergeRuns) (maxL := 1) (ret := (some .boolean)) (by decide) rfl ?_
  intro p e s m args below meth c s₁ B hml hv
  obtain ⟨rfl, hsz, hP, hK, hD0, hN⟩ := hv
  have hx := B.exec
  have hb := B.bytes
  have hr := B.returns
  have hts := atoms_spec (ws := (wd y_O_mergeRuns b_O_mergeRuns 1 (some .boolean))) B.pre
  have htb : ∀ w ∈ tb, w.before _ s = true := fun w h => hts w (List.mem_cons_of_mem _ h)
  have hown : s.vm.findClass R_O = some m.cls := findClass_of_methodNamed B.named
  have hlocks := B.notSynchronized
  subst hsz
  have hD := hD0.self (sz := s.heap.size)
  generalize hAe : va_A (wX ad cs σ) s.heap.size = A at hD ⊢
  have hA : ∀ q : Nat, s.heap.size ≤ q → A q := fun q h => by rw [← hAe]; exact Or.inr h
  have hS : va_S A s.heap s.heap [] := va_S.rf
  have hP : va_P (dC, dI) classes (wX ad cs σ) s.heap := hP
  have hl := lv_entry ([.ref (ad 0 0)]) (n := 1) (Nat.le_of_ble_eq_true rfl)
  rw [lg_entry_eq]
  generalize (lg_sl ([.ref (ad 0 0)]) ++ List.replicate (1 - (lg_sl ([.ref (ad 0 0)])).length) Slot.unset).toArray = ls at hl ⊢
  have hl : lv_has ls 1 [(0, .ref (ad 0 0))] := hl
  rw [m_O_mergeRuns] at hM
  refine W_cut (pc := 47) (fun H locs ls st => ∃ (σ : SX), st = [] ∧ m_O_mergeRuns_47 N σ = some (r0, σ0) ∧ lv_has ls 1 [(0, .ref (ad 0 0))] ∧ va_P (dC, dI) classes (wX ad cs σ) H ∧ va_D A (wX ad cs σ) ∧ va_S A s.heap H locs) ?_ ?_
  · intro H locs ls st hI
    obtain ⟨σ, rfl, hM, hl, hP, hD, hS⟩ := hI
    rw [m_O_mergeRuns_47] at hM
    refine lv_aload_n hx hb d_O_mergeRuns_47 rfl (lv_at hl 0 rfl) ?_
    have hF1 := free_all hD hS hA
    obtain ⟨y48, hq48, hM⟩ := bV_some hM
    refine va_callv (va_runV (As := []) (rest := []) ⟨hx, hb, hml, hown, hts⟩ (c_O_takeFromSources l dC dI ad cs _ N σ hq48) (cwV 0 hts (goodV k_582 k_584 ks_O_takeFromSources k_1 k_585) rfl rfl rfl ⟨rfl, by decide, by decide, by decide +kernel⟩ ⟨Nat.le_of_ble_eq_true rfl, Nat.le_of_ble_eq_true rfl⟩) ⟨blindX, va_recv hK hP rfl (g_O), payX hP hK hD hN⟩ rfl rfl hl.1 rfl (lv_room (Nat.le_of_ble_eq_true rfl)) d_O_mergeRuns_48 ⟨Nat.zero_le _, Nat.zero_le _⟩) hS (fun q _ h => hF1 q h) hF1 (fun σ48 t H locs ht hvm hpost hB hz1 hk1 hS => ?_)
    subst hpost
    obtain ⟨hP1, hK1, hD1⟩ := hB
    rw [ht] at hP1
    have hP := hP1
    have hD := hD1.weaken (fun _ _ _ h => hF1 _ h)
    refine lv_aload_n hx hb d_O_mergeRuns_51 rfl (lv_at hl 0 rfl) ?_
    refine lv_iconst (v := 2) hx hb d_O_mergeRuns_52 (by decide) ?_
    obtain ⟨x53, y53, hq53, hM⟩ := bR_some hM
    refine va_callr (va_runV (As := [.int 2]) (rest := []) ⟨hx, hb, hml, hown, hts⟩ (c_O_tapeInRole l dC dI ad cs _ N σ48 2 hq53) (cwV 1 hts (goodV k_305 k_307 ks_O_tapeInRole k_1 k_308) rfl rfl rfl ⟨rfl, by decide, by decide, by decide +kernel⟩ ⟨Nat.le_of_ble_eq_true rfl, Nat.le_of_ble_eq_true rfl⟩) ⟨blindX, va_recv hK hP rfl (g_O), payX hP hK hD hN⟩ rfl rfl hl.1 rfl (lv_room (Nat.le_of_ble_eq_true rfl)) d_O_mergeRuns_53 ⟨Nat.zero_le _, Nat.zero_le _⟩) hS (fun q h0 h => absurd h0 (Nat.not_lt.mpr h)) (fun q h => hA q (Nat.le_trans hS.1 h)) (fun u ra t H locs ht hvm hpost hB hz1 hk1 hS => ?_)
    subst hpost
    obtain ⟨rfl, hx53⟩ := hB
    have hP := keepP hP hk1
    obtain ⟨x56, y56, hq56, hM⟩ := bI_some hM
    refine va_calli (va_runV (As := []) (rest := []) ⟨hx, hb, hml, hown, hts⟩ (c_T_isBare l dC dI ad cs _ N σ48 x53 hx53 hq56) (cwV 0 hts (goodV k_590 k_591 k_592 k_7 k_593) rfl rfl rfl ⟨rfl, by decide, by decide, by decide +kernel⟩ ⟨Nat.le_of_ble_eq_true rfl, Nat.le_of_ble_eq_true rfl⟩) ⟨blindX, va_recv hK hP rfl (g_T hx53), payX hP hK hD hN⟩ rfl rfl hl.1 rfl (lv_room (Nat.le_of_ble_eq_true rfl)) d_O_mergeRuns_56 ⟨Nat.zero_le _, Nat.zero_le _⟩) hS (fun q h0 h => absurd h0 (Nat.not_lt.mpr h)) (fun q h => hA q (Nat.le_trans hS.1 h)) (fun r56 u t H locs ht hvm hpost hB hz1 hk1 hS => ?_)
    obtain ⟨e1, e2⟩ := hpost
    subst e1
    subst e2
    have hP := keepP hP hk1
    refine lv_if_eq (tgt := 66) hx hb d_O_mergeRuns_59 (by decide) (fun h59 => ?_) (fun h59 => ?_)
    · rw [if_pos h59] at hM
      refine lv_iconst (v := 1) hx hb d_O_mergeRuns_66 (by decide) ?_
      have e9 := Prod.mk.inj (Option.some.inj hM)
      exact W.zret (ty := .boolean) (v := 1) hx hb hr rfl (fun t ht hW => ⟨⟨1, σ48, rfl, e9, by rw [ht]; exact hP, va_K.moved hW.alike hK, hD⟩, hS.F ht⟩) hS.2.2 d_O_mergeRuns_67
    · rw [if_neg h59] at hM
      refine lv_aload_n hx hb d_O_mergeRuns_62 rfl (lv_at hl 0 rfl) ?_
      have hF1 := free_all hD hS hA
      obtain ⟨y63, hq63, hM⟩ := bV_some hM
      refine va_callv (va_runV (As := []) (rest := []) ⟨hx, hb, hml, hown, hts⟩ (c_O_endLevel l dC dI ad cs _ N σ48 hq63) (cwV 0 hts (goodV k_594 k_596 ks_O_endLevel k_1 k_597) rfl rfl rfl ⟨rfl, by decide, by decide, by decide +kernel⟩ ⟨Nat.le_of_ble_eq_true rfl, Nat.le_of_ble_eq_true rfl⟩) ⟨blindX, va_recv hK hP rfl (g_O), payX hP hK hD hN⟩ rfl rfl hl.1 rfl (lv_room (Nat.le_of_ble_eq_true rfl)) d_O_mergeRuns_63 ⟨Nat.zero_le _, Nat.zero_le _⟩) hS (fun q _ h => hF1 q h) hF1 (fun σ63 t H locs ht hvm hpost hB hz1 hk1 hS => ?_)
      subst hpost
      obtain ⟨hP1, hK1, hD1⟩ := hB
      rw [ht] at hP1
      have hP := hP1
      have hD := hD1.weaken (fun _ _ _ h => hF1 _ h)
      refine lv_iconst (v := 1) hx hb d_O_mergeRuns_66 (by decide) ?_
      have e9 := Prod.mk.inj (Option.some.inj hM)
      exact W.zret (ty := .boolean) (v := 1) hx hb hr rfl (fun t ht hW => ⟨⟨1, σ63, rfl, e9, by rw [ht]; exact hP, va_K.moved hW.alike hK, hD⟩, hS.F ht⟩) hS.2.2 d_O_mergeRuns_67
  intro K47
  refine lv_aload_n hx hb d_O_mergeRuns_0 rfl (lv_at hl 0 rfl) ?_
  obtain ⟨x1, y1, hq1, hM⟩ := bI_some hM
  refine va_calli (va_runV (As := []) (rest := []) ⟨hx, hb, hml, hown, hts⟩ (c_O_everySourceHasDummy l dC dI ad cs _ N σ hq1) (cwV 0 hts (goodV k_554 k_556 ks_O_everySourceHasDummy k_1 k_557) rfl rfl rfl ⟨rfl, by decide, by decide, by decide +kernel⟩ ⟨Nat.le_of_ble_eq_true rfl, Nat.le_of_ble_eq_true rfl⟩) ⟨blindX, va_recv hK hP rfl (g_O), payX hP hK hD hN⟩ rfl rfl hl.1 rfl (lv_room (Nat.le_of_ble_eq_true rfl)) d_O_mergeRuns_1 ⟨Nat.zero_le _, Nat.zero_le _⟩) hS (fun q h0 h => absurd h0 (Nat.not_lt.mpr h)) (fun q h => hA q (Nat.le_trans hS.1 h)) (fun r1 u t H locs ht hvm hpost hB hz1 hk1 hS => ?_)
  obtain ⟨e1, e2⟩ := hpost
  subst e1
  subst e2
  have hP := keepP hP hk1
  refine lv_if_eq (tgt := 19) hx hb d_O_mergeRuns_4 (by decide) (fun h4 => ?_) (fun h4 => ?_)
  · rw [if_pos h4] at hM
    refine lv_aload_n hx hb d_O_mergeRuns_19 rfl (lv_at hl 0 rfl) ?_
    have hF1 := free_all hD hS hA
    obtain ⟨x20, y20, hq20, hM⟩ := bI_some hM
    refine va_calli (va_runV (As := []) (rest := []) ⟨hx, hb, hml, hown, hts⟩ (c_O_sourcesCanBeRead l dC dI ad cs _ N σ hq20) (cwV 0 hts (goodV k_562 k_564 ks_O_sourcesCanBeRead k_1 k_565) rfl rfl rfl ⟨rfl, by decide, by decide, by decide +kernel⟩ ⟨Nat.le_of_ble_eq_true rfl, Nat.le_of_ble_eq_true rfl⟩) ⟨blindX, va_recv hK hP rfl (g_O), payX hP hK hD hN⟩ rfl rfl hl.1 rfl (lv_room (Nat.le_of_ble_eq_true rfl)) d_O_mergeRuns_20 ⟨Nat.zero_le _, Nat.zero_le _⟩) hS (fun q _ h => hF1 q h) hF1 (fun r20 σ20 t H locs ht hvm hpost hB hz1 hk1 hS => ?_)
    obtain ⟨e1, e2⟩ := hpost
    subst e1
    subst e2
    obtain ⟨hP1, hK1, hD1⟩ := hB
    rw [ht] at hP1
    have hP := hP1
    have hD := hD1.weaken (fun _ _ _ h => hF1 _ h)
    refine lv_if_eq (tgt := 33) hx hb d_O_mergeRuns_23 (by decide) (fun h23 => ?_) (fun h23 => ?_)
    · rw [if_pos h23] at hM
      refine lv_iconst (v := 0) hx hb d_O_mergeRuns_33 (by decide) ?_
      have e9 := Prod.mk.inj (Option.some.inj hM)
      exact W.zret (ty := .boolean) (v := 0) hx hb hr rfl (fun t ht hW => ⟨⟨0, σ20, rfl, e9, by rw [ht]; exact hP, va_K.moved hW.alike hK, hD⟩, hS.F ht⟩) hS.2.2 d_O_mergeRuns_34
    · rw [if_neg h23] at hM
      refine lv_aload_n hx hb d_O_mergeRuns_26 rfl (lv_at hl 0 rfl) ?_
      have hF1 := free_all hD hS hA
      obtain ⟨x27, y27, hq27, hM⟩ := bI_some hM
      refine va_calli (va_runV (As := []) (rest := []) ⟨hx, hb, hml, hown, hts⟩ (c_O_writeMergedRun l dC dI ad cs _ N σ20 hq27) (cwV 0 hts (goodV k_570 k_572 ks_O_writeMergedRun k_1 k_573) rfl rfl rfl ⟨rfl, by decide, by decide, by decide +kernel⟩ ⟨Nat.le_of_ble_eq_true rfl, Nat.le_of_ble_eq_true rfl⟩) ⟨blindX, va_recv hK hP rfl (g_O), payX hP hK hD hN⟩ rfl rfl hl.1 rfl (lv_room (Nat.le_of_ble_eq_true rfl)) d_O_mergeRuns_27 ⟨Nat.zero_le _, Nat.zero_le _⟩) hS (fun q _ h => hF1 q h) hF1 (fun r27 σ27 t H locs ht hvm hpost hB hz1 hk1 hS => ?_)
      obtain ⟨e1, e2⟩ := hpost
      subst e1
      subst e2
      obtain ⟨hP1, hK1, hD1⟩ := hB
      rw [ht] at hP1
      have hP := hP1
      have hD := hD1.weaken (fun _ _ _ h => hF1 _ h)
      refine lv_if_ne (tgt := 35) hx hb d_O_mergeRuns_30 (by decide) (fun h30 => ?_) (fun h30 => ?_)
      · rw [if_neg h30] at hM
        refine lv_aload_n hx hb d_O_mergeRuns_35 rfl (lv_at hl 0 rfl) ?_
        refine lv_iconst (v := 3) hx hb d_O_mergeRuns_36 (by decide) ?_
        obtain ⟨x37, y37, hq37, hM⟩ := bR_some hM
        refine va_callr (va_runV (As := [.int 3]) (rest := []) ⟨hx, hb, hml, hown, hts⟩ (c_O_tapeInRole l dC dI ad cs _ N σ27 3 hq37) (cwV 1 hts (goodV k_305 k_307 ks_O_tapeInRole k_1 k_308) rfl rfl rfl ⟨rfl, by decide, by decide, by decide +kernel⟩ ⟨Nat.le_of_ble_eq_true rfl, Nat.le_of_ble_eq_true rfl⟩) ⟨blindX, va_recv hK hP rfl (g_O), payX hP hK hD hN⟩ rfl rfl hl.1 rfl (lv_room (Nat.le_of_ble_eq_true rfl)) d_O_mergeRuns_37 ⟨Nat.zero_le _, Nat.zero_le _⟩) hS (fun q h0 h => absurd h0 (Nat.not_lt.mpr h)) (fun q h => hA q (Nat.le_trans hS.1 h)) (fun u ra t H locs ht hvm hpost hB hz1 hk1 hS => ?_)
        subst hpost
        obtain ⟨rfl, hx37⟩ := hB
        have hP := keepP hP hk1
        refine lv_aload_n hx hb d_O_mergeRuns_40 rfl (lv_at hl 0 rfl) ?_
        refine va_get (D := (dC, dI)) (ci := 0) (v := .ref (ad 6 0)) (C := R_O) (T := F_O) (N := 12) hx hb htb in_O hown hK hP 0 (g_O) rfl 5 (by decide) (htb _ k_153) (fun _ h9 => h9) rfl d_O_mergeRuns_41 ?_
        have hF1 := free_all hD hS hA
        obtain ⟨y44, hq44, hM⟩ := bV_some hM
        refine va_callv (va_runV (As := [.ref (ad 6 0)]) (rest := []) ⟨hx, hb, hml, hown, hts⟩ (c_T_append l dC dI ad cs _ N σ27 x37 hx37 hq44) (cwV 1 hts (goodV k_543 k_544 k_545 k_7 k_546) rfl rfl rfl ⟨rfl, by decide, by decide, by decide +kernel⟩ ⟨Nat.le_of_ble_eq_true rfl, Nat.le_of_ble_eq_true rfl⟩) ⟨blindX, va_recv hK hP rfl (g_T hx37), payX hP hK hD hN⟩ rfl rfl hl.1 rfl (lv_room (Nat.le_of_ble_eq_true rfl)) d_O_mergeRuns_44 ⟨Nat.zero_le _, Nat.zero_le _⟩) hS (fun q _ h => hF1 q h) hF1 (fun σ44 t H locs ht hvm hpost hB hz1 hk1 hS => ?_)
        subst hpost
        obtain ⟨hP1, hK1, hD1⟩ := hB
        rw [ht] at hP1
        have hP := hP1
        have hD := hD1.weaken (fun _ _ _ h => hF1 _ h)
        exact K47 _ _ _ _ ⟨σ44, rfl, hM, lv_sub hl [0] rfl, hP, hD, hS⟩
      · rw [if_pos h30] at hM
        refine lv_iconst (v := 0) hx hb d_O_mergeRuns_33 (by decide) ?_
        have e9 := Prod.mk.inj (Option.some.inj hM)
        exact W.zret (ty := .boolean) (v := 0) hx hb hr rfl (fun t ht hW => ⟨⟨0, σ27, rfl, e9, by rw [ht]; exact hP, va_K.moved hW.alike hK, hD⟩, hS.F ht⟩) hS.2.2 d_O_mergeRuns_34
  · rw [if_neg h4] at hM
    refine lv_aload_n hx hb d_O_mergeRuns_7 rfl (lv_at hl 0 rfl) ?_
    refine lv_iconst (v := 3) hx hb d_O_mergeRuns_8 (by decide) ?_
    obtain ⟨x9, y9, hq9, hM⟩ := bR_some hM
    refine va_callr (va_runV (As := [.int 3]) (rest := []) ⟨hx, hb, hml, hown, hts⟩ (c_O_tapeInRole l dC dI ad cs _ N σ 3 hq9) (cwV 1 hts (goodV k_305 k_307 ks_O_tapeInRole k_1 k_308) rfl rfl rfl ⟨rfl, by decide, by decide, by decide +kernel⟩ ⟨Nat.le_of_ble_eq_true rfl, Nat.le_of_ble_eq_true rfl⟩) ⟨blindX, va_recv hK hP rfl (g_O), payX hP hK hD hN⟩ rfl rfl hl.1 rfl (lv_room (Nat.le_of_ble_eq_true rfl)) d_O_mergeRuns_9 ⟨Nat.zero_le _, Nat.zero_le _⟩) hS (fun q h0 h => absurd h0 (Nat.not_lt.mpr h)) (fun q h => hA q (Nat.le_trans hS.1 h)) (fun u ra t H locs ht hvm hpost hB hz1 hk1 hS => ?_)
    subst hpost
    obtain ⟨rfl, hx9⟩ := hB
    have hP := keepP hP hk1
    refine lv_iconst (v := 1) hx hb d_O_mergeRuns_12 (by decide) ?_
    have hF1 := free_all hD hS hA
    obtain ⟨y13, hq13, hM⟩ := bV_some hM
    refine va_callv (va_runV (As := [.int 1]) (rest := []) ⟨hx, hb, hml, hown, hts⟩ (c_T_addDummies l dC dI ad cs _ N σ x9 hx9 1 hq13) (cwV 1 hts (goodV k_542 k_465 k_466 k_7 k_467) rfl rfl rfl ⟨rfl, by decide, by decide, by decide +kernel⟩ ⟨Nat.le_of_ble_eq_true rfl, Nat.le_of_ble_eq_true rfl⟩) ⟨blindX, va_recv hK hP rfl (g_T hx9), payX hP hK hD hN⟩ rfl rfl hl.1 rfl (lv_room (Nat.le_of_ble_eq_true rfl)) d_O_mergeRuns_13 ⟨Nat.zero_le _, Nat.zero_le _⟩) hS (fun q _ h => hF1 q h) hF1 (fun σ13 t H locs ht hvm hpost hB hz1 hk1 hS => ?_)
    subst hpost
    obtain ⟨hP1, hK1, hD1⟩ := hB
    rw [ht] at hP1
    have hP := hP1
    have hD := hD1.weaken (fun _ _ _ h => hF1 _ h)
    refine lv_goto (tgt := 47) hx hb d_O_mergeRuns_16 (by decide) ?_
    exact K47 _ _ _ _ ⟨σ13, rfl, hM, lv_sub hl [0] rfl, hP, hD, hS⟩

theorem d_M_thrown_0 : decode b_M_thrown 0 = .ok (.aload_n 0, 1) := by decide +kernel
theorem d_M_thrown_1 : decode b_M_thrown 1 = .ok (.getfield 70, 3) := by decide +kernel
theorem d_M_thrown_4 : decode b_M_thrown 4 = .ok (.ireturn, 1) := by decide +kernel
def m_M_thrown (N : Nat) (σ : SX) : Option (Int32 × SX) :=
  some (((σ 0).1 0), σ)

set_option maxHeartbeats 4000000 in
set_option maxRecDepth 100000 in
theorem c_M_thrown (l : Launch) (dC : Nat → ClassId) (dI : Nat → Nat → Nat) (ad : Nat → Nat → Nat) (cs : Nat → ClassId) (sz N : Nat) (σ : SX) {r0 : Int32} {σ0 : SX} (hM : m_M_thrown N σ = some (r0, σ0)) : Met l y_M_thrown (wd y_M_thrown b_M_thrown 1 (some .int)) ({ frames := 0, cells := 0, slots := 0, locals := 0 }) (va_Pc [.ref (ad 0 0)] (preM dC dI ad cs sz σ)) (va_Qi (fun (r : Int32) (_ : Unit) => r = r0 ∧ σ = σ0) (fun _ _ => True) (fun q => sz ≤ q)) 0 0 (fun q => sz ≤ q) := by
  refine Met.ofW (cc := b_M_thrown) (maxL := 1) (ret := (some .int)) (by decide) rfl ?_
  intro p e s m args below meth c s₁ B hml hv
  obtain ⟨rfl, hsz, hP, hK, hD0, hN⟩ := hv
  have hx := B.exec
  have hb := B.bytes
  have hr := B.returns
  have hts := atoms_spec (ws := (wd y_M_thrown b_M_thrown 1 (some .int))) B.pre
  have htb : ∀ w ∈ tb, w.before _ s = true := fun w h => hts w (List.mem_cons_of_mem _ h)
  have hown : s.vm.findClass R_M = some m.cls := findClass_of_methodNamed B.named
  have hlocks := B.notSynchronized
  subst hsz
  have hD := hD0
  have hA : ∀ q : Nat, s.heap.size ≤ q → s.heap.size ≤ q := fun q h => h
  have hS : va_S (fun q => s.heap.size ≤ q) s.heap s.heap [] := va_S.rf
  have hP : va_P (dC, dI) classes (wM ad cs σ) s.heap := hP
  have hl := lv_entry ([.ref (ad 0 0)]) (n := 1) (Nat.le_of_ble_eq_true rfl)
  rw [lg_entry_eq]
  generalize (lg_sl ([.ref (ad 0 0)]) ++ List.replicate (1 - (lg_sl ([.ref (ad 0 0)])).length) Slot.unset).toArray = ls at hl ⊢
  have hl : lv_has ls 1 [(0, .ref (ad 0 0))] := hl
  rw [m_M_thrown] at hM
  refine lv_aload_n hx hb d_M_thrown_0 rfl (lv_at hl 0 rfl) ?_
  refine va_get (D := (dC, dI)) (ci := 7) (v := .int ((σ 0).1 0)) (C := R_M) (T := F_M) (N := 33) hx hb htb in_M hown hK hP 0 (g_M) rfl 0 (by decide) (htb _ k_619) (fun _ h9 => h9) rfl d_M_thrown_1 ?_
  have e9 := Prod.mk.inj (Option.some.inj hM)
  exact W.iret (v := ((σ 0).1 0)) hx hb hr (fun t ht hW => ⟨⟨((σ 0).1 0), (), rfl, e9, trivial⟩, hS.F ht⟩) hS.2.2 d_M_thrown_4
