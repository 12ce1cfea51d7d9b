theorem d_L_card_0 : decode b_L_card 0 = .ok (.aload_n 3, 1) := by decide +kernel
theorem d_L_card_1 : decode b_L_card 1 = .ok (.iconst 0, 1) := by decide +kernel
theorem d_L_card_2 : decode b_L_card 2 = .ok (.aload_n 0, 1) := by decide +kernel
theorem d_L_card_3 : decode b_L_card 3 = .ok (.iload_n 1, 1) := by decide +kernel
theorem d_L_card_4 : decode b_L_card 4 = .ok (.iload_n 2, 1) := by decide +kernel
theorem d_L_card_5 : decode b_L_card 5 = .ok (.invokevirtual 7, 3) := by decide +kernel
theorem d_L_card_8 : decode b_L_card 8 = .ok (.i2l, 1) := by decide +kernel
theorem d_L_card_9 : decode b_L_card 9 = .ok (.lastore, 1) := by decide +kernel
theorem d_L_card_10 : decode b_L_card 10 = .ok (.goto 7, 3) := by decide +kernel
theorem d_L_card_13 : decode b_L_card 13 = .ok (.astore 4, 2) := by decide +kernel
theorem d_L_card_15 : decode b_L_card 15 = .ok (.iconst 1, 1) := by decide +kernel
theorem d_L_card_16 : decode b_L_card 16 = .ok (.ireturn, 1) := by decide +kernel
theorem d_L_card_17 : decode b_L_card 17 = .ok (.iconst 0, 1) := by decide +kernel
theorem d_L_card_18 : decode b_L_card 18 = .ok (.ireturn, 1) := by decide +kernel
def m_L_card (N : Nat) (σ : SX) (f : Nat → Int64) (a1 : Int32) (a2 : Int32) : Option (Int32 × SX × (Nat → Int64)) := match m_O_card N σ a1 a2 with
  | some q => some (0, q.2, vp_updL f (0 : Int32).toNatClampNeg q.1.toInt64)
  | none => match xm_O_card N σ a1 a2 with
    | none => none
    | some k => if k = 0 then some (1, σ, f) else none

set_option maxHeartbeats 4000000 in
set_option maxRecDepth 100000 in
theorem c_L_card (l : Launch) (htr : l.stackTraces = false) (dC : Nat → ClassId) (dI : Nat → Nat → Nat) (ad : Nat → Nat → Nat) (cs : Nat → ClassId) (cL : ClassId) (qo sz N : Nat) (σ : SX) (f : Nat → Int64) (a1 : Int32) (a2 : Int32) {r0 : Int32} {σ0 : SX} {f0 : Nat → Int64} (hM : m_L_card N σ f a1 a2 = some (r0, σ0, f0)) : Met l y_L_card (wdW y_L_card b_L_card 5 (some .int) [(0, 10, 13, 13)]) ({ frames := 7, cells := 1, slots := 6, locals := 122 }) (va_Pc [.ref (ad 0 0), .int a1, .int a2, .ref qo] (preL dC dI ad cs cL qo sz σ f)) (va_Qi (fun (r : Int32) (u : SX × (Nat → Int64)) => r = r0 ∧ u = (σ0, f0)) (fun u t => va_P (dC, dI) classes (wO ad cs u.1 qo cL u.2) t.heap) (va_A (wO ad cs σ qo cL f) sz)) 1 6 (va_A (wO ad cs σ qo cL f) sz) := by
  refine va_MetW (cc := b_L_card) (maxL := 5) (ret := some .int) (hh := [(0, 10, 13, 13)]) (by decide) rfl ?_
  intro p e s m args below meth c s₁ B hml hv
  obtain ⟨rfl, hsz, hP, hK, hKl, hD0, hN, hZ⟩ := hv
  have hx := B.exec
  have hb := B.bytes
  have hr := B.returns
  have hts := atoms_spec (ws := (wdW y_L_card b_L_card 5 (some .int) [(0, 10, 13, 13)])) B.pre
  have htb : ∀ w ∈ tb, w.before _ s = true := fun w h => hts w (List.mem_cons_of_mem _ h)
  have hown : s.vm.findClass R_L = some m.cls := findClass_of_methodNamed B.named
  have hlocks := B.notSynchronized
  subst hsz
  have hD := hD0.self (sz := s.heap.size)
  generalize hAe : va_A (wO ad cs σ qo cL f) s.heap.size = A at hD ⊢
  have hA : ∀ q : Nat, s.heap.size ≤ q → A q := fun q h => by rw [← hAe]; exact Or.inr h
  have hS : va_S A s.heap s.heap [] := va_S.rf
  have htab : c.exceptionTable.toList.map (fun h => (h.startPc, h.endPc, h.handlerPc, h.catchType)) = [(0, 10, 13, 13)] := by
    obtain ⟨m9, meth9, c9, hn9, hm9, hc9, -, -, ht9, -⟩ := Cond.codeWith_spec (hts _ List.mem_cons_self)
    cases B.named.symm.trans hn9
    cases B.method.symm.trans hm9
    cases (Stand.of_body B).code.symm.trans hc9
    exact ht9
  have hl := lv_entry ([.ref (ad 0 0), .int a1, .int a2, .ref qo]) (n := 5) (Nat.le_of_ble_eq_true rfl)
  rw [lg_entry_eq]
  generalize (lg_sl ([.ref (ad 0 0), .int a1, .int a2, .ref qo]) ++ List.replicate (5 - (lg_sl ([.ref (ad 0 0), .int a1, .int a2, .ref qo])).length) Slot.unset).toArray = ls at hl ⊢
  have hl : lv_has ls 5 [(0, .ref (ad 0 0)), (1, .int a1), (2, .int a2), (3, .ref qo)] := hl
  refine lv_aload_n hx hb d_L_card_0 rfl (lv_at hl 3 rfl) ?_
  refine lv_iconst (v := 0) hx hb d_L_card_1 (by decide) ?_
  refine lv_aload_n hx hb d_L_card_2 rfl (lv_at hl 0 rfl) ?_
  refine lv_iload_n hx hb d_L_card_3 rfl (lv_at hl 1 rfl) ?_
  refine lv_iload_n hx hb d_L_card_4 rfl (lv_at hl 2 rfl) ?_
  cases hq : m_O_card N σ a1 a2 with
  | some q =>
    rw [m_L_card, hq] at hM
    have hF1 := free_all (D_left hD) hS hA
    obtain ⟨x1, y1⟩ := q
    refine va_calli (va_runV (As := [.int a1, .int a2]) (rest := [.int 0, .ref qo]) ⟨hx, hb, hml, hown, hts⟩ (c_O_card l dC dI ad cs _ N σ a1 a2 hq) (cwV 2 hts (goodVW k_345 k_346 k_347 k_1 k_348) rfl rfl rfl ⟨rfl, by decide, by decide, by decide +kernel⟩ ⟨Nat.le_of_ble_eq_true rfl, Nat.le_of_ble_eq_true rfl⟩) ⟨blindX, va_recv hK (P_left hP) rfl g_O, payX (P_left hP) hK (D_left hD) hN⟩ rfl rfl hl.1 rfl (lv_room (Nat.le_of_ble_eq_true rfl)) d_L_card_5 ⟨Nat.zero_le _, Nat.zero_le _⟩) hS (fun q _ h => hF1 q h) hF1 (fun r1 σ1 t H locs ht hvm hpost hB hz1 hk1 hS => ?_)
    obtain ⟨e1, e2⟩ := hpost
    subst e1
    subst e2
    obtain ⟨hP1, hK1, hD1⟩ := hB
    rw [ht] at hP1
    have hPo := fr (ap hD) hk1 (P_right hP)
    have hP : va_P (dC, dI) classes (wO ad cs σ1 qo cL f) H := hP1.app hPo
    have hD : va_D A (wO ad cs σ1 qo cL f) := D_fst hD wO_fst
    refine lv_i2l hx hb d_L_card_8 rfl ?_
    refine va_last (i := 0) (x := r1.toInt64) hx hb hKl hP hD hS 34 0 g_out rfl (inb_in (by decide)) d_L_card_9 (fun H locs hP hD hS => ?_)
    have hP := P_eq s_out hP
    have hD := D_eq s_out hD
    refine lv_goto (tgt := 17) hx hb d_L_card_10 (by decide) ?_
    refine lv_iconst (v := 0) hx hb d_L_card_17 (by decide) ?_
    have e9 := Prod.mk.inj (Option.some.inj hM)
    refine W.widen (k := 1) (n := 6) (by decide) (by decide) ?_
    exact W.iret (v := 0) hx hb hr (fun t ht hW => ⟨⟨0, (σ1, (vp_updL f (0 : Int32).toNatClampNeg r1.toInt64)), rfl, ⟨e9.1, e9.2⟩, by show va_P _ _ _ t.heap; rw [ht]; exact hP⟩, hS.F ht⟩) hS.2.2 d_L_card_18
  | none =>
    rw [m_L_card, hq] at hM
    dsimp only at hM
    cases hxm : xm_O_card N σ a1 a2 with
    | none => rw [hxm] at hM; cases hM
    | some k =>
      rw [hxm] at hM
      dsimp only at hM
      by_cases hk0 : k = 0
      · subst hk0
        rw [if_pos rfl] at hM
        obtain ⟨x0, hx0, hx0c⟩ := tab1 htab
        refine W_callX (C := R_O) (cls := xS) (As := [.int a1, .int a2]) (rest := [.int 0, .ref qo]) ⟨hx, hb, hml, hown, hts⟩ (x_O_card l htr dC dI ad cs _ N σ a1 a2 hxm) (cwV 2 hts (goodVW k_345 k_346 k_347 k_1 k_348) rfl rfl rfl ⟨rfl, by decide, by decide, by decide +kernel⟩ ⟨Nat.le_of_ble_eq_true rfl, Nat.le_of_ble_eq_true rfl⟩) ⟨blindZ, va_recv hK (P_left hP) rfl g_O, payZ (P_left hP) hK (D_left hD) hN hZ⟩ rfl hl.1 d_L_card_5 (Nat.le_of_ble_eq_true rfl) ⟨Nat.le_of_ble_eq_true rfl, Nat.le_of_ble_eq_true rfl⟩ [] x0 [] hx0 (by unfold covers; rw [hx0c.1, hx0c.2.1]; decide) (by rw [hx0c.2.2.2]; decide) (by rw [hx0c.2.2.2]; exact htb _ k_344) (fun z hz => by cases hz) (fun a H hz hkp => ?_)
        rw [hx0c.2.2.1]
        have hP := hP.kept (fun k q hq => hkp q.1 (va_at.lt (hP k q hq)))
        have hS : va_S A s.heap H [] := ⟨hz, fun q h1 _ => hkp q h1, fun _ h => by cases h⟩
        refine lv_astore hx hb d_L_card_13 hl (by decide) (lv' := [(4, .ref a), (0, .ref (ad 0 0)), (1, .int a1), (2, .int a2), (3, .ref qo)]) rfl (fun ls hl => ?_)
        refine lv_iconst (v := 1) hx hb d_L_card_15 (by decide) ?_
        have e9 := Prod.mk.inj (Option.some.inj hM)
        exact W.iret (v := 1) hx hb hr (fun t ht hW => ⟨⟨1, (σ, f), rfl, ⟨e9.1, e9.2⟩, by show va_P _ _ _ t.heap; rw [ht]; exact hP⟩, hS.F ht⟩) hS.2.2 d_L_card_16
      rw [if_neg hk0] at hM
      cases hM

theorem d_L_part_0 : decode b_L_part 0 = .ok (.aload_n 3, 1) := by decide +kernel
theorem d_L_part_1 : decode b_L_part 1 = .ok (.iconst 0, 1) := by decide +kernel
theorem d_L_part_2 : decode b_L_part 2 = .ok (.aload_n 0, 1) := by decide +kernel
theorem d_L_part_3 : decode b_L_part 3 = .ok (.iload_n 1, 1) := by decide +kernel
theorem d_L_part_4 : decode b_L_part 4 = .ok (.iload_n 2, 1) := by decide +kernel
theorem d_L_part_5 : decode b_L_part 5 = .ok (.invokevirtual 15, 3) := by decide +kernel
theorem d_L_part_8 : decode b_L_part 8 = .ok (.i2l, 1) := by decide +kernel
theorem d_L_part_9 : decode b_L_part 9 = .ok (.lastore, 1) := by decide +kernel
theorem d_L_part_10 : decode b_L_part 10 = .ok (.goto 11, 3) := by decide +kernel
theorem d_L_part_13 : decode b_L_part 13 = .ok (.astore 4, 2) := by decide +kernel
theorem d_L_part_15 : decode b_L_part 15 = .ok (.iconst 1, 1) := by decide +kernel
theorem d_L_part_16 : decode b_L_part 16 = .ok (.ireturn, 1) := by decide +kernel
theorem d_L_part_17 : decode b_L_part 17 = .ok (.astore 4, 2) := by decide +kernel
theorem d_L_part_19 : decode b_L_part 19 = .ok (.iconst 2, 1) := by decide +kernel
theorem d_L_part_20 : decode b_L_part 20 = .ok (.ireturn, 1) := by decide +kernel
theorem d_L_part_21 : decode b_L_part 21 = .ok (.iconst 0, 1) := by decide +kernel
theorem d_L_part_22 : decode b_L_part 22 = .ok (.ireturn, 1) := by decide +kernel
def m_L_part (N : Nat) (σ : SX) (f : Nat → Int64) (a1 : Int32) (a2 : Int32) : Option (Int32 × SX × (Nat → Int64)) := match m_O_part N σ a1 a2 with
  | some q => some (0, q.2, vp_updL f (0 : Int32).toNatClampNeg q.1.toInt64)
  | none => match xm_O_part N σ a1 a2 with
    | none => none
    | some k => if k = 1 then some (1, σ, f) else if k = 0 then some (2, σ, f) else none

set_option maxHeartbeats 4000000 in
set_option maxRecDepth 100000 in
theorem c_L_part (l : Launch) (htr : l.stackTraces = false) (dC : Nat → ClassId) (dI : Nat → Nat → Nat) (ad : Nat → Nat → Nat) (cs : Nat → ClassId) (cL : ClassId) (qo sz N : Nat) (σ : SX) (f : Nat → Int64) (a1 : Int32) (a2 : Int32) {r0 : Int32} {σ0 : SX} {f0 : Nat → Int64} (hM : m_L_part N σ f a1 a2 = some (r0, σ0, f0)) : Met l y_L_part (wdW y_L_part b_L_part 5 (some .int) [(0, 10, 13, 18), (0, 10, 17, 13)]) ({ frames := 7, cells := 1, slots := 6, locals := 122 }) (va_Pc [.ref (ad 0 0), .int a1, .int a2, .ref qo] (preL dC dI ad cs cL qo sz σ f)) (va_Qi (fun (r : Int32) (u : SX × (Nat → Int64)) => r = r0 ∧ u = (σ0, f0)) (fun u t => va_P (dC, dI) classes (wO ad cs u.1 qo cL u.2) t.heap) (va_A (wO ad cs σ qo cL f) sz)) 1 6 (va_A (wO ad cs σ qo cL f) sz) := by
  refine va_MetW (cc := b_L_part) (maxL := 5) (ret := some .int) (hh := [(0, 10, 13, 18), (0, 10, 17, 13)]) (by decide) rfl ?_
  intro p e s m args below meth c s₁ B hml hv
  obtain ⟨rfl, hsz, hP, hK, hKl, hD0, hN, hZ⟩ := hv
  have hx := B.exec
  have hb := B.bytes
  have hr := B.returns
  have hts := atoms_spec (ws := (wdW y_L_part b_L_part 5 (some .int) [(0, 10, 13, 18), (0, 10, 17, 13)])) B.pre
  have htb : ∀ w ∈ tb, w.before _ s = true := fun w h => hts w (List.mem_cons_of_mem _ h)
  have hown : s.vm.findClass R_L = some m.cls := findClass_of_methodNamed B.named
  have hlocks := B.notSynchronized
  subst hsz
  have hD := hD0.self (sz := s.heap.size)
  generalize hAe : va_A (wO ad cs σ qo cL f) s.heap.size = A at hD ⊢
  have hA : ∀ q : Nat, s.heap.size ≤ q → A q := fun q h => by rw [← hAe]; exact Or.inr h
  have hS : va_S A s.heap s.heap [] := va_S.rf
  have htab : c.exceptionTable.toList.map (fun h => (h.startPc, h.endPc, h.handlerPc, h.catchType)) = [(0, 10, 13, 18), (0, 10, 17, 13)] := by
    obtain ⟨m9, meth9, c9, hn9, hm9, hc9, -, -, ht9, -⟩ := Cond.codeWith_spec (hts _ List.mem_cons_self)
    cases B.named.symm.trans hn9
    cases B.method.symm.trans hm9
    cases (Stand.of_body B).code.symm.trans hc9
    exact ht9
  have hl := lv_entry ([.ref (ad 0 0), .int a1, .int a2, .ref qo]) (n := 5) (Nat.le_of_ble_eq_true rfl)
  rw [lg_entry_eq]
  generalize (lg_sl ([.ref (ad 0 0), .int a1, .int a2, .ref qo]) ++ List.replicate (5 - (lg_sl ([.ref (ad 0 0), .int a1, .int a2, .ref qo])).length) Slot.unset).toArray = ls at hl ⊢
  have hl : lv_has ls 5 [(0, .ref (ad 0 0)), (1, .int a1), (2, .int a2), (3, .ref qo)] := hl
  refine lv_aload_n hx hb d_L_part_0 rfl (lv_at hl 3 rfl) ?_
  refine lv_iconst (v := 0) hx hb d_L_part_1 (by decide) ?_
  refine lv_aload_n hx hb d_L_part_2 rfl (lv_at hl 0 rfl) ?_
  refine lv_iload_n hx hb d_L_part_3 rfl (lv_at hl 1 rfl) ?_
  refine lv_iload_n hx hb d_L_part_4 rfl (lv_at hl 2 rfl) ?_
  cases hq : m_O_part N σ a1 a2 with
  | some q =>
    rw [m_L_part, hq] at hM
    have hF1 := free_all (D_left hD) hS hA
    obtain ⟨x1, y1⟩ := q
    refine va_calli (va_runV (As := [.int a1, .int a2]) (rest := [.int 0, .ref qo]) ⟨hx, hb, hml, hown, hts⟩ (c_O_part l dC dI ad cs _ N σ a1 a2 hq) (cwV 2 hts (goodVW k_424 k_425 k_426 k_1 k_427) rfl rfl rfl ⟨rfl, by decide, by decide, by decide +kernel⟩ ⟨Nat.le_of_ble_eq_true rfl, Nat.le_of_ble_eq_true rfl⟩) ⟨blindX, va_recv hK (P_left hP) rfl g_O, payX (P_left hP) hK (D_left hD) hN⟩ rfl rfl hl.1 rfl (lv_room (Nat.le_of_ble_eq_true rfl)) d_L_part_5 ⟨Nat.zero_le _, Nat.zero_le _⟩) hS (fun q _ h => hF1 q h) hF1 (fun r1 σ1 t H locs ht hvm hpost hB hz1 hk1 hS => ?_)
    obtain ⟨e1, e2⟩ := hpost
    subst e1
    subst e2
    obtain ⟨hP1, hK1, hD1⟩ := hB
    rw [ht] at hP1
    have hPo := fr (ap hD) hk1 (P_right hP)
    have hP : va_P (dC, dI) classes (wO ad cs σ1 qo cL f) H := hP1.app hPo
    have hD : va_D A (wO ad cs σ1 qo cL f) := D_fst hD wO_fst
    refine lv_i2l hx hb d_L_part_8 rfl ?_
    refine va_last (i := 0) (x := r1.toInt64) hx hb hKl hP hD hS 34 0 g_out rfl (inb_in (by decide)) d_L_part_9 (fun H locs hP hD hS => ?_)
    have hP := P_eq s_out hP
    have hD := D_eq s_out hD
    refine lv_goto (tgt := 21) hx hb d_L_part_10 (by decide) ?_
    refine lv_iconst (v := 0) hx hb d_L_part_21 (by decide) ?_
    have e9 := Prod.mk.inj (Option.some.inj hM)
    refine W.widen (k := 1) (n := 6) (by decide) (by decide) ?_
    exact W.iret (v := 0) hx hb hr (fun t ht hW => ⟨⟨0, (σ1, (vp_updL f (0 : Int32).toNatClampNeg r1.toInt64)), rfl, ⟨e9.1, e9.2⟩, by show va_P _ _ _ t.heap; rw [ht]; exact hP⟩, hS.F ht⟩) hS.2.2 d_L_part_22
  | none =>
    rw [m_L_part, hq] at hM
    dsimp only at hM
    cases hxm : xm_O_part N σ a1 a2 with
    | none => rw [hxm] at hM; cases hM
    | some k =>
      rw [hxm] at hM
      dsimp only at hM
      by_cases hk0 : k = 1
      · subst hk0
        rw [if_pos rfl] at hM
        obtain ⟨x0, x1, hx0, hx0c, hx1c⟩ := tab2 htab
        refine W_callX (C := R_O) (cls := xI) (As := [.int a1, .int a2]) (rest := [.int 0, .ref qo]) ⟨hx, hb, hml, hown, hts⟩ (x_O_part l htr dC dI ad cs _ N σ a1 a2 hxm) (cwV 2 hts (goodVW k_424 k_425 k_426 k_1 k_427) rfl rfl rfl ⟨rfl, by decide, by decide, by decide +kernel⟩ ⟨Nat.le_of_ble_eq_true rfl, Nat.le_of_ble_eq_true rfl⟩) ⟨blindZ, va_recv hK (P_left hP) rfl g_O, payZ (P_left hP) hK (D_left hD) hN hZ⟩ rfl hl.1 d_L_part_5 (Nat.le_of_ble_eq_true rfl) ⟨Nat.le_of_ble_eq_true rfl, Nat.le_of_ble_eq_true rfl⟩ [] x0 [x1] hx0 (by unfold covers; rw [hx0c.1, hx0c.2.1]; decide) (by rw [hx0c.2.2.2]; decide) (by rw [hx0c.2.2.2]; exact htb _ k_423) (fun z hz => by cases hz) (fun a H hz hkp => ?_)
        rw [hx0c.2.2.1]
        have hP := hP.kept (fun k q hq => hkp q.1 (va_at.lt (hP k q hq)))
        have hS : va_S A s.heap H [] := ⟨hz, fun q h1 _ => hkp q h1, fun _ h => by cases h⟩
        refine lv_astore hx hb d_L_part_13 hl (by decide) (lv' := [(4, .ref a), (0, .ref (ad 0 0)), (1, .int a1), (2, .int a2), (3, .ref qo)]) rfl (fun ls hl => ?_)
        refine lv_iconst (v := 1) hx hb d_L_part_15 (by decide) ?_
        have e9 := Prod.mk.inj (Option.some.inj hM)
        exact W.iret (v := 1) hx hb hr (fun t ht hW => ⟨⟨1, (σ, f), rfl, ⟨e9.1, e9.2⟩, by show va_P _ _ _ t.heap; rw [ht]; exact hP⟩, hS.F ht⟩) hS.2.2 d_L_part_16
      rw [if_neg hk0] at hM
      by_cases hk1 : k = 0
      · subst hk1
        rw [if_pos rfl] at hM
        obtain ⟨x0, x1, hx0, hx0c, hx1c⟩ := tab2 htab
        refine W_callX (C := R_O) (cls := xS) (As := [.int a1, .int a2]) (rest := [.int 0, .ref qo]) ⟨hx, hb, hml, hown, hts⟩ (x_O_part l htr dC dI ad cs _ N σ a1 a2 hxm) (cwV 2 hts (goodVW k_424 k_425 k_426 k_1 k_427) rfl rfl rfl ⟨rfl, by decide, by decide, by decide +kernel⟩ ⟨Nat.le_of_ble_eq_true rfl, Nat.le_of_ble_eq_true rfl⟩) ⟨blindZ, va_recv hK (P_left hP) rfl g_O, payZ (P_left hP) hK (D_left hD) hN hZ⟩ rfl hl.1 d_L_part_5 (Nat.le_of_ble_eq_true rfl) ⟨Nat.le_of_ble_eq_true rfl, Nat.le_of_ble_eq_true rfl⟩ [x0] x1 [] hx0 (by unfold covers; rw [hx1c.1, hx1c.2.1]; decide) (by rw [hx1c.2.2.2]; decide) (by rw [hx1c.2.2.2]; exact htb _ k_344) (fun z hz => by cases List.mem_singleton.mp hz; exact ⟨by rw [hx0c.2.2.2]; decide, _, by rw [hx0c.2.2.2]; exact htb _ k_423, bad_args (List.mem_of_getElem? (i := 9) rfl) (hZ _ (List.mem_of_getElem? (i := 9) rfl))⟩) (fun a H hz hkp => ?_)
        rw [hx1c.2.2.1]
        have hP := hP.kept (fun k q hq => hkp q.1 (va_at.lt (hP k q hq)))
        have hS : va_S A s.heap H [] := ⟨hz, fun q h1 _ => hkp q h1, fun _ h => by cases h⟩
        refine lv_astore hx hb d_L_part_17 hl (by decide) (lv' := [(4, .ref a), (0, .ref (ad 0 0)), (1, .int a1), (2, .int a2), (3, .ref qo)]) rfl (fun ls hl => ?_)
        refine lv_iconst (v := 2) hx hb d_L_part_19 (by decide) ?_
        have e9 := Prod.mk.inj (Option.some.inj hM)
        exact W.iret (v := 2) hx hb hr (fun t ht hW => ⟨⟨2, (σ, f), rfl, ⟨e9.1, e9.2⟩, by show va_P _ _ _ t.heap; rw [ht]; exact hP⟩, hS.F ht⟩) hS.2.2 d_L_part_20
      rw [if_neg hk1] at hM
      cases hM

theorem d_L_start_0 : decode b_L_start 0 = .ok (.aload_n 0, 1) := by decide +kernel
theorem d_L_start_1 : decode b_L_start 1 = .ok (.invokevirtual 20, 3) := by decide +kernel
theorem d_L_start_4 : decode b_L_start 4 = .ok (.goto 6, 3) := by decide +kernel
theorem d_L_start_7 : decode b_L_start 7 = .ok (.astore_n 1, 1) := by decide +kernel
theorem d_L_start_8 : decode b_L_start 8 = .ok (.iconst 1, 1) := by decide +kernel
theorem d_L_start_9 : decode b_L_start 9 = .ok (.ireturn, 1) := by decide +kernel
theorem d_L_start_10 : decode b_L_start 10 = .ok (.iconst 0, 1) := by decide +kernel
theorem d_L_start_11 : decode b_L_start 11 = .ok (.ireturn, 1) := by decide +kernel
def m_L_start (N : Nat) (σ : SX) (f : Nat → Int64) : Option (Int32 × SX × (Nat → Int64)) := match m_O_start N σ with
  | some q => some (0, q, f)
  | none => match xm_O_start N σ with
    | none => none
    | some k => if k = 0 then some (1, σ, f) else none

set_option maxHeartbeats 4000000 in
set_option maxRecDepth 100000 in
theorem c_L_start (l : Launch) (htr : l.stackTraces = false) (dC : Nat → ClassId) (dI : Nat → Nat → Nat) (ad : Nat → Nat → Nat) (cs : Nat → ClassId) (cL : ClassId) (qo sz N : Nat) (σ : SX) (f : Nat → Int64) {r0 : Int32} {σ0 : SX} {f0 : Nat → Int64} (hM : m_L_start N σ f = some (r0, σ0, f0)) : Met l y_L_start (wdW y_L_start b_L_start 2 (some .int) [(0, 4, 7, 13)]) ({ frames := 7, cells := 1, slots := 6, locals := 121 }) (va_Pc [.ref (ad 0 0)] (preL dC dI ad cs cL qo sz σ f)) (va_Qi (fun (r : Int32) (u : SX × (Nat → Int64)) => r = r0 ∧ u = (σ0, f0)) (fun u t => va_P (dC, dI) classes (wO ad cs u.1 qo cL u.2) t.heap) (va_A (wO ad cs σ qo cL f) sz)) 1 6 (va_A (wO ad cs σ qo cL f) sz) := by
  refine va_MetW (cc := b_L_start) (maxL := 2) (ret := some .int) (hh := [(0, 4, 7, 13)]) (by decide) rfl ?_
  intro p e s m args below meth c s₁ B hml hv
  obtain ⟨rfl, hsz, hP, hK, hKl, hD0, hN, hZ⟩ := hv
  have hx := B.exec
  have hb := B.bytes
  have hr := B.returns
  have hts := atoms_spec (ws := (wdW y_L_start b_L_start 2 (some .int) [(0, 4, 7, 13)])) B.pre
  have htb : ∀ w ∈ tb, w.before _ s = true := fun w h => hts w (List.mem_cons_of_mem _ h)
  have hown : s.vm.findClass R_L = some m.cls := findClass_of_methodNamed B.named
  have hlocks := B.notSynchronized
  subst hsz
  have hD := hD0.self (sz := s.heap.size)
  generalize hAe : va_A (wO ad cs σ qo cL f) s.heap.size = A at hD ⊢
  have hA : ∀ q : Nat, s.heap.size ≤ q → A q := fun q h => by rw [← hAe]; exact Or.inr h
  have hS : va_S A s.heap s.heap [] := va_S.rf
  have htab : c.exceptionTable.toList.map (fun h => (h.startPc, h.endPc, h.handlerPc, h.catchType)) = [(0, 4, 7, 13)] := by
    obtain ⟨m9, meth9, c9, hn9, hm9, hc9, -, -, ht9, -⟩ := Cond.codeWith_spec (hts _ List.mem_cons_self)
    cases B.named.symm.trans hn9
    cases B.method.symm.trans hm9
    cases (Stand.of_body B).code.symm.trans hc9
    exact ht9
  have hl := lv_entry ([.ref (ad 0 0)]) (n := 2) (Nat.le_of_ble_eq_true rfl)
  rw [lg_entry_eq]
  generalize (lg_sl ([.ref (ad 0 0)]) ++ List.replicate (2 - (lg_sl ([.ref (ad 0 0)])).length) Slot.unset).toArray = ls at hl ⊢
  have hl : lv_has ls 2 [(0, .ref (ad 0 0))] := hl
  refine lv_aload_n hx hb d_L_start_0 rfl (lv_at hl 0 rfl) ?_
  cases hq : m_O_start N σ with
  | some q =>
    rw [m_L_start, hq] at hM
    have hF1 := free_all (D_left hD) hS hA
    refine va_callv (va_runV (As := []) (rest := []) ⟨hx, hb, hml, hown, hts⟩ (c_O_start l dC dI ad cs _ N σ hq) (cwV 0 hts (goodVW k_456 k_457 k_458 k_1 k_459) rfl rfl rfl ⟨rfl, by decide, by decide, by decide +kernel⟩ ⟨Nat.le_of_ble_eq_true rfl, Nat.le_of_ble_eq_true rfl⟩) ⟨blindX, va_recv hK (P_left hP) rfl g_O, payX (P_left hP) hK (D_left hD) hN⟩ rfl rfl hl.1 rfl (lv_room (Nat.le_of_ble_eq_true rfl)) d_L_start_1 ⟨Nat.zero_le _, Nat.zero_le _⟩) hS (fun q _ h => hF1 q h) hF1 (fun σ1 t H locs ht hvm hpost hB hz1 hk1 hS => ?_)
    subst hpost
    obtain ⟨hP1, hK1, hD1⟩ := hB
    rw [ht] at hP1
    have hPo := fr (ap hD) hk1 (P_right hP)
    have hP : va_P (dC, dI) classes (wO ad cs σ1 qo cL f) H := hP1.app hPo
    have hD : va_D A (wO ad cs σ1 qo cL f) := D_fst hD wO_fst
    refine lv_goto (tgt := 10) hx hb d_L_start_4 (by decide) ?_
    refine lv_iconst (v := 0) hx hb d_L_start_10 (by decide) ?_
    have e9 := Prod.mk.inj (Option.some.inj hM)
    refine W.widen (k := 1) (n := 6) (by decide) (by decide) ?_
    exact W.iret (v := 0) hx hb hr (fun t ht hW => ⟨⟨0, (σ1, f), rfl, ⟨e9.1, e9.2⟩, by show va_P _ _ _ t.heap; rw [ht]; exact hP⟩, hS.F ht⟩) hS.2.2 d_L_start_11
  | none =>
    rw [m_L_start, hq] at hM
    dsimp only at hM
    cases hxm : xm_O_start N σ with
    | none => rw [hxm] at hM; cases hM
    | some k =>
      rw [hxm] at hM
      dsimp only at hM
      by_cases hk0 : k = 0
      · subst hk0
        rw [if_pos rfl] at hM
        obtain ⟨x0, hx0, hx0c⟩ := tab1 htab
        refine W_callX (C := R_O) (cls := xS) (As := []) (rest := []) ⟨hx, hb, hml, hown, hts⟩ (x_O_start l htr dC dI ad cs _ N σ hxm) (cwV 0 hts (goodVW k_456 k_457 k_458 k_1 k_459) rfl rfl rfl ⟨rfl, by decide, by decide, by decide +kernel⟩ ⟨Nat.le_of_ble_eq_true rfl, Nat.le_of_ble_eq_true rfl⟩) ⟨blindZ, va_recv hK (P_left hP) rfl g_O, payZ (P_left hP) hK (D_left hD) hN hZ⟩ rfl hl.1 d_L_start_1 (Nat.le_of_ble_eq_true rfl) ⟨Nat.le_of_ble_eq_true rfl, Nat.le_of_ble_eq_true rfl⟩ [] x0 [] hx0 (by unfold covers; rw [hx0c.1, hx0c.2.1]; decide) (by rw [hx0c.2.2.2]; decide) (by rw [hx0c.2.2.2]; exact htb _ k_344) (fun z hz => by cases hz) (fun a H hz hkp => ?_)
        rw [hx0c.2.2.1]
        have hP := hP.kept (fun k q hq => hkp q.1 (va_at.lt (hP k q hq)))
        have hS : va_S A s.heap H [] := ⟨hz, fun q h1 _ => hkp q h1, fun _ h => by cases h⟩
        refine lv_astore_n hx hb d_L_start_7 rfl hl (by decide) (lv' := [(1, .ref a), (0, .ref (ad 0 0))]) rfl (fun ls hl => ?_)
        refine lv_iconst (v := 1) hx hb d_L_start_8 (by decide) ?_
        have e9 := Prod.mk.inj (Option.some.inj hM)
        exact W.iret (v := 1) hx hb hr (fun t ht hW => ⟨⟨1, (σ, f), rfl, ⟨e9.1, e9.2⟩, by show va_P _ _ _ t.heap; rw [ht]; exact hP⟩, hS.F ht⟩) hS.2.2 d_L_start_9
      rw [if_neg hk0] at hM
      cases hM

theorem d_L_step_0 : decode b_L_step 0 = .ok (.aload_n 2, 1) := by decide +kernel
theorem d_L_step_1 : decode b_L_step 1 = .ok (.iconst 0, 1) := by decide +kernel
theorem d_L_step_2 : decode b_L_step 2 = .ok (.aload_n 0, 1) := by decide +kernel
theorem d_L_step_3 : decode b_L_step 3 = .ok (.iload_n 1, 1) := by decide +kernel
theorem d_L_step_4 : decode b_L_step 4 = .ok (.invokevirtual 23, 3) := by decide +kernel
theorem d_L_step_7 : decode b_L_step 7 = .ok (.i2l, 1) := by decide +kernel
theorem d_L_step_8 : decode b_L_step 8 = .ok (.lastore, 1) := by decide +kernel
theorem d_L_step_9 : decode b_L_step 9 = .ok (.goto 9, 3) := by decide +kernel
theorem d_L_step_12 : decode b_L_step 12 = .ok (.astore_n 3, 1) := by decide +kernel
theorem d_L_step_13 : decode b_L_step 13 = .ok (.iconst 1, 1) := by decide +kernel
theorem d_L_step_14 : decode b_L_step 14 = .ok (.ireturn, 1) := by decide +kernel
theorem d_L_step_15 : decode b_L_step 15 = .ok (.astore_n 3, 1) := by decide +kernel
theorem d_L_step_16 : decode b_L_step 16 = .ok (.iconst 2, 1) := by decide +kernel
theorem d_L_step_17 : decode b_L_step 17 = .ok (.ireturn, 1) := by decide +kernel
theorem d_L_step_18 : decode b_L_step 18 = .ok (.iconst 0, 1) := by decide +kernel
theorem d_L_step_19 : decode b_L_step 19 = .ok (.ireturn, 1) := by decide +kernel
def m_L_step (N : Nat) (σ : SX) (f : Nat → Int64) (a1 : Int32) : Option (Int32 × SX × (Nat → Int64)) := match m_O_step N σ a1 with
  | some q => some (0, q.2, vp_updL f (0 : Int32).toNatClampNeg q.1.toInt64)
  | none => match xm_O_step N σ a1 with
    | none => none
    | some k => if k = 1 then some (1, σ, f) else if k = 0 then some (2, σ, f) else none

set_option maxHeartbeats 4000000 in
set_option maxRecDepth 100000 in
theorem c_L_step (l : Launch) (htr : l.stackTraces = false) (dC : Nat → ClassId) (dI : Nat → Nat → Nat) (ad : Nat → Nat → Nat) (cs : Nat → ClassId) (cL : ClassId) (qo sz N : Nat) (σ : SX) (f : Nat → Int64) (a1 : Int32) {r0 : Int32} {σ0 : SX} {f0 : Nat → Int64} (hM : m_L_step N σ f a1 = some (r0, σ0, f0)) : Met l y_L_step (wdW y_L_step b_L_step 4 (some .int) [(0, 9, 12, 18), (0, 9, 15, 13)]) ({ frames := 7, cells := 1, slots := 6, locals := 159 }) (va_Pc [.ref (ad 0 0), .int a1, .ref qo] (preL dC dI ad cs cL qo sz σ f)) (va_Qi (fun (r : Int32) (u : SX × (Nat → Int64)) => r = r0 ∧ u = (σ0, f0)) (fun u t => va_P (dC, dI) classes (wO ad cs u.1 qo cL u.2) t.heap) (va_A (wO ad cs σ qo cL f) sz)) 1 6 (va_A (wO ad cs σ qo cL f) sz) := by
  refine va_MetW (cc := b_L_step) (maxL := 4) (ret := some .int) (hh := [(0, 9, 12, 18), (0, 9, 15, 13)]) (by decide) rfl ?_
  intro p e s m args below meth c s₁ B hml hv
  obtain ⟨rfl, hsz, hP, hK, hKl, hD0, hN, hZ⟩ := hv
  have hx := B.exec
  have hb := B.bytes
  have hr := B.returns
  have hts := atoms_spec (ws := (wdW y_L_step b_L_step 4 (some .int) [(0, 9, 12, 18), (0, 9, 15, 13)])) B.pre
  have htb : ∀ w ∈ tb, w.before _ s = true := fun w h => hts w (List.mem_cons_of_mem _ h)
  have hown : s.vm.findClass R_L = some m.cls := findClass_of_methodNamed B.named
  have hlocks := B.notSynchronized
  subst hsz
  have hD := hD0.self (sz := s.heap.size)
  generalize hAe : va_A (wO ad cs σ qo cL f) s.heap.size = A at hD ⊢
  have hA : ∀ q : Nat, s.heap.size ≤ q → A q := fun q h => by rw [← hAe]; exact Or.inr h
  have hS : va_S A s.heap s.heap [] := va_S.rf
  have htab : c.exceptionTable.toList.map (fun h => (h.startPc, h.endPc, h.handlerPc, h.catchType)) = [(0, 9, 12, 18), (0, 9, 15, 13)] := by
    obtain ⟨m9, meth9, c9, hn9, hm9, hc9, -, -, ht9, -⟩ := Cond.codeWith_spec (hts _ List.mem_cons_self)
    cases B.named.symm.trans hn9
    cases B.method.symm.trans hm9
    cases (Stand.of_body B).code.symm.trans hc9
    exact ht9
  have hl := lv_entry ([.ref (ad 0 0), .int a1, .ref qo]) (n := 4) (Nat.le_of_ble_eq_true rfl)
  rw [lg_entry_eq]
  generalize (lg_sl ([.ref (ad 0 0), .int a1, .ref qo]) ++ List.replicate (4 - (lg_sl ([.ref (ad 0 0), .int a1, .ref qo])).length) Slot.unset).toArray = ls at hl ⊢
  have hl : lv_has ls 4 [(0, .ref (ad 0 0)), (1, .int a1), (2, .ref qo)] := hl
  refine lv_aload_n hx hb d_L_step_0 rfl (lv_at hl 2 rfl) ?_
  refine lv_iconst (v := 0) hx hb d_L_step_1 (by decide) ?_
  refine lv_aload_n hx hb d_L_step_2 rfl (lv_at hl 0 rfl) ?_
  refine lv_iload_n hx hb d_L_step_3 rfl (lv_at hl 1 rfl) ?_
  cases hq : m_O_step N σ a1 with
  | some q =>
    rw [m_L_step, hq] at hM
    have hF1 := free_all (D_left hD) hS hA
    obtain ⟨x1, y1⟩ := q
    refine va_calli (va_runV (As := [.int a1]) (rest := [.int 0, .ref qo]) ⟨hx, hb, hml, hown, hts⟩ (c_O_step l dC dI ad cs _ N σ a1 hq) (cwV 1 hts (goodVW k_483 k_484 k_485 k_1 k_486) rfl rfl rfl ⟨rfl, by decide, by decide, by decide +kernel⟩ ⟨Nat.le_of_ble_eq_true rfl, Nat.le_of_ble_eq_true rfl⟩) ⟨blindX, va_recv hK (P_left hP) rfl g_O, payX (P_left hP) hK (D_left hD) hN⟩ rfl rfl hl.1 rfl (lv_room (Nat.le_of_ble_eq_true rfl)) d_L_step_4 ⟨Nat.zero_le _, Nat.zero_le _⟩) hS (fun q _ h => hF1 q h) hF1 (fun r1 σ1 t H locs ht hvm hpost hB hz1 hk1 hS => ?_)
    obtain ⟨e1, e2⟩ := hpost
    subst e1
    subst e2
    obtain ⟨hP1, hK1, hD1⟩ := hB
    rw [ht] at hP1
    have hPo := fr (ap hD) hk1 (P_right hP)
    have hP : va_P (dC, dI) classes (wO ad cs σ1 qo cL f) H := hP1.app hPo
    have hD : va_D A (wO ad cs σ1 qo cL f) := D_fst hD wO_fst
    refine lv_i2l hx hb d_L_step_7 rfl ?_
    refine va_last (i := 0) (x := r1.toInt64) hx hb hKl hP hD hS 34 0 g_out rfl (inb_in (by decide)) d_L_step_8 (fun H locs hP hD hS => ?_)
    have hP := P_eq s_out hP
    have hD := D_eq s_out hD
    refine lv_goto (tgt := 18) hx hb d_L_step_9 (by decide) ?_
    refine lv_iconst (v := 0) hx hb d_L_step_18 (by decide) ?_
    have e9 := Prod.mk.inj (Option.some.inj hM)
    refine W.widen (k := 1) (n := 6) (by decide) (by decide) ?_
    exact W.iret (v := 0) hx hb hr (fun t ht hW => ⟨⟨0, (σ1, (vp_updL f (0 : Int32).toNatClampNeg r1.toInt64)), rfl, ⟨e9.1, e9.2⟩, by show va_P _ _ _ t.heap; rw [ht]; exact hP⟩, hS.F ht⟩) hS.2.2 d_L_step_19
  | none =>
    rw [m_L_step, hq] at hM
    dsimp only at hM
    cases hxm : xm_O_step N σ a1 with
    | none => rw [hxm] at hM; cases hM
    | some k =>
      rw [hxm] at hM
      dsimp only at hM
      by_cases hk0 : k = 1
      · subst hk0
        rw [if_pos rfl] at hM
        obtain ⟨x0, x1, hx0, hx0c, hx1c⟩ := tab2 htab
        refine W_callX (C := R_O) (cls := xI) (As := [.int a1]) (rest := [.int 0, .ref qo]) ⟨hx, hb, hml, hown, hts⟩ (x_O_step l htr dC dI ad cs _ N σ a1 hxm) (cwV 1 hts (goodVW k_483 k_484 k_485 k_1 k_486) rfl rfl rfl ⟨rfl, by decide, by decide, by decide +kernel⟩ ⟨Nat.le_of_ble_eq_true rfl, Nat.le_of_ble_eq_true rfl⟩) ⟨blindZ, va_recv hK (P_left hP) rfl g_O, payZ (P_left hP) hK (D_left hD) hN hZ⟩ rfl hl.1 d_L_step_4 (Nat.le_of_ble_eq_true rfl) ⟨Nat.le_of_ble_eq_true rfl, Nat.le_of_ble_eq_true rfl⟩ [] x0 [x1] hx0 (by unfold covers; rw [hx0c.1, hx0c.2.1]; decide) (by rw [hx0c.2.2.2]; decide) (by rw [hx0c.2.2.2]; exact htb _ k_423) (fun z hz => by cases hz) (fun a H hz hkp => ?_)
        rw [hx0c.2.2.1]
        have hP := hP.kept (fun k q hq => hkp q.1 (va_at.lt (hP k q hq)))
        have hS : va_S A s.heap H [] := ⟨hz, fun q h1 _ => hkp q h1, fun _ h => by cases h⟩
        refine lv_astore_n hx hb d_L_step_12 rfl hl (by decide) (lv' := [(3, .ref a), (0, .ref (ad 0 0)), (1, .int a1), (2, .ref qo)]) rfl (fun ls hl => ?_)
        refine lv_iconst (v := 1) hx hb d_L_step_13 (by decide) ?_
        have e9 := Prod.mk.inj (Option.some.inj hM)
        exact W.iret (v := 1) hx hb hr (fun t ht hW => ⟨⟨1, (σ, f), rfl, ⟨e9.1, e9.2⟩, by show va_P _ _ _ t.heap; rw [ht]; exact hP⟩, hS.F ht⟩) hS.2.2 d_L_step_14
      rw [if_neg hk0] at hM
      by_cases hk1 : k = 0
      · subst hk1
        rw [if_pos rfl] at hM
        obtain ⟨x0, x1, hx0, hx0c, hx1c⟩ := tab2 htab
        refine W_callX (C := R_O) (cls := xS) (As := [.int a1]) (rest := [.int 0, .ref qo]) ⟨hx, hb, hml, hown, hts⟩ (x_O_step l htr dC dI ad cs _ N σ a1 hxm) (cwV 1 hts (goodVW k_483 k_484 k_485 k_1 k_486) rfl rfl rfl ⟨rfl, by decide, by decide, by decide +kernel⟩ ⟨Nat.le_of_ble_eq_true rfl, Nat.le_of_ble_eq_true rfl⟩) ⟨blindZ, va_recv hK (P_left hP) rfl g_O, payZ (P_left hP) hK (D_left hD) hN hZ⟩ rfl hl.1 d_L_step_4 (Nat.le_of_ble_eq_true rfl) ⟨Nat.le_of_ble_eq_true rfl, Nat.le_of_ble_eq_true rfl⟩ [x0] x1 [] hx0 (by unfold covers; rw [hx1c.1, hx1c.2.1]; decide) (by rw [hx1c.2.2.2]; decide) (by rw [hx1c.2.2.2]; exact htb _ k_344) (fun z hz => by cases List.mem_singleton.mp hz; exact ⟨by rw [hx0c.2.2.2]; decide, _, by rw [hx0c.2.2.2]; exact htb _ k_423, bad_args (List.mem_of_getElem? (i := 9) rfl) (hZ _ (List.mem_of_getElem? (i := 9) rfl))⟩) (fun a H hz hkp => ?_)
        rw [hx1c.2.2.1]
        have hP := hP.kept (fun k q hq => hkp q.1 (va_at.lt (hP k q hq)))
        have hS : va_S A s.heap H [] := ⟨hz, fun q h1 _ => hkp q h1, fun _ h => by cases h⟩
        refine lv_astore_n hx hb d_L_step_15 rfl hl (by decide) (lv' := [(3, .ref a), (0, .ref (ad 0 0)), (1, .int a1), (2, .ref qo)]) rfl (fun ls hl => ?_)
        refine lv_iconst (v := 2) hx hb d_L_step_16 (by decide) ?_
        have e9 := Prod.mk.inj (Option.some.inj hM)
        exact W.iret (v := 2) hx hb hr (fun t ht hW => ⟨⟨2, (σ, f), rfl, ⟨e9.1, e9.2⟩, by show va_P _ _ _ t.heap; rw [ht]; exact hP⟩, hS.F ht⟩) hS.2.2 d_L_step_17
      rw [if_neg hk1] at hM
      cases hM

theorem d_L_fault_0 : decode b_L_fault 0 = .ok (.aload_n 3, 1) := by decide +kernel
theorem d_L_fault_1 : decode b_L_fault 1 = .ok (.iconst 0, 1) := by decide +kernel
theorem d_L_fault_2 : decode b_L_fault 2 = .ok (.aload_n 0, 1) := by decide +kernel
theorem d_L_fault_3 : decode b_L_fault 3 = .ok (.iload_n 1, 1) := by decide +kernel
theorem d_L_fault_4 : decode b_L_fault 4 = .ok (.iload_n 2, 1) := by decide +kernel
theorem d_L_fault_5 : decode b_L_fault 5 = .ok (.invokevirtual 27, 3) := by decide +kernel
theorem d_L_fault_8 : decode b_L_fault 8 = .ok (.i2l, 1) := by decide +kernel
theorem d_L_fault_9 : decode b_L_fault 9 = .ok (.lastore, 1) := by decide +kernel
theorem d_L_fault_10 : decode b_L_fault 10 = .ok (.goto 7, 3) := by decide +kernel
theorem d_L_fault_13 : decode b_L_fault 13 = .ok (.astore 4, 2) := by decide +kernel
theorem d_L_fault_15 : decode b_L_fault 15 = .ok (.iconst 1, 1) := by decide +kernel
theorem d_L_fault_16 : decode b_L_fault 16 = .ok (.ireturn, 1) := by decide +kernel
theorem d_L_fault_17 : decode b_L_fault 17 = .ok (.iconst 0, 1) := by decide +kernel
theorem d_L_fault_18 : decode b_L_fault 18 = .ok (.ireturn, 1) := by decide +kernel
def m_L_fault (N : Nat) (σ : SX) (f : Nat → Int64) (a1 : Int32) (a2 : Int32) : Option (Int32 × SX × (Nat → Int64)) := match m_O_fault N σ a1 a2 with
  | some q => some (0, q.2, vp_updL f (0 : Int32).toNatClampNeg q.1.toInt64)
  | none => match xm_O_fault N σ a1 a2 with
    | none => none
    | some k => if k = 1 then some (1, σ, f) else none

set_option maxHeartbeats 4000000 in
set_option maxRecDepth 100000 in
theorem c_L_fault (l : Launch) (htr : l.stackTraces = false) (dC : Nat → ClassId) (dI : Nat → Nat → Nat) (ad : Nat → Nat → Nat) (cs : Nat → ClassId) (cL : ClassId) (qo sz N : Nat) (σ : SX) (f : Nat → Int64) (a1 : Int32) (a2 : Int32) {r0 : Int32} {σ0 : SX} {f0 : Nat → Int64} (hM : m_L_fault N σ f a1 a2 = some (r0, σ0, f0)) : Met l y_L_fault (wdW y_L_fault b_L_fault 5 (some .int) [(0, 10, 13, 18)]) ({ frames := 7, cells := 1, slots := 6, locals := 122 }) (va_Pc [.ref (ad 0 0), .int a1, .int a2, .ref qo] (preL dC dI ad cs cL qo sz σ f)) (va_Qi (fun (r : Int32) (u : SX × (Nat → Int64)) => r = r0 ∧ u = (σ0, f0)) (fun u t => va_P (dC, dI) classes (wO ad cs u.1 qo cL u.2) t.heap) (va_A (wO ad cs σ qo cL f) sz)) 1 6 (va_A (wO ad cs σ qo cL f) sz) := by
  refine va_MetW (cc := b_L_fault) (maxL := 5) (ret := some .int) (hh := [(0, 10, 13, 18)]) (by decide) rfl ?_
  intro p e s m args below meth c s₁ B hml hv
  obtain ⟨rfl, hsz, hP, hK, hKl, hD0, hN, hZ⟩ := hv
  have hx := B.exec
  have hb := B.bytes
  have hr := B.returns
  have hts := atoms_spec (ws := (wdW y_L_fault b_L_fault 5 (some .int) [(0, 10, 13, 18)])) B.pre
  have htb : ∀ w ∈ tb, w.before _ s = true := fun w h => hts w (List.mem_cons_of_mem _ h)
  have hown : s.vm.findClass R_L = some m.cls := findClass_of_methodNamed B.named
  have hlocks := B.notSynchronized
  subst hsz
  have hD := hD0.self (sz := s.heap.size)
  generalize hAe : va_A (wO ad cs σ qo cL f) s.heap.size = A at hD ⊢
  have hA : ∀ q : Nat, s.heap.size ≤ q → A q := fun q h => by rw [← hAe]; exact Or.inr h
  have hS : va_S A s.heap s.heap [] := va_S.rf
  have htab : c.exceptionTable.toList.map (fun h => (h.startPc, h.endPc, h.handlerPc, h.catchType)) = [(0, 10, 13, 18)] := by
    obtain ⟨m9, meth9, c9, hn9, hm9, hc9, -, -, ht9, -⟩ := Cond.codeWith_spec (hts _ List.mem_cons_self)
    cases B.named.symm.trans hn9
    cases B.method.symm.trans hm9
    cases (Stand.of_body B).code.symm.trans hc9
    exact ht9
  have hl := lv_entry ([.ref (ad 0 0), .int a1, .int a2, .ref qo]) (n := 5) (Nat.le_of_ble_eq_true rfl)
  rw [lg_entry_eq]
  generalize (lg_sl ([.ref (ad 0 0), .int a1, .int a2, .ref qo]) ++ List.replicate (5 - (lg_sl ([.ref (ad 0 0), .int a1, .int a2, .ref qo])).length) Slot.unset).toArray = ls at hl ⊢
  have hl : lv_has ls 5 [(0, .ref (ad 0 0)), (1, .int a1), (2, .int a2), (3, .ref qo)] := hl
  refine lv_aload_n hx hb d_L_fault_0 rfl (lv_at hl 3 rfl) ?_
  refine lv_iconst (v := 0) hx hb d_L_fault_1 (by decide) ?_
  refine lv_aload_n hx hb d_L_fault_2 rfl (lv_at hl 0 rfl) ?_
  refine lv_iload_n hx hb d_L_fault_3 rfl (lv_at hl 1 rfl) ?_
  refine lv_iload_n hx hb d_L_fault_4 rfl (lv_at hl 2 rfl) ?_
  cases hq : m_O_fault N σ a1 a2 with
  | some q =>
    rw [m_L_fault, hq] at hM
    have hF1 := free_all (D_left hD) hS hA
    obtain ⟨x1, y1⟩ := q
    refine va_calli (va_runV (As := [.int a1, .int a2]) (rest := [.int 0, .ref qo]) ⟨hx, hb, hml, hown, hts⟩ (c_O_fault l dC dI ad cs _ N σ a1 a2 hq) (cwV 2 hts (goodVW k_605 k_606 k_607 k_1 k_608) rfl rfl rfl ⟨rfl, by decide, by decide, by decide +kernel⟩ ⟨Nat.le_of_ble_eq_true rfl, Nat.le_of_ble_eq_true rfl⟩) ⟨blindX, va_recv hK (P_left hP) rfl g_O, payX (P_left hP) hK (D_left hD) hN⟩ rfl rfl hl.1 rfl (lv_room (Nat.le_of_ble_eq_true rfl)) d_L_fault_5 ⟨Nat.zero_le _, Nat.zero_le _⟩) hS (fun q _ h => hF1 q h) hF1 (fun r1 σ1 t H locs ht hvm hpost hB hz1 hk1 hS => ?_)
    obtain ⟨e1, e2⟩ := hpost
    subst e1
    subst e2
    obtain ⟨hP1, hK1, hD1⟩ := hB
    rw [ht] at hP1
    have hPo := fr (ap hD) hk1 (P_right hP)
    have hP : va_P (dC, dI) classes (wO ad cs σ1 qo cL f) H := hP1.app hPo
    have hD : va_D A (wO ad cs σ1 qo cL f) := D_fst hD wO_fst
    refine lv_i2l hx hb d_L_fault_8 rfl ?_
    refine va_last (i := 0) (x := r1.toInt64) hx hb hKl hP hD hS 34 0 g_out rfl (inb_in (by decide)) d_L_fault_9 (fun H locs hP hD hS => ?_)
    have hP := P_eq s_out hP
    have hD := D_eq s_out hD
    refine lv_goto (tgt := 17) hx hb d_L_fault_10 (by decide) ?_
    refine lv_iconst (v := 0) hx hb d_L_fault_17 (by decide) ?_
    have e9 := Prod.mk.inj (Option.some.inj hM)
    refine W.widen (k := 1) (n := 6) (by decide) (by decide) ?_
    exact W.iret (v := 0) hx hb hr (fun t ht hW => ⟨⟨0, (σ1, (vp_updL f (0 : Int32).toNatClampNeg r1.toInt64)), rfl, ⟨e9.1, e9.2⟩, by show va_P _ _ _ t.heap; rw [ht]; exact hP⟩, hS.F ht⟩) hS.2.2 d_L_fault_18
  | none =>
    rw [m_L_fault, hq] at hM
    dsimp only at hM
    cases hxm : xm_O_fault N σ a1 a2 with
    | none => rw [hxm] at hM; cases hM
    | some k =>
      rw [hxm] at hM
      dsimp only at hM
      by_cases hk0 : k = 1
      · subst hk0
        rw [if_pos rfl] at hM
        obtain ⟨x0, hx0, hx0c⟩ := tab1 htab
        refine W_callX (C := R_O) (cls := xI) (As := [.int a1, .int a2]) (rest := [.int 0, .ref qo]) ⟨hx, hb, hml, hown, hts⟩ (x_O_fault l htr dC dI ad cs _ N σ a1 a2 hxm) (cwV 2 hts (goodVW k_605 k_606 k_607 k_1 k_608) rfl rfl rfl ⟨rfl, by decide, by decide, by decide +kernel⟩ ⟨Nat.le_of_ble_eq_true rfl, Nat.le_of_ble_eq_true rfl⟩) ⟨blindZ, va_recv hK (P_left hP) rfl g_O, payZ (P_left hP) hK (D_left hD) hN hZ⟩ rfl hl.1 d_L_fault_5 (Nat.le_of_ble_eq_true rfl) ⟨Nat.le_of_ble_eq_true rfl, Nat.le_of_ble_eq_true rfl⟩ [] x0 [] hx0 (by unfold covers; rw [hx0c.1, hx0c.2.1]; decide) (by rw [hx0c.2.2.2]; decide) (by rw [hx0c.2.2.2]; exact htb _ k_423) (fun z hz => by cases hz) (fun a H hz hkp => ?_)
        rw [hx0c.2.2.1]
        have hP := hP.kept (fun k q hq => hkp q.1 (va_at.lt (hP k q hq)))
        have hS : va_S A s.heap H [] := ⟨hz, fun q h1 _ => hkp q h1, fun _ h => by cases h⟩
        refine lv_astore hx hb d_L_fault_13 hl (by decide) (lv' := [(4, .ref a), (0, .ref (ad 0 0)), (1, .int a1), (2, .int a2), (3, .ref qo)]) rfl (fun ls hl => ?_)
        refine lv_iconst (v := 1) hx hb d_L_fault_15 (by decide) ?_
        have e9 := Prod.mk.inj (Option.some.inj hM)
        exact W.iret (v := 1) hx hb hr (fun t ht hW => ⟨⟨1, (σ, f), rfl, ⟨e9.1, e9.2⟩, by show va_P _ _ _ t.heap; rw [ht]; exact hP⟩, hS.F ht⟩) hS.2.2 d_L_fault_16
      rw [if_neg hk0] at hM
      cases hM
