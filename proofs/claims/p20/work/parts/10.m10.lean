theorem d_D_isFull_0 : decode b_D_isFull 0 = .ok (.aload_n 0, 1) := by decide +kernel
theorem d_D_isFull_1 : decode b_D_isFull 1 = .ok (.getfield 23, 3) := by decide +kernel
theorem d_D_isFull_4 : decode b_D_isFull 4 = .ok (.sipush 150, 3) := by decide +kernel
theorem d_D_isFull_7 : decode b_D_isFull 7 = .ok (.if_icmp .lt 7, 3) := by decide +kernel
theorem d_D_isFull_10 : decode b_D_isFull 10 = .ok (.iconst 1, 1) := by decide +kernel
theorem d_D_isFull_11 : decode b_D_isFull 11 = .ok (.goto 4, 3) := by decide +kernel
theorem d_D_isFull_14 : decode b_D_isFull 14 = .ok (.iconst 0, 1) := by decide +kernel
theorem d_D_isFull_15 : decode b_D_isFull 15 = .ok (.ireturn, 1) := by decide +kernel
def m_D_isFull (N : Nat) (σ : SX) : Option (Int32 × SX) :=
  (if ((σ 1).1 0) < 150 then some (0, σ) else some (1, σ))

set_option maxHeartbeats 4000000 in
set_option maxRecDepth 100000 in
theorem c_D_isFull (l : Launch) (dC : Nat → ClassId) (dI : Nat → Nat → Nat) (ad : Nat → Nat → Nat) (cs : Nat → ClassId) (sz N : Nat) (σ : SX) {r0 : Int32} {σ0 : SX} (hM : m_D_isFull N σ = some (r0, σ0)) : Met l y_D_isFull (wd y_D_isFull b_D_isFull 1 (some .boolean)) ({ frames := 0, cells := 0, slots := 0, locals := 0 }) (va_Pc [.ref (ad 1 0)] (preX dC dI ad cs sz σ)) (va_Qi (fun (r : Int32) (_ : Unit) => r = r0 ∧ σ = σ0) (fun _ _ => True) (fun q => sz ≤ q)) 0 0 (fun q => sz ≤ q) := by
  refine Met.ofW (cc := b_D_isFull) (maxL := 1) (ret := (some .boolean)) (by decide) rfl ?_
  intro p e s m args below meth c s₁ B hml hv
  obtain ⟨rfl, hsz, hP, hK, hD0, hN⟩ := hv
  have hx := B.exec
  have hb := B.bytes
  have hr := B.returns
  have hts := atoms_spec (ws := (wd y_D_isFull b_D_isFull 1 (some .boolean))) B.pre
  have htb : ∀ w ∈ tb, w.before _ s = true := fun w h => hts w (List.mem_cons_of_mem _ h)
  have hown : s.vm.findClass R_D = some m.cls := findClass_of_methodNamed B.named
  have hlocks := B.notSynchronized
  subst hsz
  have hD := hD0
  have hA : ∀ q : Nat, s.heap.size ≤ q → s.heap.size ≤ q := fun q h => h
  have hS : va_S (fun q => s.heap.size ≤ q) s.heap s.heap [] := va_S.rf
  have hP : va_P (dC, dI) classes (wX ad cs σ) s.heap := hP
  have hl := lv_entry ([.ref (ad 1 0)]) (n := 1) (Nat.le_of_ble_eq_true rfl)
  rw [lg_entry_eq]
  generalize (lg_sl ([.ref (ad 1 0)]) ++ List.replicate (1 - (lg_sl ([.ref (ad 1 0)])).length) Slot.unset).toArray = ls at hl ⊢
  have hl : lv_has ls 1 [(0, .ref (ad 1 0))] := hl
  rw [m_D_isFull] at hM
  refine lv_aload_n hx hb d_D_isFull_0 rfl (lv_at hl 0 rfl) ?_
  refine va_get (D := (dC, dI)) (ci := 1) (v := .int ((σ 1).1 0)) (C := R_D) (T := F_D) (N := 5) hx hb htb in_D hown hK hP 1 (g_D) rfl 3 (by decide) (htb _ k_35) (fun _ h9 => h9) rfl d_D_isFull_1 ?_
  refine lv_sipush (v := 150) hx hb d_D_isFull_4 (by decide) ?_
  refine lv_icmp_lt (tgt := 14) hx hb d_D_isFull_7 (by decide) (fun h7 => ?_) (fun h7 => ?_)
  · rw [if_pos h7] at hM
    refine lv_iconst (v := 0) hx hb d_D_isFull_14 (by decide) ?_
    have e9 := Prod.mk.inj (Option.some.inj hM)
    exact W.zret (ty := .boolean) (v := 0) hx hb hr rfl (fun t ht hW => ⟨⟨0, (), rfl, e9, trivial⟩, hS.F ht⟩) hS.2.2 d_D_isFull_15
  · rw [if_neg h7] at hM
    refine lv_iconst (v := 1) hx hb d_D_isFull_10 (by decide) ?_
    refine lv_goto (tgt := 15) hx hb d_D_isFull_11 (by decide) ?_
    have e9 := Prod.mk.inj (Option.some.inj hM)
    exact W.zret (ty := .boolean) (v := 1) hx hb hr rfl (fun t ht hW => ⟨⟨1, (), rfl, e9, trivial⟩, hS.F ht⟩) hS.2.2 d_D_isFull_15

theorem d_D_addCard_0 : decode b_D_addCard 0 = .ok (.aload_n 0, 1) := by decide +kernel
theorem d_D_addCard_1 : decode b_D_addCard 1 = .ok (.invokevirtual 30, 3) := by decide +kernel
theorem d_D_addCard_4 : decode b_D_addCard 4 = .ok (.ifCond .eq 5, 3) := by decide +kernel
theorem d_D_addCard_7 : decode b_D_addCard 7 = .ok (.iconst (-1), 1) := by decide +kernel
theorem d_D_addCard_8 : decode b_D_addCard 8 = .ok (.ireturn, 1) := by decide +kernel
theorem d_D_addCard_9 : decode b_D_addCard 9 = .ok (.aload_n 0, 1) := by decide +kernel
theorem d_D_addCard_10 : decode b_D_addCard 10 = .ok (.getfield 11, 3) := by decide +kernel
theorem d_D_addCard_13 : decode b_D_addCard 13 = .ok (.iconst 0, 1) := by decide +kernel
theorem d_D_addCard_14 : decode b_D_addCard 14 = .ok (.aaload, 1) := by decide +kernel
theorem d_D_addCard_15 : decode b_D_addCard 15 = .ok (.aload_n 0, 1) := by decide +kernel
theorem d_D_addCard_16 : decode b_D_addCard 16 = .ok (.getfield 23, 3) := by decide +kernel
theorem d_D_addCard_19 : decode b_D_addCard 19 = .ok (.iload_n 1, 1) := by decide +kernel
theorem d_D_addCard_20 : decode b_D_addCard 20 = .ok (.iastore, 1) := by decide +kernel
theorem d_D_addCard_21 : decode b_D_addCard 21 = .ok (.aload_n 0, 1) := by decide +kernel
theorem d_D_addCard_22 : decode b_D_addCard 22 = .ok (.getfield 11, 3) := by decide +kernel
theorem d_D_addCard_25 : decode b_D_addCard 25 = .ok (.iconst 1, 1) := by decide +kernel
theorem d_D_addCard_26 : decode b_D_addCard 26 = .ok (.aaload, 1) := by decide +kernel
theorem d_D_addCard_27 : decode b_D_addCard 27 = .ok (.aload_n 0, 1) := by decide +kernel
theorem d_D_addCard_28 : decode b_D_addCard 28 = .ok (.getfield 23, 3) := by decide +kernel
theorem d_D_addCard_31 : decode b_D_addCard 31 = .ok (.iload_n 2, 1) := by decide +kernel
theorem d_D_addCard_32 : decode b_D_addCard 32 = .ok (.iastore, 1) := by decide +kernel
theorem d_D_addCard_33 : decode b_D_addCard 33 = .ok (.aload_n 0, 1) := by decide +kernel
theorem d_D_addCard_34 : decode b_D_addCard 34 = .ok (.dup, 1) := by decide +kernel
theorem d_D_addCard_35 : decode b_D_addCard 35 = .ok (.getfield 23, 3) := by decide +kernel
theorem d_D_addCard_38 : decode b_D_addCard 38 = .ok (.iconst 1, 1) := by decide +kernel
theorem d_D_addCard_39 : decode b_D_addCard 39 = .ok (.iadd, 1) := by decide +kernel
theorem d_D_addCard_40 : decode b_D_addCard 40 = .ok (.putfield 23, 3) := by decide +kernel
theorem d_D_addCard_43 : decode b_D_addCard 43 = .ok (.aload_n 0, 1) := by decide +kernel
theorem d_D_addCard_44 : decode b_D_addCard 44 = .ok (.getfield 23, 3) := by decide +kernel
theorem d_D_addCard_47 : decode b_D_addCard 47 = .ok (.iconst 1, 1) := by decide +kernel
theorem d_D_addCard_48 : decode b_D_addCard 48 = .ok (.isub, 1) := by decide +kernel
theorem d_D_addCard_49 : decode b_D_addCard 49 = .ok (.ireturn, 1) := by decide +kernel
def m_D_addCard (N : Nat) (σ : SX) (a1 : Int32) (a2 : Int32) : Option (Int32 × SX) :=
  (bI (m_D_isFull N σ) fun r1 σ1 => (if r1 = 0 then (if inb ((σ 1).1 0) 150 = true then (if inb (((w3 σ 1 1 ((σ 1).1 0) a1) 1).1 0) 150 = true then some (((((w1 (w3 (w3 σ 1 1 ((σ 1).1 0) a1) 1 2 (((w3 σ 1 1 ((σ 1).1 0) a1) 1).1 0) a2) 1 0 ((((w3 (w3 σ 1 1 ((σ 1).1 0) a1) 1 2 (((w3 σ 1 1 ((σ 1).1 0) a1) 1).1 0) a2) 1).1 0) + 1)) 1).1 0) - 1), (w1 (w3 (w3 σ 1 1 ((σ 1).1 0) a1) 1 2 (((w3 σ 1 1 ((σ 1).1 0) a1) 1).1 0) a2) 1 0 ((((w3 (w3 σ 1 1 ((σ 1).1 0) a1) 1 2 (((w3 σ 1 1 ((σ 1).1 0) a1) 1).1 0) a2) 1).1 0) + 1))) else none) else none) else some ((-1), σ)))

set_option maxHeartbeats 4000000 in
set_option maxRecDepth 100000 in
theorem c_D_addCard (l : Launch) (dC : Nat → ClassId) (dI : Nat → Nat → Nat) (ad : Nat → Nat → Nat) (cs : Nat → ClassId) (sz N : Nat) (σ : SX) (a1 : Int32) (a2 : Int32) {r0 : Int32} {σ0 : SX} (hM : m_D_addCard N σ a1 a2 = some (r0, σ0)) : Met l y_D_addCard (wd y_D_addCard b_D_addCard 3 (some .int)) ({ frames := 1, cells := 0, slots := 0, locals := 20 }) (va_Pc [.ref (ad 1 0), .int a1, .int a2] (preX dC dI ad cs sz σ)) (va_Qi (fun (r : Int32) (u : SX) => r = r0 ∧ u = σ0) (atX dC dI ad cs (va_A (wX ad cs σ) sz)) (va_A (wX ad cs σ) sz)) 0 0 (va_A (wX ad cs σ) sz) := by
  refine Met.ofW (cc := b_D_addCard) (maxL := 3) (ret := (some .int)) (by decide) rfl ?_
  intro p e s m args below meth c s₁ B hml hv
  obtain ⟨rfl, hsz, hP, hK, hD0, hN⟩ := hv
  have hx := B.exec
  have hb := B.bytes
  have hr := B.returns
  have hts := atoms_spec (ws := (wd y_D_addCard b_D_addCard 3 (some .int))) B.pre
  have htb : ∀ w ∈ tb, w.before _ s = true := fun w h => hts w (List.mem_cons_of_mem _ h)
  have hown : s.vm.findClass R_D = some m.cls := findClass_of_methodNamed B.named
  have hlocks := B.notSynchronized
  subst hsz
  have hD := hD0.self (sz := s.heap.size)
  generalize hAe : va_A (wX ad cs σ) s.heap.size = A at hD ⊢
  have hA : ∀ q : Nat, s.heap.size ≤ q → A q := fun q h => by rw [← hAe]; exact Or.inr h
  have hS : va_S A s.heap s.heap [] := va_S.rf
  have hP : va_P (dC, dI) classes (wX ad cs σ) s.heap := hP
  have hl := lv_entry ([.ref (ad 1 0), .int a1, .int a2]) (n := 3) (Nat.le_of_ble_eq_true rfl)
  rw [lg_entry_eq]
  generalize (lg_sl ([.ref (ad 1 0), .int a1, .int a2]) ++ List.replicate (3 - (lg_sl ([.ref (ad 1 0), .int a1, .int a2])).length) Slot.unset).toArray = ls at hl ⊢
  have hl : lv_has ls 3 [(0, .ref (ad 1 0)), (1, .int a1), (2, .int a2)] := hl
  rw [m_D_addCard] at hM
  refine lv_aload_n hx hb d_D_addCard_0 rfl (lv_at hl 0 rfl) ?_
  obtain ⟨x1, y1, hq1, hM⟩ := bI_some hM
  refine va_calli (va_runV (As := []) (rest := []) ⟨hx, hb, hml, hown, hts⟩ (c_D_isFull l dC dI ad cs _ N σ hq1) (cwV 0 hts (goodV k_419 k_350 k_351 k_2 k_352) rfl rfl rfl ⟨rfl, by decide, by decide, by decide +kernel⟩ ⟨Nat.le_of_ble_eq_true rfl, Nat.le_of_ble_eq_true rfl⟩) ⟨blindX, va_recv hK hP rfl (g_D), payX hP hK hD hN⟩ rfl rfl hl.1 rfl (lv_room (Nat.le_of_ble_eq_true rfl)) d_D_addCard_1 ⟨Nat.zero_le _, Nat.zero_le _⟩) hS (fun q h0 h => absurd h0 (Nat.not_lt.mpr h)) (fun q h => hA q (Nat.le_trans hS.1 h)) (fun r1 u t H locs ht hvm hpost hB hz1 hk1 hS => ?_)
  obtain ⟨e1, e2⟩ := hpost
  subst e1
  subst e2
  have hP := keepP hP hk1
  refine lv_if_eq (tgt := 9) hx hb d_D_addCard_4 (by decide) (fun h4 => ?_) (fun h4 => ?_)
  · rw [if_pos h4] at hM
    refine lv_aload_n hx hb d_D_addCard_9 rfl (lv_at hl 0 rfl) ?_
    refine va_get (D := (dC, dI)) (ci := 1) (v := .ref (ad 1 9)) (C := R_D) (T := F_D) (N := 5) hx hb htb in_D hown hK hP 1 (g_D) rfl 0 (by decide) (htb _ k_32) (fun _ h9 => h9) rfl d_D_addCard_10 ?_
    refine lv_iconst (v := 0) hx hb d_D_addCard_13 (by decide) ?_
    refine va_aldv hx hb hK hP 2 3 (f := fun i => some (ad 1 (1 + i))) g_values rfl (inb_in (by decide)) d_D_addCard_14 ?_
    refine W.eq (g2 := F0 m 15 ls [.ref (ad 1 1)]) rfl ?_
    refine lv_aload_n hx hb d_D_addCard_15 rfl (lv_at hl 0 rfl) ?_
    refine va_get (D := (dC, dI)) (ci := 1) (v := .int ((σ 1).1 0)) (C := R_D) (T := F_D) (N := 5) hx hb htb in_D hown hK hP 1 (g_D) rfl 3 (by decide) (htb _ k_35) (fun _ h9 => h9) rfl d_D_addCard_16 ?_
    refine lv_iload_n hx hb d_D_addCard_19 rfl (lv_at hl 1 rfl) ?_
    have hg20 := gd_c hM
    have hM := gd_v hM
    refine va_iast (i := ((σ 1).1 0)) (x := a1) hx hb hK hP hD hS 3 0 (g_D_a1) rfl (inb_in hg20) d_D_addCard_20 (fun H locs hP hD hS => ?_)
    have hP := P_eq (t_D_1) hP
    have hD := D_eq (t_D_1) hD
    refine lv_aload_n hx hb d_D_addCard_21 rfl (lv_at hl 0 rfl) ?_
    refine va_get (D := (dC, dI)) (ci := 1) (v := .ref (ad 1 9)) (C := R_D) (T := F_D) (N := 5) hx hb htb in_D hown hK hP 1 (g_D) rfl 0 (by decide) (htb _ k_32) (fun _ h9 => h9) rfl d_D_addCard_22 ?_
    refine lv_iconst (v := 1) hx hb d_D_addCard_25 (by decide) ?_
    refine va_aldv hx hb hK hP 2 3 (f := fun i => some (ad 1 (1 + i))) g_values rfl (inb_in (by decide)) d_D_addCard_26 ?_
    refine W.eq (g2 := F0 m 27 ls [.ref (ad 1 2)]) rfl ?_
    refine lv_aload_n hx hb d_D_addCard_27 rfl (lv_at hl 0 rfl) ?_
    refine va_get (D := (dC, dI)) (ci := 1) (v := .int (((w3 σ 1 1 ((σ 1).1 0) a1) 1).1 0)) (C := R_D) (T := F_D) (N := 5) hx hb htb in_D hown hK hP 1 (g_D) rfl 3 (by decide) (htb _ k_35) (fun _ h9 => h9) rfl d_D_addCard_28 ?_
    refine lv_iload_n hx hb d_D_addCard_31 rfl (lv_at hl 2 rfl) ?_
    have hg32 := gd_c hM
    have hM := gd_v hM
    refine va_iast (i := (((w3 σ 1 1 ((σ 1).1 0) a1) 1).1 0)) (x := a2) hx hb hK hP hD hS 4 0 (g_D_a2) rfl (inb_in hg32) d_D_addCard_32 (fun H locs hP hD hS => ?_)
    have hP := P_eq (t_D_2) hP
    have hD := D_eq (t_D_2) hD
    refine lv_aload_n hx hb d_D_addCard_33 rfl (lv_at hl 0 rfl) ?_
    refine lv_dup hx hb d_D_addCard_34 rfl ?_
    refine va_get (D := (dC, dI)) (ci := 1) (v := .int (((w3 (w3 σ 1 1 ((σ 1).1 0) a1) 1 2 (((w3 σ 1 1 ((σ 1).1 0) a1) 1).1 0) a2) 1).1 0)) (C := R_D) (T := F_D) (N := 5) hx hb htb in_D hown hK hP 1 (g_D) rfl 3 (by decide) (htb _ k_35) (fun _ h9 => h9) rfl d_D_addCard_35 ?_
    refine lv_iconst (v := 1) hx hb d_D_addCard_38 (by decide) ?_
    refine lv_iadd hx hb d_D_addCard_39 ?_
    refine va_put (D := (dC, dI)) (ci := 1) (v := .int ((((w3 (w3 σ 1 1 ((σ 1).1 0) a1) 1 2 (((w3 σ 1 1 ((σ 1).1 0) a1) 1).1 0) a2) 1).1 0) + 1)) (ty := .int) (C := R_D) (T := F_D) (N := 5) hx hb htb in_D ft_D ft_D_ok n_D hown hK hP hD hS 1 (g_D) rfl 3 (by decide) (htb _ k_35) (fun _ h9 => h9) rfl (by decide +kernel) rfl rfl (Nat.le_of_ble_eq_true rfl) d_D_addCard_40 (fun H locs hP hD hS => ?_)
    have hP := P_eq (s_D_0) hP
    have hD := D_eq (s_D_0) hD
    refine lv_aload_n hx hb d_D_addCard_43 rfl (lv_at hl 0 rfl) ?_
    refine va_get (D := (dC, dI)) (ci := 1) (v := .int (((w1 (w3 (w3 σ 1 1 ((σ 1).1 0) a1) 1 2 (((w3 σ 1 1 ((σ 1).1 0) a1) 1).1 0) a2) 1 0 ((((w3 (w3 σ 1 1 ((σ 1).1 0) a1) 1 2 (((w3 σ 1 1 ((σ 1).1 0) a1) 1).1 0) a2) 1).1 0) + 1)) 1).1 0)) (C := R_D) (T := F_D) (N := 5) hx hb htb in_D hown hK hP 1 (g_D) rfl 3 (by decide) (htb _ k_35) (fun _ h9 => h9) rfl d_D_addCard_44 ?_
    refine lv_iconst (v := 1) hx hb d_D_addCard_47 (by decide) ?_
    refine lv_isub hx hb d_D_addCard_48 ?_
    have e9 := Prod.mk.inj (Option.some.inj hM)
    exact W.iret (v := ((((w1 (w3 (w3 σ 1 1 ((σ 1).1 0) a1) 1 2 (((w3 σ 1 1 ((σ 1).1 0) a1) 1).1 0) a2) 1 0 ((((w3 (w3 σ 1 1 ((σ 1).1 0) a1) 1 2 (((w3 σ 1 1 ((σ 1).1 0) a1) 1).1 0) a2) 1).1 0) + 1)) 1).1 0) - 1)) hx hb hr (fun t ht hW => ⟨⟨((((w1 (w3 (w3 σ 1 1 ((σ 1).1 0) a1) 1 2 (((w3 σ 1 1 ((σ 1).1 0) a1) 1).1 0) a2) 1 0 ((((w3 (w3 σ 1 1 ((σ 1).1 0) a1) 1 2 (((w3 σ 1 1 ((σ 1).1 0) a1) 1).1 0) a2) 1).1 0) + 1)) 1).1 0) - 1), (w1 (w3 (w3 σ 1 1 ((σ 1).1 0) a1) 1 2 (((w3 σ 1 1 ((σ 1).1 0) a1) 1).1 0) a2) 1 0 ((((w3 (w3 σ 1 1 ((σ 1).1 0) a1) 1 2 (((w3 σ 1 1 ((σ 1).1 0) a1) 1).1 0) a2) 1).1 0) + 1)), rfl, e9, by rw [ht]; exact hP, va_K.moved hW.alike hK, hD⟩, hS.F ht⟩) hS.2.2 d_D_addCard_49
  · rw [if_neg h4] at hM
    refine lv_iconst (v := (-1)) hx hb d_D_addCard_7 (by decide) ?_
    have e9 := Prod.mk.inj (Option.some.inj hM)
    exact W.iret (v := (-1)) hx hb hr (fun t ht hW => ⟨⟨(-1), σ, rfl, e9, by rw [ht]; exact hP, va_K.moved hW.alike hK, hD⟩, hS.F ht⟩) hS.2.2 d_D_addCard_8

theorem d_O_card_0 : decode b_O_card 0 = .ok (.aload_n 0, 1) := by decide +kernel
theorem d_O_card_1 : decode b_O_card 1 = .ok (.getfield 53, 3) := by decide +kernel
theorem d_O_card_4 : decode b_O_card 4 = .ok (.ifCond .ne 13, 3) := by decide +kernel
theorem d_O_card_7 : decode b_O_card 7 = .ok (.aload_n 0, 1) := by decide +kernel
theorem d_O_card_8 : decode b_O_card 8 = .ok (.getfield 10, 3) := by decide +kernel
theorem d_O_card_11 : decode b_O_card 11 = .ok (.invokevirtual 73, 3) := by decide +kernel
theorem d_O_card_14 : decode b_O_card 14 = .ok (.ifCond .eq 11, 3) := by decide +kernel
theorem d_O_card_17 : decode b_O_card 17 = .ok (.new 77, 3) := by decide +kernel
theorem d_O_card_20 : decode b_O_card 20 = .ok (.dup, 1) := by decide +kernel
theorem d_O_card_21 : decode b_O_card 21 = .ok (.invokespecial 79, 3) := by decide +kernel
theorem d_O_card_24 : decode b_O_card 24 = .ok (.athrow, 1) := by decide +kernel
theorem d_O_card_25 : decode b_O_card 25 = .ok (.aload_n 0, 1) := by decide +kernel
theorem d_O_card_26 : decode b_O_card 26 = .ok (.getfield 10, 3) := by decide +kernel
theorem d_O_card_29 : decode b_O_card 29 = .ok (.iload_n 1, 1) := by decide +kernel
theorem d_O_card_30 : decode b_O_card 30 = .ok (.iload_n 2, 1) := by decide +kernel
theorem d_O_card_31 : decode b_O_card 31 = .ok (.invokevirtual 80, 3) := by decide +kernel
theorem d_O_card_34 : decode b_O_card 34 = .ok (.ireturn, 1) := by decide +kernel
def m_O_card (N : Nat) (σ : SX) (a1 : Int32) (a2 : Int32) : Option (Int32 × SX) :=
  (if ((σ 0).1 0) = 0 then (bI (m_D_isFull N σ) fun r11 σ11 => (if r11 = 0 then (bI (m_D_addCard N σ a1 a2) fun r31 σ31 => some (r31, σ31)) else none)) else none)

set_option maxHeartbeats 4000000 in
set_option maxRecDepth 100000 in
theorem c_O_card (l : Launch) (dC : Nat → ClassId) (dI : Nat → Nat → Nat) (ad : Nat → Nat → Nat) (cs : Nat → ClassId) (sz N : Nat) (σ : SX) (a1 : Int32) (a2 : Int32) {r0 : Int32} {σ0 : SX} (hM : m_O_card N σ a1 a2 = some (r0, σ0)) : Met l y_O_card (wd y_O_card b_O_card 3 (some .int)) ({ frames := 2, cells := 0, slots := 0, locals := 42 }) (va_Pc [.ref (ad 0 0), .int a1, .int a2] (preX dC dI ad cs sz σ)) (va_Qi (fun (r : Int32) (u : SX) => r = r0 ∧ u = σ0) (atX dC dI ad cs (va_A (wX ad cs σ) sz)) (va_A (wX ad cs σ) sz)) 0 0 (va_A (wX ad cs σ) sz) := by
  refine Met.ofW (cc := b_O_card) (maxL := 3) (ret := (some .int)) (by decide) rfl ?_
  intro p e s m args below meth c s₁ B hml hv
  obtain ⟨rfl, hsz, hP, hK, hD0, hN⟩ := hv
  have hx := B.exec
  have hb := B.bytes
  have hr := B.returns
  have hts := atoms_spec (ws := (wd y_O_card b_O_card 3 (some .int))) B.pre
  have htb : ∀ w ∈ tb, w.before _ s = true := fun w h => hts w (List.mem_cons_of_mem _ h)
  have hown : s.vm.findClass R_O = some m.cls := findClass_of_methodNamed B.named
  have hlocks := B.notSynchronized
  subst hsz
  have hD := hD0.self (sz := s.heap.size)
  generalize hAe : va_A (wX ad cs σ) s.heap.size = A at hD ⊢
  have hA : ∀ q : Nat, s.heap.size ≤ q → A q := fun q h => by rw [← hAe]; exact Or.inr h
  have hS : va_S A s.heap s.heap [] := va_S.rf
  have hP : va_P (dC, dI) classes (wX ad cs σ) s.heap := hP
  have hl := lv_entry ([.ref (ad 0 0), .int a1, .int a2]) (n := 3) (Nat.le_of_ble_eq_true rfl)
  rw [lg_entry_eq]
  generalize (lg_sl ([.ref (ad 0 0), .int a1, .int a2]) ++ List.replicate (3 - (lg_sl ([.ref (ad 0 0), .int a1, .int a2])).length) Slot.unset).toArray = ls at hl ⊢
  have hl : lv_has ls 3 [(0, .ref (ad 0 0)), (1, .int a1), (2, .int a2)] := hl
  rw [m_O_card] at hM
  refine lv_aload_n hx hb d_O_card_0 rfl (lv_at hl 0 rfl) ?_
  refine va_get (D := (dC, dI)) (ci := 0) (v := .int ((σ 0).1 0)) (C := R_O) (T := F_O) (N := 12) hx hb htb in_O hown hK hP 0 (g_O) rfl 10 (by decide) (htb _ k_158) (fun _ h9 => h9) rfl d_O_card_1 ?_
  refine lv_if_ne (tgt := 17) hx hb d_O_card_4 (by decide) (fun h4 => ?_) (fun h4 => ?_)
  · rw [if_neg h4] at hM
    cases hM
  · rw [if_pos h4] at hM
    refine lv_aload_n hx hb d_O_card_7 rfl (lv_at hl 0 rfl) ?_
    refine va_get (D := (dC, dI)) (ci := 0) (v := .ref (ad 1 0)) (C := R_O) (T := F_O) (N := 12) hx hb htb in_O hown hK hP 0 (g_O) rfl 0 (by decide) (htb _ k_148) (fun _ h9 => h9) rfl d_O_card_8 ?_
    obtain ⟨x11, y11, hq11, hM⟩ := bI_some hM
    refine va_calli (va_runV (As := []) (rest := []) ⟨hx, hb, hml, hown, hts⟩ (c_D_isFull l dC dI ad cs _ N σ hq11) (cwV 0 hts (goodV k_349 k_350 k_351 k_2 k_352) rfl rfl rfl ⟨rfl, by decide, by decide, by decide +kernel⟩ ⟨Nat.le_of_ble_eq_true rfl, Nat.le_of_ble_eq_true rfl⟩) ⟨blindX, va_recv hK hP rfl (g_D), payX hP hK hD hN⟩ rfl rfl hl.1 rfl (lv_room (Nat.le_of_ble_eq_true rfl)) d_O_card_11 ⟨Nat.zero_le _, Nat.zero_le _⟩) hS (fun q h0 h => absurd h0 (Nat.not_lt.mpr h)) (fun q h => hA q (Nat.le_trans hS.1 h)) (fun r11 u t H locs ht hvm hpost hB hz1 hk1 hS => ?_)
    obtain ⟨e1, e2⟩ := hpost
    subst e1
    subst e2
    have hP := keepP hP hk1
    refine lv_if_eq (tgt := 25) hx hb d_O_card_14 (by decide) (fun h14 => ?_) (fun h14 => ?_)
    · rw [if_pos h14] at hM
      refine lv_aload_n hx hb d_O_card_25 rfl (lv_at hl 0 rfl) ?_
      refine va_get (D := (dC, dI)) (ci := 0) (v := .ref (ad 1 0)) (C := R_O) (T := F_O) (N := 12) hx hb htb in_O hown hK hP 0 (g_O) rfl 0 (by decide) (htb _ k_148) (fun _ h9 => h9) rfl d_O_card_26 ?_
      refine lv_iload_n hx hb d_O_card_29 rfl (lv_at hl 1 rfl) ?_
      refine lv_iload_n hx hb d_O_card_30 rfl (lv_at hl 2 rfl) ?_
      have hF1 := free_all hD hS hA
      obtain ⟨x31, y31, hq31, hM⟩ := bI_some hM
      refine va_calli (va_runV (As := [.int a1, .int a2]) (rest := []) ⟨hx, hb, hml, hown, hts⟩ (c_D_addCard l dC dI ad cs _ N σ a1 a2 hq31) (cwV 2 hts (goodV k_415 k_416 k_417 k_2 k_418) rfl rfl rfl ⟨rfl, by decide, by decide, by decide +kernel⟩ ⟨Nat.le_of_ble_eq_true rfl, Nat.le_of_ble_eq_true rfl⟩) ⟨blindX, va_recv hK hP rfl (g_D), payX hP hK hD hN⟩ rfl rfl hl.1 rfl (lv_room (Nat.le_of_ble_eq_true rfl)) d_O_card_31 ⟨Nat.zero_le _, Nat.zero_le _⟩) hS (fun q _ h => hF1 q h) hF1 (fun r31 σ31 t H locs ht hvm hpost hB hz1 hk1 hS => ?_)
      obtain ⟨e1, e2⟩ := hpost
      subst e1
      subst e2
      obtain ⟨hP1, hK1, hD1⟩ := hB
      rw [ht] at hP1
      have hP := hP1
      have hD := hD1.weaken (fun _ _ _ h => hF1 _ h)
      have e9 := Prod.mk.inj (Option.some.inj hM)
      exact W.iret (v := r31) hx hb hr (fun t ht hW => ⟨⟨r31, σ31, rfl, e9, by rw [ht]; exact hP, va_K.moved hW.alike hK, hD⟩, hS.F ht⟩) hS.2.2 d_O_card_34
    · rw [if_neg h14] at hM
      cases hM

theorem d_O_isField_0 : decode b_O_isField 0 = .ok (.iload_n 0, 1) := by decide +kernel
theorem d_O_isField_1 : decode b_O_isField 1 = .ok (.ifCond .lt 12, 3) := by decide +kernel
theorem d_O_isField_4 : decode b_O_isField 4 = .ok (.iload_n 0, 1) := by decide +kernel
theorem d_O_isField_5 : decode b_O_isField 5 = .ok (.iconst 2, 1) := by decide +kernel
theorem d_O_isField_6 : decode b_O_isField 6 = .ok (.if_icmp .ge 7, 3) := by decide +kernel
theorem d_O_isField_9 : decode b_O_isField 9 = .ok (.iconst 1, 1) := by decide +kernel
theorem d_O_isField_10 : decode b_O_isField 10 = .ok (.goto 4, 3) := by decide +kernel
theorem d_O_isField_13 : decode b_O_isField 13 = .ok (.iconst 0, 1) := by decide +kernel
theorem d_O_isField_14 : decode b_O_isField 14 = .ok (.ireturn, 1) := by decide +kernel
def m_O_isField (a0 : Int32) : Option Int32 :=
  (if a0 < 0 then some 0 else (if 2 ≤ a0 then some 0 else some 1))

set_option maxHeartbeats 4000000 in
set_option maxRecDepth 100000 in
theorem c_O_isField (l : Launch) (sz : Nat) (a0 : Int32) {r0 : Int32} (hM : m_O_isField a0 = some r0) : Met l y_O_isField (wd y_O_isField b_O_isField 1 (some .boolean)) ({ frames := 0, cells := 0, slots := 0, locals := 0 }) (va_Pc [.int a0] (fun U => U.heap.size = sz)) (va_Qi (fun (r : Int32) (_ : Unit) => r = r0) (fun _ _ => True) (fun q => sz ≤ q)) 0 0 (fun q => sz ≤ q) := by
  refine Met.ofW (cc := b_O_isField) (maxL := 1) (ret := (some .boolean)) (by decide) rfl ?_
  intro p e s m args below meth c s₁ B hml hv
  obtain ⟨rfl, hsz⟩ := hv
  have hx := B.exec
  have hb := B.bytes
  have hr := B.returns
  have hts := atoms_spec (ws := (wd y_O_isField b_O_isField 1 (some .boolean))) B.pre
  have htb : ∀ w ∈ tb, w.before _ s = true := fun w h => hts w (List.mem_cons_of_mem _ h)
  have hown : s.vm.findClass R_O = some m.cls := findClass_of_methodNamed B.named
  have hlocks := B.notSynchronized
  subst hsz
  have hS : va_S (fun q => s.heap.size ≤ q) s.heap s.heap [] := va_S.rf
  have hA : ∀ q : Nat, s.heap.size ≤ q → s.heap.size ≤ q := fun q h => h
  have hl := lv_entry ([.int a0]) (n := 1) (Nat.le_of_ble_eq_true rfl)
  rw [lg_entry_eq]
  generalize (lg_sl ([.int a0]) ++ List.replicate (1 - (lg_sl ([.int a0])).length) Slot.unset).toArray = ls at hl ⊢
  have hl : lv_has ls 1 [(0, .int a0)] := hl
  rw [m_O_isField] at hM
  refine lv_iload_n hx hb d_O_isField_0 rfl (lv_at hl 0 rfl) ?_
  refine lv_if_lt (tgt := 13) hx hb d_O_isField_1 (by decide) (fun h1 => ?_) (fun h1 => ?_)
  · rw [if_pos h1] at hM
    refine lv_iconst (v := 0) hx hb d_O_isField_13 (by decide) ?_
    have e9 := Option.some.inj hM
    exact W.zret (ty := .boolean) (v := 0) hx hb hr rfl (fun t ht hW => ⟨⟨0, (), rfl, e9, trivial⟩, hS.F ht⟩) hS.2.2 d_O_isField_14
  · rw [if_neg h1] at hM
    refine lv_iload_n hx hb d_O_isField_4 rfl (lv_at hl 0 rfl) ?_
    refine lv_iconst (v := 2) hx hb d_O_isField_5 (by decide) ?_
    refine lv_icmp_ge (tgt := 13) hx hb d_O_isField_6 (by decide) (fun h6 => ?_) (fun h6 => ?_)
    · rw [if_pos h6] at hM
      refine lv_iconst (v := 0) hx hb d_O_isField_13 (by decide) ?_
      have e9 := Option.some.inj hM
      exact W.zret (ty := .boolean) (v := 0) hx hb hr rfl (fun t ht hW => ⟨⟨0, (), rfl, e9, trivial⟩, hS.F ht⟩) hS.2.2 d_O_isField_14
    · rw [if_neg h6] at hM
      refine lv_iconst (v := 1) hx hb d_O_isField_9 (by decide) ?_
      refine lv_goto (tgt := 14) hx hb d_O_isField_10 (by decide) ?_
      have e9 := Option.some.inj hM
      exact W.zret (ty := .boolean) (v := 1) hx hb hr rfl (fun t ht hW => ⟨⟨1, (), rfl, e9, trivial⟩, hS.F ht⟩) hS.2.2 d_O_isField_14

theorem d_D_keyIsFull_0 : decode b_D_keyIsFull 0 = .ok (.aload_n 0, 1) := by decide +kernel
theorem d_D_keyIsFull_1 : decode b_D_keyIsFull 1 = .ok (.getfield 27, 3) := by decide +kernel
theorem d_D_keyIsFull_4 : decode b_D_keyIsFull 4 = .ok (.iconst 3, 1) := by decide +kernel
theorem d_D_keyIsFull_5 : decode b_D_keyIsFull 5 = .ok (.if_icmp .lt 7, 3) := by decide +kernel
theorem d_D_keyIsFull_8 : decode b_D_keyIsFull 8 = .ok (.iconst 1, 1) := by decide +kernel
theorem d_D_keyIsFull_9 : decode b_D_keyIsFull 9 = .ok (.goto 4, 3) := by decide +kernel
theorem d_D_keyIsFull_12 : decode b_D_keyIsFull 12 = .ok (.iconst 0, 1) := by decide +kernel
theorem d_D_keyIsFull_13 : decode b_D_keyIsFull 13 = .ok (.ireturn, 1) := by decide +kernel
def m_D_keyIsFull (N : Nat) (σ : SX) : Option (Int32 × SX) :=
  (if ((σ 1).1 1) < 3 then some (0, σ) else some (1, σ))

set_option maxHeartbeats 4000000 in
set_option maxRecDepth 100000 in
theorem c_D_keyIsFull (l : Launch) (dC : Nat → ClassId) (dI : Nat → Nat → Nat) (ad : Nat → Nat → Nat) (cs : Nat → ClassId) (sz N : Nat) (σ : SX) {r0 : Int32} {σ0 : SX} (hM : m_D_keyIsFull N σ = some (r0, σ0)) : Met l y_D_keyIsFull (wd y_D_keyIsFull b_D_keyIsFull 1 (some .boolean)) ({ frames := 0, cells := 0, slots := 0, locals := 0 }) (va_Pc [.ref (ad 1 0)] (preX dC dI ad cs sz σ)) (va_Qi (fun (r : Int32) (_ : Unit) => r = r0 ∧ σ = σ0) (fun _ _ => True) (fun q => sz ≤ q)) 0 0 (fun q => sz ≤ q) := by
  refine Met.ofW (cc := b_D_keyIsFull) (maxL := 1) (ret := (some .boolean)) (by decide) rfl ?_
  intro p e s m args below meth c s₁ B hml hv
  obtain ⟨rfl, hsz, hP, hK, hD0, hN⟩ := hv
  have hx := B.exec
  have hb := B.bytes
  have hr := B.returns
  have hts := atoms_spec (ws := (wd y_D_keyIsFull b_D_keyIsFull 1 (some .boolean))) B.pre
  have htb : ∀ w ∈ tb, w.before _ s = true := fun w h => hts w (List.mem_cons_of_mem _ h)
  have hown : s.vm.findClass R_D = some m.cls := findClass_of_methodNamed B.named
  have hlocks := B.notSynchronized
  subst hsz
  have hD := hD0
  have hA : ∀ q : Nat, s.heap.size ≤ q → s.heap.size ≤ q := fun q h => h
  have hS : va_S (fun q => s.heap.size ≤ q) s.heap s.heap [] := va_S.rf
  have hP : va_P (dC, dI) classes (wX ad cs σ) s.heap := hP
  have hl := lv_entry ([.ref (ad 1 0)]) (n := 1) (Nat.le_of_ble_eq_true rfl)
  rw [lg_entry_eq]
  generalize (lg_sl ([.ref (ad 1 0)]) ++ List.replicate (1 - (lg_sl ([.ref (ad 1 0)])).length) Slot.unset).toArray = ls at hl ⊢
  have hl : lv_has ls 1 [(0, .ref (ad 1 0))] := hl
  rw [m_D_keyIsFull] at hM
  refine lv_aload_n hx hb d_D_keyIsFull_0 rfl (lv_at hl 0 rfl) ?_
  refine va_get (D := (dC, dI)) (ci := 1) (v := .int ((σ 1).1 1)) (C := R_D) (T := F_D) (N := 5) hx hb htb in_D hown hK hP 1 (g_D) rfl 4 (by decide) (htb _ k_36) (fun _ h9 => h9) rfl d_D_keyIsFull_1 ?_
  refine lv_iconst (v := 3) hx hb d_D_keyIsFull_4 (by decide) ?_
  refine lv_icmp_lt (tgt := 12) hx hb d_D_keyIsFull_5 (by decide) (fun h5 => ?_) (fun h5 => ?_)
  · rw [if_pos h5] at hM
    refine lv_iconst (v := 0) hx hb d_D_keyIsFull_12 (by decide) ?_
    have e9 := Prod.mk.inj (Option.some.inj hM)
    exact W.zret (ty := .boolean) (v := 0) hx hb hr rfl (fun t ht hW => ⟨⟨0, (), rfl, e9, trivial⟩, hS.F ht⟩) hS.2.2 d_D_keyIsFull_13
  · rw [if_neg h5] at hM
    refine lv_iconst (v := 1) hx hb d_D_keyIsFull_8 (by decide) ?_
    refine lv_goto (tgt := 13) hx hb d_D_keyIsFull_9 (by decide) ?_
    have e9 := Prod.mk.inj (Option.some.inj hM)
    exact W.zret (ty := .boolean) (v := 1) hx hb hr rfl (fun t ht hW => ⟨⟨1, (), rfl, e9, trivial⟩, hS.F ht⟩) hS.2.2 d_D_keyIsFull_13

theorem d_D_addPart_0 : decode b_D_addPart 0 = .ok (.aload_n 0, 1) := by decide +kernel
theorem d_D_addPart_1 : decode b_D_addPart 1 = .ok (.invokevirtual 34, 3) := by decide +kernel
theorem d_D_addPart_4 : decode b_D_addPart 4 = .ok (.ifCond .ne 33, 3) := by decide +kernel
theorem d_D_addPart_7 : decode b_D_addPart 7 = .ok (.aload_n 0, 1) := by decide +kernel
theorem d_D_addPart_8 : decode b_D_addPart 8 = .ok (.getfield 16, 3) := by decide +kernel
theorem d_D_addPart_11 : decode b_D_addPart 11 = .ok (.aload_n 0, 1) := by decide +kernel
theorem d_D_addPart_12 : decode b_D_addPart 12 = .ok (.getfield 27, 3) := by decide +kernel
theorem d_D_addPart_15 : decode b_D_addPart 15 = .ok (.iload_n 1, 1) := by decide +kernel
theorem d_D_addPart_16 : decode b_D_addPart 16 = .ok (.iastore, 1) := by decide +kernel
theorem d_D_addPart_17 : decode b_D_addPart 17 = .ok (.aload_n 0, 1) := by decide +kernel
theorem d_D_addPart_18 : decode b_D_addPart 18 = .ok (.getfield 20, 3) := by decide +kernel
theorem d_D_addPart_21 : decode b_D_addPart 21 = .ok (.aload_n 0, 1) := by decide +kernel
theorem d_D_addPart_22 : decode b_D_addPart 22 = .ok (.getfield 27, 3) := by decide +kernel
theorem d_D_addPart_25 : decode b_D_addPart 25 = .ok (.iload_n 2, 1) := by decide +kernel
theorem d_D_addPart_26 : decode b_D_addPart 26 = .ok (.iastore, 1) := by decide +kernel
theorem d_D_addPart_27 : decode b_D_addPart 27 = .ok (.aload_n 0, 1) := by decide +kernel
theorem d_D_addPart_28 : decode b_D_addPart 28 = .ok (.dup, 1) := by decide +kernel
theorem d_D_addPart_29 : decode b_D_addPart 29 = .ok (.getfield 27, 3) := by decide +kernel
theorem d_D_addPart_32 : decode b_D_addPart 32 = .ok (.iconst 1, 1) := by decide +kernel
theorem d_D_addPart_33 : decode b_D_addPart 33 = .ok (.iadd, 1) := by decide +kernel
theorem d_D_addPart_34 : decode b_D_addPart 34 = .ok (.putfield 27, 3) := by decide +kernel
theorem d_D_addPart_37 : decode b_D_addPart 37 = .ok (.aload_n 0, 1) := by decide +kernel
theorem d_D_addPart_38 : decode b_D_addPart 38 = .ok (.getfield 27, 3) := by decide +kernel
theorem d_D_addPart_41 : decode b_D_addPart 41 = .ok (.ireturn, 1) := by decide +kernel
def m_D_addPart (N : Nat) (σ : SX) (a1 : Int32) (a2 : Int32) : Option (Int32 × SX) :=
  (bI (m_D_keyIsFull N σ) fun r1 σ1 => (if r1 = 0 then (if inb ((σ 1).1 1) 3 = true then (if inb (((w3 σ 1 3 ((σ 1).1 1) a1) 1).1 1) 3 = true then some ((((w1 (w3 (w3 σ 1 3 ((σ 1).1 1) a1) 1 4 (((w3 σ 1 3 ((σ 1).1 1) a1) 1).1 1) a2) 1 1 ((((w3 (w3 σ 1 3 ((σ 1).1 1) a1) 1 4 (((w3 σ 1 3 ((σ 1).1 1) a1) 1).1 1) a2) 1).1 1) + 1)) 1).1 1), (w1 (w3 (w3 σ 1 3 ((σ 1).1 1) a1) 1 4 (((w3 σ 1 3 ((σ 1).1 1) a1) 1).1 1) a2) 1 1 ((((w3 (w3 σ 1 3 ((σ 1).1 1) a1) 1 4 (((w3 σ 1 3 ((σ 1).1 1) a1) 1).1 1) a2) 1).1 1) + 1))) else none) else none) else some (((σ 1).1 1), σ)))

set_option maxHeartbeats 4000000 in
set_option maxRecDepth 100000 in
theorem c_D_addPart (l : Launch) (dC : Nat → ClassId) (dI : Nat → Nat → Nat) (ad : Nat → Nat → Nat) (cs : Nat → ClassId) (sz N : Nat) (σ : SX) (a1 : Int32) (a2 : Int32) {r0 : Int32} {σ0 : SX} (hM : m_D_addPart N σ a1 a2 = some (r0, σ0)) : Met l y_D_addPart (wd y_D_addPart b_D_addPart 3 (some .int)) ({ frames := 1, cells := 0, slots := 0, locals := 20 }) (va_Pc [.ref (ad 1 0), .int a1, .int a2] (preX dC dI ad cs sz σ)) (va_Qi (fun (r : Int32) (u : SX) => r = r0 ∧ u = σ0) (atX dC dI ad cs (va_A (wX ad cs σ) sz)) (va_A (wX ad cs σ) sz)) 0 0 (va_A (wX ad cs σ) sz) := by
  refine Met.ofW (cc := b_D_addPart) (maxL := 3) (ret := (some .int)) (by decide) rfl ?_
  intro p e s m args below meth c s₁ B hml hv
  obtain ⟨rfl, hsz, hP, hK, hD0, hN⟩ := hv
  have hx := B.exec
  have hb := B.bytes
  have hr := B.returns
  have hts := atoms_spec (ws := (wd y_D_addPart b_D_addPart 3 (some .int))) B.pre
  have htb : ∀ w ∈ tb, w.before _ s = true := fun w h => hts w (List.mem_cons_of_mem _ h)
  have hown : s.vm.findClass R_D = some m.cls := findClass_of_methodNamed B.named
  have hlocks := B.notSynchronized
  subst hsz
  have hD := hD0.self (sz := s.heap.size)
  generalize hAe : va_A (wX ad cs σ) s.heap.size = A at hD ⊢
  have hA : ∀ q : Nat, s.heap.size ≤ q → A q := fun q h => by rw [← hAe]; exact Or.inr h
  have hS : va_S A s.heap s.heap [] := va_S.rf
  have hP : va_P (dC, dI) classes (wX ad cs σ) s.heap := hP
  have hl := lv_entry ([.ref (ad 1 0), .int a1, .int a2]) (n := 3) (Nat.le_of_ble_eq_true rfl)
  rw [lg_entry_eq]
  generalize (lg_sl ([.ref (ad 1 0), .int a1, .int a2]) ++ List.replicate (3 - (lg_sl ([.ref (ad 1 0), .int a1, .int a2])).length) Slot.unset).toArray = ls at hl ⊢
  have hl : lv_has ls 3 [(0, .ref (ad 1 0)), (1, .int a1), (2, .int a2)] := hl
  rw [m_D_addPart] at hM
  refine lv_aload_n hx hb d_D_addPart_0 rfl (lv_at hl 0 rfl) ?_
  obtain ⟨x1, y1, hq1, hM⟩ := bI_some hM
  refine va_calli (va_runV (As := []) (rest := []) ⟨hx, hb, hml, hown, hts⟩ (c_D_keyIsFull l dC dI ad cs _ N σ hq1) (cwV 0 hts (goodV k_452 k_445 k_446 k_2 k_447) rfl rfl rfl ⟨rfl, by decide, by decide, by decide +kernel⟩ ⟨Nat.le_of_ble_eq_true rfl, Nat.le_of_ble_eq_true rfl⟩) ⟨blindX, va_recv hK hP rfl (g_D), payX hP hK hD hN⟩ rfl rfl hl.1 rfl (lv_room (Nat.le_of_ble_eq_true rfl)) d_D_addPart_1 ⟨Nat.zero_le _, Nat.zero_le _⟩) hS (fun q h0 h => absurd h0 (Nat.not_lt.mpr h)) (fun q h => hA q (Nat.le_trans hS.1 h)) (fun r1 u t H locs ht hvm hpost hB hz1 hk1 hS => ?_)
  obtain ⟨e1, e2⟩ := hpost
  subst e1
  subst e2
  have hP := keepP hP hk1
  refine lv_if_ne (tgt := 37) hx hb d_D_addPart_4 (by decide) (fun h4 => ?_) (fun h4 => ?_)
  · rw [if_neg h4] at hM
    refine lv_aload_n hx hb d_D_addPart_37 rfl (lv_at hl 0 rfl) ?_
    refine va_get (D := (dC, dI)) (ci := 1) (v := .int ((σ 1).1 1)) (C := R_D) (T := F_D) (N := 5) hx hb htb in_D hown hK hP 1 (g_D) rfl 4 (by decide) (htb _ k_36) (fun _ h9 => h9) rfl d_D_addPart_38 ?_
    have e9 := Prod.mk.inj (Option.some.inj hM)
    exact W.iret (v := ((σ 1).1 1)) hx hb hr (fun t ht hW => ⟨⟨((σ 1).1 1), σ, rfl, e9, by rw [ht]; exact hP, va_K.moved hW.alike hK, hD⟩, hS.F ht⟩) hS.2.2 d_D_addPart_41
  · rw [if_pos h4] at hM
    refine lv_aload_n hx hb d_D_addPart_7 rfl (lv_at hl 0 rfl) ?_
    refine va_get (D := (dC, dI)) (ci := 1) (v := .ref (ad 1 3)) (C := R_D) (T := F_D) (N := 5) hx hb htb in_D hown hK hP 1 (g_D) rfl 1 (by decide) (htb _ k_33) (fun _ h9 => h9) rfl d_D_addPart_8 ?_
    refine lv_aload_n hx hb d_D_addPart_11 rfl (lv_at hl 0 rfl) ?_
    refine va_get (D := (dC, dI)) (ci := 1) (v := .int ((σ 1).1 1)) (C := R_D) (T := F_D) (N := 5) hx hb htb in_D hown hK hP 1 (g_D) rfl 4 (by decide) (htb _ k_36) (fun _ h9 => h9) rfl d_D_addPart_12 ?_
    refine lv_iload_n hx hb d_D_addPart_15 rfl (lv_at hl 1 rfl) ?_
    have hg16 := gd_c hM
    have hM := gd_v hM
    refine va_iast (i := ((σ 1).1 1)) (x := a1) hx hb hK hP hD hS 5 0 (g_D_a3) rfl (inb_in hg16) d_D_addPart_16 (fun H locs hP hD hS => ?_)
    have hP := P_eq (t_D_3) hP
    have hD := D_eq (t_D_3) hD
    refine lv_aload_n hx hb d_D_addPart_17 rfl (lv_at hl 0 rfl) ?_
    refine va_get (D := (dC, dI)) (ci := 1) (v := .ref (ad 1 4)) (C := R_D) (T := F_D) (N := 5) hx hb htb in_D hown hK hP 1 (g_D) rfl 2 (by decide) (htb _ k_34) (fun _ h9 => h9) rfl d_D_addPart_18 ?_
    refine lv_aload_n hx hb d_D_addPart_21 rfl (lv_at hl 0 rfl) ?_
    refine va_get (D := (dC, dI)) (ci := 1) (v := .int (((w3 σ 1 3 ((σ 1).1 1) a1) 1).1 1)) (C := R_D) (T := F_D) (N := 5) hx hb htb in_D hown hK hP 1 (g_D) rfl 4 (by decide) (htb _ k_36) (fun _ h9 => h9) rfl d_D_addPart_22 ?_
    refine lv_iload_n hx hb d_D_addPart_25 rfl (lv_at hl 2 rfl) ?_
    have hg26 := gd_c hM
    have hM := gd_v hM
    refine va_iast (i := (((w3 σ 1 3 ((σ 1).1 1) a1) 1).1 1)) (x := a2) hx hb hK hP hD hS 6 0 (g_D_a4) rfl (inb_in hg26) d_D_addPart_26 (fun H locs hP hD hS => ?_)
    have hP := P_eq (t_D_4) hP
    have hD := D_eq (t_D_4) hD
    refine lv_aload_n hx hb d_D_addPart_27 rfl (lv_at hl 0 rfl) ?_
    refine lv_dup hx hb d_D_addPart_28 rfl ?_
    refine va_get (D := (dC, dI)) (ci := 1) (v := .int (((w3 (w3 σ 1 3 ((σ 1).1 1) a1) 1 4 (((w3 σ 1 3 ((σ 1).1 1) a1) 1).1 1) a2) 1).1 1)) (C := R_D) (T := F_D) (N := 5) hx hb htb in_D hown hK hP 1 (g_D) rfl 4 (by decide) (htb _ k_36) (fun _ h9 => h9) rfl d_D_addPart_29 ?_
    refine lv_iconst (v := 1) hx hb d_D_addPart_32 (by decide) ?_
    refine lv_iadd hx hb d_D_addPart_33 ?_
    refine va_put (D := (dC, dI)) (ci := 1) (v := .int ((((w3 (w3 σ 1 3 ((σ 1).1 1) a1) 1 4 (((w3 σ 1 3 ((σ 1).1 1) a1) 1).1 1) a2) 1).1 1) + 1)) (ty := .int) (C := R_D) (T := F_D) (N := 5) hx hb htb in_D ft_D ft_D_ok n_D hown hK hP hD hS 1 (g_D) rfl 4 (by decide) (htb _ k_36) (fun _ h9 => h9) rfl (by decide +kernel) rfl rfl (Nat.le_of_ble_eq_true rfl) d_D_addPart_34 (fun H locs hP hD hS => ?_)
    have hP := P_eq (s_D_1) hP
    have hD := D_eq (s_D_1) hD
    refine lv_aload_n hx hb d_D_addPart_37 rfl (lv_at hl 0 rfl) ?_
    refine va_get (D := (dC, dI)) (ci := 1) (v := .int (((w1 (w3 (w3 σ 1 3 ((σ 1).1 1) a1) 1 4 (((w3 σ 1 3 ((σ 1).1 1) a1) 1).1 1) a2) 1 1 ((((w3 (w3 σ 1 3 ((σ 1).1 1) a1) 1 4 (((w3 σ 1 3 ((σ 1).1 1) a1) 1).1 1) a2) 1).1 1) + 1)) 1).1 1)) (C := R_D) (T := F_D) (N := 5) hx hb htb in_D hown hK hP 1 (g_D) rfl 4 (by decide) (htb _ k_36) (fun _ h9 => h9) rfl d_D_addPart_38 ?_
    have e9 := Prod.mk.inj (Option.some.inj hM)
    exact W.iret (v := (((w1 (w3 (w3 σ 1 3 ((σ 1).1 1) a1) 1 4 (((w3 σ 1 3 ((σ 1).1 1) a1) 1).1 1) a2) 1 1 ((((w3 (w3 σ 1 3 ((σ 1).1 1) a1) 1 4 (((w3 σ 1 3 ((σ 1).1 1) a1) 1).1 1) a2) 1).1 1) + 1)) 1).1 1)) hx hb hr (fun t ht hW => ⟨⟨(((w1 (w3 (w3 σ 1 3 ((σ 1).1 1) a1) 1 4 (((w3 σ 1 3 ((σ 1).1 1) a1) 1).1 1) a2) 1 1 ((((w3 (w3 σ 1 3 ((σ 1).1 1) a1) 1 4 (((w3 σ 1 3 ((σ 1).1 1) a1) 1).1 1) a2) 1).1 1) + 1)) 1).1 1), (w1 (w3 (w3 σ 1 3 ((σ 1).1 1) a1) 1 4 (((w3 σ 1 3 ((σ 1).1 1) a1) 1).1 1) a2) 1 1 ((((w3 (w3 σ 1 3 ((σ 1).1 1) a1) 1 4 (((w3 σ 1 3 ((σ 1).1 1) a1) 1).1 1) a2) 1).1 1) + 1)), rfl, e9, by rw [ht]; exact hP, va_K.moved hW.alike hK, hD⟩, hS.F ht⟩) hS.2.2 d_D_addPart_41

theorem d_O_part_0 : decode b_O_part 0 = .ok (.iload_n 1, 1) := by decide +kernel
theorem d_O_part_1 : decode b_O_part 1 = .ok (.invokestatic 84, 3) := by decide +kernel
theorem d_O_part_4 : decode b_O_part 4 = .ok (.ifCond .eq 12, 3) := by decide +kernel
theorem d_O_part_7 : decode b_O_part 7 = .ok (.iload_n 2, 1) := by decide +kernel
theorem d_O_part_8 : decode b_O_part 8 = .ok (.ifCond .lt 8, 3) := by decide +kernel
theorem d_O_part_11 : decode b_O_part 11 = .ok (.iload_n 2, 1) := by decide +kernel
theorem d_O_part_12 : decode b_O_part 12 = .ok (.iconst 4, 1) := by decide +kernel
theorem d_O_part_13 : decode b_O_part 13 = .ok (.if_icmp .lt 11, 3) := by decide +kernel
theorem d_O_part_16 : decode b_O_part 16 = .ok (.new 88, 3) := by decide +kernel
theorem d_O_part_19 : decode b_O_part 19 = .ok (.dup, 1) := by decide +kernel
theorem d_O_part_20 : decode b_O_part 20 = .ok (.invokespecial 90, 3) := by decide +kernel
theorem d_O_part_23 : decode b_O_part 23 = .ok (.athrow, 1) := by decide +kernel
theorem d_O_part_24 : decode b_O_part 24 = .ok (.aload_n 0, 1) := by decide +kernel
theorem d_O_part_25 : decode b_O_part 25 = .ok (.getfield 53, 3) := by decide +kernel
theorem d_O_part_28 : decode b_O_part 28 = .ok (.ifCond .ne 13, 3) := by decide +kernel
theorem d_O_part_31 : decode b_O_part 31 = .ok (.aload_n 0, 1) := by decide +kernel
theorem d_O_part_32 : decode b_O_part 32 = .ok (.getfield 10, 3) := by decide +kernel
theorem d_O_part_35 : decode b_O_part 35 = .ok (.invokevirtual 91, 3) := by decide +kernel
theorem d_O_part_38 : decode b_O_part 38 = .ok (.ifCond .eq 11, 3) := by decide +kernel
theorem d_O_part_41 : decode b_O_part 41 = .ok (.new 77, 3) := by decide +kernel
theorem d_O_part_44 : decode b_O_part 44 = .ok (.dup, 1) := by decide +kernel
theorem d_O_part_45 : decode b_O_part 45 = .ok (.invokespecial 79, 3) := by decide +kernel
theorem d_O_part_48 : decode b_O_part 48 = .ok (.athrow, 1) := by decide +kernel
theorem d_O_part_49 : decode b_O_part 49 = .ok (.aload_n 0, 1) := by decide +kernel
theorem d_O_part_50 : decode b_O_part 50 = .ok (.getfield 10, 3) := by decide +kernel
theorem d_O_part_53 : decode b_O_part 53 = .ok (.iload_n 1, 1) := by decide +kernel
theorem d_O_part_54 : decode b_O_part 54 = .ok (.iload_n 2, 1) := by decide +kernel
theorem d_O_part_55 : decode b_O_part 55 = .ok (.invokevirtual 94, 3) := by decide +kernel
theorem d_O_part_58 : decode b_O_part 58 = .ok (.ireturn, 1) := by decide +kernel
def m_O_part (N : Nat) (σ : SX) (a1 : Int32) (a2 : Int32) : Option (Int32 × SX) :=
  (bP (m_O_isField a1) fun r1 => (if r1 = 0 then none else (if a2 < 0 then none else (if a2 < 4 then (if ((σ 0).1 0) = 0 then (bI (m_D_keyIsFull N σ) fun r35 σ35 => (if r35 = 0 then (bI (m_D_addPart N σ a1 a2) fun r55 σ55 => some (r55, σ55)) else none)) else none) else none))))

set_option maxHeartbeats 4000000 in
set_option maxRecDepth 100000 in
theorem c_O_part (l : Launch) (dC : Nat → ClassId) (dI : Nat → Nat → Nat) (ad : Nat → Nat → Nat) (cs : Nat → ClassId) (sz N : Nat) (σ : SX) (a1 : Int32) (a2 : Int32) {r0 : Int32} {σ0 : SX} (hM : m_O_part N σ a1 a2 = some (r0, σ0)) : Met l y_O_part (wd y_O_part b_O_part 3 (some .int)) ({ frames := 2, cells := 0, slots := 0, locals := 42 }) (va_Pc [.ref (ad 0 0), .int a1, .int a2] (preX dC dI ad cs sz σ)) (va_Qi (fun (r : Int32) (u : SX) => r = r0 ∧ u = σ0) (atX dC dI ad cs (va_A (wX ad cs σ) sz)) (va_A (wX ad cs σ) sz)) 0 0 (va_A (wX ad cs σ) sz) := by
  refine Met.ofW (cc := b_O_part) (maxL := 3) (ret := (some .int)) (by decide) rfl ?_
  intro p e s m args below meth c s₁ B hml hv
  obtain ⟨rfl, hsz, hP, hK, hD0, hN⟩ := hv
  have hx := B.exec
  have hb := B.bytes
  have hr := B.returns
  have hts := atoms_spec (ws := (wd y_O_part b_O_part 3 (some .int))) B.pre
  have htb : ∀ w ∈ tb, w.before _ s = true := fun w h => hts w (List.mem_cons_of_mem _ h)
  have hown : s.vm.findClass R_O = some m.cls := findClass_of_methodNamed B.named
  have hlocks := B.notSynchronized
  subst hsz
  have hD := hD0.self (sz := s.heap.size)
  generalize hAe : va_A (wX ad cs σ) s.heap.size = A at hD ⊢
  have hA : ∀ q : Nat, s.heap.size ≤ q → A q := fun q h => by rw [← hAe]; exact Or.inr h
  have hS : va_S A s.heap s.heap [] := va_S.rf
  have hP : va_P (dC, dI) classes (wX ad cs σ) s.heap := hP
  have hl := lv_entry ([.ref (ad 0 0), .int a1, .int a2]) (n := 3) (Nat.le_of_ble_eq_true rfl)
  rw [lg_entry_eq]
  generalize (lg_sl ([.ref (ad 0 0), .int a1, .int a2]) ++ List.replicate (3 - (lg_sl ([.ref (ad 0 0), .int a1, .int a2])).length) Slot.unset).toArray = ls at hl ⊢
  have hl : lv_has ls 3 [(0, .ref (ad 0 0)), (1, .int a1), (2, .int a2)] := hl
  rw [m_O_part] at hM
  refine lv_iload_n hx hb d_O_part_0 rfl (lv_at hl 1 rfl) ?_
  obtain ⟨x1, hq1, hM⟩ := bP_some hM
  refine va_calli (va_runS (As := [.int a1]) (rest := []) ⟨hx, hb, hml, hown, hts⟩ (c_O_isField l _ a1 hq1) (cwS 1 hts (goodS k_428 k_327 k_1 k_328) rfl rfl rfl ⟨rfl, by decide, by decide, by decide +kernel⟩ ⟨Nat.le_of_ble_eq_true rfl, Nat.le_of_ble_eq_true rfl⟩) ⟨blindS, payS⟩ rfl rfl hl.1 rfl (lv_room (Nat.le_of_ble_eq_true rfl)) d_O_part_1 ⟨Nat.zero_le _, Nat.zero_le _⟩) hS (fun q h0 h => absurd h0 (Nat.not_lt.mpr h)) (fun q h => hA q (Nat.le_trans hS.1 h)) (fun r1 u t H locs ht hvm hpost hB hz1 hk1 hS => ?_)
  subst hpost
  have hP := keepP hP hk1
  refine lv_if_eq (tgt := 16) hx hb d_O_part_4 (by decide) (fun h4 => ?_) (fun h4 => ?_)
  · rw [if_pos h4] at hM
    cases hM
  · rw [if_neg h4] at hM
    refine lv_iload_n hx hb d_O_part_7 rfl (lv_at hl 2 rfl) ?_
    refine lv_if_lt (tgt := 16) hx hb d_O_part_8 (by decide) (fun h8 => ?_) (fun h8 => ?_)
    · rw [if_pos h8] at hM
      cases hM
    · rw [if_neg h8] at hM
      refine lv_iload_n hx hb d_O_part_11 rfl (lv_at hl 2 rfl) ?_
      refine lv_iconst (v := 4) hx hb d_O_part_12 (by decide) ?_
      refine lv_icmp_lt (tgt := 24) hx hb d_O_part_13 (by decide) (fun h13 => ?_) (fun h13 => ?_)
      · rw [if_pos h13] at hM
        refine lv_aload_n hx hb d_O_part_24 rfl (lv_at hl 0 rfl) ?_
        refine va_get (D := (dC, dI)) (ci := 0) (v := .int ((σ 0).1 0)) (C := R_O) (T := F_O) (N := 12) hx hb htb in_O hown hK hP 0 (g_O) rfl 10 (by decide) (htb _ k_158) (fun _ h9 => h9) rfl d_O_part_25 ?_
        refine lv_if_ne (tgt := 41) hx hb d_O_part_28 (by decide) (fun h28 => ?_) (fun h28 => ?_)
        · rw [if_neg h28] at hM
          cases hM
        · rw [if_pos h28] at hM
          refine lv_aload_n hx hb d_O_part_31 rfl (lv_at hl 0 rfl) ?_
          refine va_get (D := (dC, dI)) (ci := 0) (v := .ref (ad 1 0)) (C := R_O) (T := F_O) (N := 12) hx hb htb in_O hown hK hP 0 (g_O) rfl 0 (by decide) (htb _ k_148) (fun _ h9 => h9) rfl d_O_part_32 ?_
          obtain ⟨x35, y35, hq35, hM⟩ := bI_some hM
          refine va_calli (va_runV (As := []) (rest := []) ⟨hx, hb, hml, hown, hts⟩ (c_D_keyIsFull l dC dI ad cs _ N σ hq35) (cwV 0 hts (goodV k_444 k_445 k_446 k_2 k_447) rfl rfl rfl ⟨rfl, by decide, by decide, by decide +kernel⟩ ⟨Nat.le_of_ble_eq_true rfl, Nat.le_of_ble_eq_true rfl⟩) ⟨blindX, va_recv hK hP rfl (g_D), payX hP hK hD hN⟩ rfl rfl hl.1 rfl (lv_room (Nat.le_of_ble_eq_true rfl)) d_O_part_35 ⟨Nat.zero_le _, Nat.zero_le _⟩) hS (fun q h0 h => absurd h0 (Nat.not_lt.mpr h)) (fun q h => hA q (Nat.le_trans hS.1 h)) (fun r35 u t H locs ht hvm hpost hB hz1 hk1 hS => ?_)
          obtain ⟨e1, e2⟩ := hpost
          subst e1
          subst e2
          have hP := keepP hP hk1
          refine lv_if_eq (tgt := 49) hx hb d_O_part_38 (by decide) (fun h38 => ?_) (fun h38 => ?_)
          · rw [if_pos h38] at hM
            refine lv_aload_n hx hb d_O_part_49 rfl (lv_at hl 0 rfl) ?_
            refine va_get (D := (dC, dI)) (ci := 0) (v := .ref (ad 1 0)) (C := R_O) (T := F_O) (N := 12) hx hb htb in_O hown hK hP 0 (g_O) rfl 0 (by decide) (htb _ k_148) (fun _ h9 => h9) rfl d_O_part_50 ?_
            refine lv_iload_n hx hb d_O_part_53 rfl (lv_at hl 1 rfl) ?_
            refine lv_iload_n hx hb d_O_part_54 rfl (lv_at hl 2 rfl) ?_
            have hF1 := free_all hD hS hA
            obtain ⟨x55, y55, hq55, hM⟩ := bI_some hM
            refine va_calli (va_runV (As := [.int a1, .int a2]) (rest := []) ⟨hx, hb, hml, hown, hts⟩ (c_D_addPart l dC dI ad cs _ N σ a1 a2 hq55) (cwV 2 hts (goodV k_448 k_449 k_450 k_2 k_451) rfl rfl rfl ⟨rfl, by decide, by decide, by decide +kernel⟩ ⟨Nat.le_of_ble_eq_true rfl, Nat.le_of_ble_eq_true rfl⟩) ⟨blindX, va_recv hK hP rfl (g_D), payX hP hK hD hN⟩ rfl rfl hl.1 rfl (lv_room (Nat.le_of_ble_eq_true rfl)) d_O_part_55 ⟨Nat.zero_le _, Nat.zero_le _⟩) hS (fun q _ h => hF1 q h) hF1 (fun r55 σ55 t H locs ht hvm hpost hB hz1 hk1 hS => ?_)
            obtain ⟨e1, e2⟩ := hpost
            subst e1
            subst e2
            obtain ⟨hP1, hK1, hD1⟩ := hB
            rw [ht] at hP1
            have hP := hP1
            have hD := hD1.weaken (fun _ _ _ h => hF1 _ h)
            have e9 := Prod.mk.inj (Option.some.inj hM)
            exact W.iret (v := r55) hx hb hr (fun t ht hW => ⟨⟨r55, σ55, rfl, e9, by rw [ht]; exact hP, va_K.moved hW.alike hK, hD⟩, hS.F ht⟩) hS.2.2 d_O_part_58
          · rw [if_neg h38] at hM
            cases hM
      · rw [if_neg h13] at hM
        cases hM

theorem d_T_addDummies_0 : decode b_T_addDummies 0 = .ok (.aload_n 0, 1) := by decide +kernel
theorem d_T_addDummies_1 : decode b_T_addDummies 1 = .ok (.dup, 1) := by decide +kernel
theorem d_T_addDummies_2 : decode b_T_addDummies 2 = .ok (.getfield 25, 3) := by decide +kernel
theorem d_T_addDummies_5 : decode b_T_addDummies 5 = .ok (.iload_n 1, 1) := by decide +kernel
theorem d_T_addDummies_6 : decode b_T_addDummies 6 = .ok (.iadd, 1) := by decide +kernel
theorem d_T_addDummies_7 : decode b_T_addDummies 7 = .ok (.putfield 25, 3) := by decide +kernel
theorem d_T_addDummies_10 : decode b_T_addDummies 10 = .ok (.return_, 1) := by decide +kernel
def m_T_addDummies (N : Nat) (σ : SX) (i : Nat) (a1 : Int32) : Option (SX) :=
  some (w1 σ (7 + i) 2 (((σ (7 + i)).1 2) + a1))

set_option maxHeartbeats 4000000 in
set_option maxRecDepth 100000 in
theorem c_T_addDummies (l : Launch) (dC : Nat → ClassId) (dI : Nat → Nat → Nat) (ad : Nat → Nat → Nat) (cs : Nat → ClassId) (sz N : Nat) (σ : SX) (i : Nat) (hi : i < 4) (a1 : Int32) {σ0 : SX} (hM : m_T_addDummies N σ i a1 = some σ0) : Met l y_T_addDummies (wd y_T_addDummies b_T_addDummies 2 none) ({ frames := 0, cells := 0, slots := 0, locals := 0 }) (va_Pc [.ref (ad (7 + i) 0), .int a1] (preX dC dI ad cs sz σ)) (va_Qv (fun (u : SX) => u = σ0) (atX dC dI ad cs (va_A (wX ad cs σ) sz)) (va_A (wX ad cs σ) sz)) 0 0 (va_A (wX ad cs σ) sz) := by
  refine Met.ofW (cc := b_T_addDummies) (maxL := 2) (ret := none) (by decide) rfl ?_
  intro p e s m args below meth c s₁ B hml hv
  obtain ⟨rfl, hsz, hP, hK, hD0, hN⟩ := hv
  have hx := B.exec
  have hb := B.bytes
  have hr := B.returns
  have hts := atoms_spec (ws := (wd y_T_addDummies b_T_addDummies 2 none)) B.pre
  have htb : ∀ w ∈ tb, w.before _ s = true := fun w h => hts w (List.mem_cons_of_mem _ h)
  have hown : s.vm.findClass R_T = some m.cls := findClass_of_methodNamed B.named
  have hlocks := B.notSynchronized
  subst hsz
  have hD := hD0.self (sz := s.heap.size)
  generalize hAe : va_A (wX ad cs σ) s.heap.size = A at hD ⊢
  have hA : ∀ q : Nat, s.heap.size ≤ q → A q := fun q h => by rw [← hAe]; exact Or.inr h
  have hS : va_S A s.heap s.heap [] := va_S.rf
  have hP : va_P (dC, dI) classes (wX ad cs σ) s.heap := hP
  have hl := lv_entry ([.ref (ad (7 + i) 0), .int a1]) (n := 2) (Nat.le_of_ble_eq_true rfl)
  rw [lg_entry_eq]
  generalize (lg_sl ([.ref (ad (7 + i) 0), .int a1]) ++ List.replicate (2 - (lg_sl ([.ref (ad (7 + i) 0), .int a1])).length) Slot.unset).toArray = ls at hl ⊢
  have hl : lv_has ls 2 [(0, .ref (ad (7 + i) 0)), (1, .int a1)] := hl
  rw [m_T_addDummies] at hM
  refine lv_aload_n hx hb d_T_addDummies_0 rfl (lv_at hl 0 rfl) ?_
  refine lv_dup hx hb d_T_addDummies_1 rfl ?_
  refine va_get (D := (dC, dI)) (ci := 6) (v := .int ((σ (7 + i)).1 2)) (C := R_T) (T := F_T) (N := 6) hx hb htb in_T hown hK hP (19 + 3 * i) (g_T hi) rfl 4 (by decide) (htb _ k_133) (fun _ h9 => h9) rfl d_T_addDummies_2 ?_
  refine lv_iload_n hx hb d_T_addDummies_5 rfl (lv_at hl 1 rfl) ?_
  refine lv_iadd hx hb d_T_addDummies_6 ?_
  refine va_put (D := (dC, dI)) (ci := 6) (v := .int (((σ (7 + i)).1 2) + a1)) (ty := .int) (C := R_T) (T := F_T) (N := 6) hx hb htb in_T ft_T ft_T_ok n_T hown hK hP hD hS (19 + 3 * i) (g_T hi) rfl 4 (by decide) (htb _ k_133) (fun _ h9 => h9) rfl (by decide +kernel) rfl rfl (Nat.le_of_ble_eq_true rfl) d_T_addDummies_7 (fun H locs hP hD hS => ?_)
  have hP := P_eq (s_T_2 hi) hP
  have hD := D_eq (s_T_2 hi) hD
  have e9 := Option.some.inj hM
  exact W.vret hx hb hr (fun t ht hW => ⟨⟨(w1 σ (7 + i) 2 (((σ (7 + i)).1 2) + a1)), rfl, e9, by rw [ht]; exact hP, va_K.moved hW.alike hK, hD⟩, hS.F ht⟩) hS.2.2 d_T_addDummies_10

theorem d_P_begin_0 : decode b_P_begin 0 = .ok (.iconst 0, 1) := by decide +kernel
theorem d_P_begin_1 : decode b_P_begin 1 = .ok (.istore_n 2, 1) := by decide +kernel
theorem d_P_begin_2 : decode b_P_begin 2 = .ok (.iload_n 2, 1) := by decide +kernel
theorem d_P_begin_3 : decode b_P_begin 3 = .ok (.iconst 3, 1) := by decide +kernel
theorem d_P_begin_4 : decode b_P_begin 4 = .ok (.if_icmp .ge 23, 3) := by decide +kernel
theorem d_P_begin_7 : decode b_P_begin 7 = .ok (.aload_n 0, 1) := by decide +kernel
theorem d_P_begin_8 : decode b_P_begin 8 = .ok (.getfield 9, 3) := by decide +kernel
theorem d_P_begin_11 : decode b_P_begin 11 = .ok (.iload_n 2, 1) := by decide +kernel
theorem d_P_begin_12 : decode b_P_begin 12 = .ok (.iconst 1, 1) := by decide +kernel
theorem d_P_begin_13 : decode b_P_begin 13 = .ok (.iastore, 1) := by decide +kernel
theorem d_P_begin_14 : decode b_P_begin 14 = .ok (.aload_n 1, 1) := by decide +kernel
theorem d_P_begin_15 : decode b_P_begin 15 = .ok (.iload_n 2, 1) := by decide +kernel
theorem d_P_begin_16 : decode b_P_begin 16 = .ok (.aaload, 1) := by decide +kernel
theorem d_P_begin_17 : decode b_P_begin 17 = .ok (.iconst 1, 1) := by decide +kernel
theorem d_P_begin_18 : decode b_P_begin 18 = .ok (.invokevirtual 22, 3) := by decide +kernel
theorem d_P_begin_21 : decode b_P_begin 21 = .ok (.iinc 2 1, 3) := by decide +kernel
theorem d_P_begin_24 : decode b_P_begin 24 = .ok (.goto (-22), 3) := by decide +kernel
theorem d_P_begin_27 : decode b_P_begin 27 = .ok (.aload_n 0, 1) := by decide +kernel
theorem d_P_begin_28 : decode b_P_begin 28 = .ok (.iconst 1, 1) := by decide +kernel
theorem d_P_begin_29 : decode b_P_begin 29 = .ok (.putfield 15, 3) := by decide +kernel
theorem d_P_begin_32 : decode b_P_begin 32 = .ok (.aload_n 0, 1) := by decide +kernel
theorem d_P_begin_33 : decode b_P_begin 33 = .ok (.iconst 0, 1) := by decide +kernel
theorem d_P_begin_34 : decode b_P_begin 34 = .ok (.putfield 19, 3) := by decide +kernel
theorem d_P_begin_37 : decode b_P_begin 37 = .ok (.return_, 1) := by decide +kernel
def m_P_begin_2 (N : Nat) : Nat → SX → Int32 → Option (SX)
  | 0, _, _ => none
  | n2 + 1, σ, v2 =>
    (if 3 ≤ v2 then some (w1 (w1 σ 4 0 1) 4 1 0) else (if inb v2 3 = true then (if inb v2 4 = true then (bV (m_T_addDummies N (w3 σ 4 1 v2 1) v2.toNatClampNeg 1) fun σ18 => m_P_begin_2 N n2 σ18 (v2 + 1)) else none) else none))

def m_P_begin (N : Nat) (σ : SX) : Option (SX) :=
  m_P_begin_2 N N σ 0

set_option maxHeartbeats 4000000 in
set_option maxRecDepth 100000 in
theorem c_P_begin (l : Launch) (dC : Nat → ClassId) (dI : Nat → Nat → Nat) (ad : Nat → Nat → Nat) (cs : Nat → ClassId) (sz N : Nat) (σ : SX) {σ0 : SX} (hM : m_P_begin N σ = some σ0) : Met l y_P_begin (wd y_P_begin b_P_begin 3 none) ({ frames := 1, cells := 0, slots := 0, locals := 21 }) (va_Pc [.ref (ad 4 0), .ref (ad 0 9)] (preX dC dI ad cs sz σ)) (va_Qv (fun (u : SX) => u = σ0) (atX dC dI ad cs (va_A (wX ad cs σ) sz)) (va_A (wX ad cs σ) sz)) 0 0 (va_A (wX ad cs σ) sz) := by
  refine Met.ofW (cc := b_P_begin) (maxL := 3) (ret := none) (by decide) rfl ?_
  intro p e s m args below meth c s₁ B hml hv
  obtain ⟨rfl, hsz, hP, hK, hD0, hN⟩ := hv
  have hx := B.exec
  have hb := B.bytes
  have hr := B.returns
  have hts := atoms_spec (ws := (wd y_P_begin b_P_begin 3 none)) B.pre
  have htb : ∀ w ∈ tb, w.before _ s = true := fun w h => hts w (List.mem_cons_of_mem _ h)
  have hown : s.vm.findClass R_P = some m.cls := findClass_of_methodNamed B.named
  have hlocks := B.notSynchronized
  subst hsz
  have hD := hD0.self (sz := s.heap.size)
  generalize hAe : va_A (wX ad cs σ) s.heap.size = A at hD ⊢
  have hA : ∀ q : Nat, s.heap.size ≤ q → A q := fun q h => by rw [← hAe]; exact Or.inr h
  have hS : va_S A s.heap s.heap [] := va_S.rf
  have hP : va_P (dC, dI) classes (wX ad cs σ) s.heap := hP
  have hl := lv_entry ([.ref (ad 4 0), .ref (ad 0 9)]) (n := 3) (Nat.le_of_ble_eq_true rfl)
  rw [lg_entry_eq]
  generalize (lg_sl ([.ref (ad 4 0), .ref (ad 0 9)]) ++ List.replicate (3 - (lg_sl ([.ref (ad 4 0), .ref (ad 0 9)])).length) Slot.unset).toArray = ls at hl ⊢
  have hl : lv_has ls 3 [(0, .ref (ad 4 0)), (1, .ref (ad 0 9))] := hl
  rw [m_P_begin] at hM
  refine W_loop (pc := 2) (fun n2 H locs ls st => ∃ (σ : SX) (v2 : Int32), st = [] ∧ m_P_begin_2 N n2 σ v2 = some σ0 ∧ lv_has ls 3 [(0, .ref (ad 4 0)), (1, .ref (ad 0 9)), (2, .int v2)] ∧ va_P (dC, dI) classes (wX ad cs σ) H ∧ va_D A (wX ad cs σ) ∧ va_S A s.heap H locs) ?_ ?_ ?_
  · rintro H locs ls st ⟨σ, v2, -, hM, -⟩
    rw [m_P_begin_2] at hM; cases hM
  · intro n2 K2 H locs ls st hI
    obtain ⟨σ, v2, rfl, hM, hl, hP, hD, hS⟩ := hI
    rw [m_P_begin_2] at hM
    refine lv_iload_n hx hb d_P_begin_2 rfl (lv_at hl 2 rfl) ?_
    refine lv_iconst (v := 3) hx hb d_P_begin_3 (by decide) ?_
    refine lv_icmp_ge (tgt := 27) hx hb d_P_begin_4 (by decide) (fun h4 => ?_) (fun h4 => ?_)
    · rw [if_pos h4] at hM
      refine lv_aload_n hx hb d_P_begin_27 rfl (lv_at hl 0 rfl) ?_
      refine lv_iconst (v := 1) hx hb d_P_begin_28 (by decide) ?_
      refine va_put (D := (dC, dI)) (ci := 3) (v := .int 1) (ty := .int) (C := R_P) (T := F_P) (N := 3) hx hb htb in_P ft_P ft_P_ok n_P hown hK hP hD hS 13 (g_P) rfl 1 (by decide) (htb _ k_56) (fun _ h9 => h9) rfl (by decide +kernel) rfl rfl (Nat.le_of_ble_eq_true rfl) d_P_begin_29 (fun H locs hP hD hS => ?_)
      have hP := P_eq (s_P_0) hP
      have hD := D_eq (s_P_0) hD
      refine lv_aload_n hx hb d_P_begin_32 rfl (lv_at hl 0 rfl) ?_
      refine lv_iconst (v := 0) hx hb d_P_begin_33 (by decide) ?_
      refine va_put (D := (dC, dI)) (ci := 3) (v := .int 0) (ty := .int) (C := R_P) (T := F_P) (N := 3) hx hb htb in_P ft_P ft_P_ok n_P hown hK hP hD hS 13 (g_P) rfl 2 (by decide) (htb _ k_57) (fun _ h9 => h9) rfl (by decide +kernel) rfl rfl (Nat.le_of_ble_eq_true rfl) d_P_begin_34 (fun H locs hP hD hS => ?_)
      have hP := P_eq (s_P_1) hP
      have hD := D_eq (s_P_1) hD
      have e9 := Option.some.inj hM
      exact W.vret hx hb hr (fun t ht hW => ⟨⟨(w1 (w1 σ 4 0 1) 4 1 0), rfl, e9, by rw [ht]; exact hP, va_K.moved hW.alike hK, hD⟩, hS.F ht⟩) hS.2.2 d_P_begin_37
    · rw [if_neg h4] at hM
      refine lv_aload_n hx hb d_P_begin_7 rfl (lv_at hl 0 rfl) ?_
      refine va_get (D := (dC, dI)) (ci := 3) (v := .ref (ad 4 1)) (C := R_P) (T := F_P) (N := 3) hx hb htb in_P hown hK hP 13 (g_P) rfl 0 (by decide) (htb _ k_55) (fun _ h9 => h9) rfl d_P_begin_8 ?_
      refine lv_iload_n hx hb d_P_begin_11 rfl (lv_at hl 2 rfl) ?_
      refine lv_iconst (v := 1) hx hb d_P_begin_12 (by decide) ?_
      have hg13 := gd_c hM
      have hM := gd_v hM
      refine va_iast (i := v2) (x := 1) hx hb hK hP hD hS 14 0 (g_P_a1) rfl (inb_in hg13) d_P_begin_13 (fun H locs hP hD hS => ?_)
      have hP := P_eq (t_P_1) hP
      have hD := D_eq (t_P_1) hD
      refine lv_aload_n hx hb d_P_begin_14 rfl (lv_at hl 1 rfl) ?_
      refine lv_iload_n hx hb d_P_begin_15 rfl (lv_at hl 2 rfl) ?_
      have hg16 := gd_c hM
      have hM := gd_v hM
      refine va_aldq hx hb hK hP 18 2 (f := fun i => some (ad (7 + i) 0)) g_tapes rfl (inb_in hg16) d_P_begin_16 ?_
      refine W.eq (g2 := F0 m 17 ls [.ref (ad (7 + v2.toNatClampNeg) 0)]) rfl ?_
      refine lv_iconst (v := 1) hx hb d_P_begin_17 (by decide) ?_
      have hF1 := free_all hD hS hA
      obtain ⟨y18, hq18, hM⟩ := bV_some hM
      refine va_callv (va_runV (As := [.int 1]) (rest := []) ⟨hx, hb, hml, hown, hts⟩ (c_T_addDummies l dC dI ad cs _ N (w3 σ 4 1 v2 1) v2.toNatClampNeg (inb_lt hg16) 1 hq18) (cwV 1 hts (goodV k_464 k_465 k_466 k_7 k_467) rfl rfl rfl ⟨rfl, by decide, by decide, by decide +kernel⟩ ⟨Nat.le_of_ble_eq_true rfl, Nat.le_of_ble_eq_true rfl⟩) ⟨blindX, va_recv hK hP rfl (g_T (inb_lt hg16)), payX hP hK hD hN⟩ rfl rfl hl.1 rfl (lv_room (Nat.le_of_ble_eq_true rfl)) d_P_begin_18 ⟨Nat.zero_le _, Nat.zero_le _⟩) hS (fun q _ h => hF1 q h) hF1 (fun σ18 t H locs ht hvm hpost hB hz1 hk1 hS => ?_)
      subst hpost
      obtain ⟨hP1, hK1, hD1⟩ := hB
      rw [ht] at hP1
      have hP := hP1
      have hD := hD1.weaken (fun _ _ _ h => hF1 _ h)
      refine lv_iinc (k := 2) (v := (v2 + 1)) hx hb d_P_begin_21 hl rfl rfl (by decide) (lv' := [(2, .int (v2 + 1)), (0, .ref (ad 4 0)), (1, .ref (ad 0 9))]) rfl (fun ls hl => ?_)
      refine lv_goto (tgt := 2) hx hb d_P_begin_24 (by decide) ?_
      exact K2 _ _ _ _ ⟨σ18, (v2 + 1), rfl, hM, lv_sub hl [1, 2, 0] rfl, hP, hD, hS⟩
  intro K2
  refine lv_iconst (v := 0) hx hb d_P_begin_0 (by decide) ?_
  refine lv_istore_n hx hb d_P_begin_1 rfl hl (by decide) (lv' := [(2, .int 0), (0, .ref (ad 4 0)), (1, .ref (ad 0 9))]) rfl (fun ls hl => ?_)
  exact K2 N _ _ _ _ ⟨σ, 0, rfl, hM, lv_sub hl [1, 2, 0] rfl, hP, hD, hS⟩
