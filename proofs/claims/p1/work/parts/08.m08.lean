theorem d_O_at_0 : decode b_O_at 0 = .ok (.iload_n 1, 1) := by decide +kernel
theorem d_O_at_1 : decode b_O_at 1 = .ok (.invokestatic 127, 3) := by decide +kernel
theorem d_O_at_4 : decode b_O_at 4 = .ok (.ifCond .eq 17, 3) := by decide +kernel
theorem d_O_at_7 : decode b_O_at 7 = .ok (.aload_n 0, 1) := by decide +kernel
theorem d_O_at_8 : decode b_O_at 8 = .ok (.getfield 39, 3) := by decide +kernel
theorem d_O_at_11 : decode b_O_at 11 = .ok (.iload_n 1, 1) := by decide +kernel
theorem d_O_at_12 : decode b_O_at 12 = .ok (.aaload, 1) := by decide +kernel
theorem d_O_at_13 : decode b_O_at 13 = .ok (.iload_n 2, 1) := by decide +kernel
theorem d_O_at_14 : decode b_O_at 14 = .ok (.iload_n 3, 1) := by decide +kernel
theorem d_O_at_15 : decode b_O_at 15 = .ok (.invokevirtual 152, 3) := by decide +kernel
theorem d_O_at_18 : decode b_O_at 18 = .ok (.goto 4, 3) := by decide +kernel
theorem d_O_at_21 : decode b_O_at 21 = .ok (.iconst (-1), 1) := by decide +kernel
theorem d_O_at_22 : decode b_O_at 22 = .ok (.ireturn, 1) := by decide +kernel
def m_O_at (N : Nat) (σ : SX) (a1 : Int32) (a2 : Int32) (a3 : Int32) : Option (Int32 × SX) :=
  (bP (m_O_isTape a1) fun r1 => (if r1 = 0 then some ((-1), σ) else (if inb a1 4 = true then (bI (m_T_cardOfRun N σ a1.toNatClampNeg a2 a3) fun r15 σ15 => some (r15, σ)) else none)))

set_option maxHeartbeats 4000000 in
set_option maxRecDepth 100000 in
theorem c_O_at (l : Launch) (dC : Nat → ClassId) (dI : Nat → Nat → Nat) (ad : Nat → Nat → Nat) (cs : Nat → ClassId) (sz N : Nat) (σ : SX) (a1 : Int32) (a2 : Int32) (a3 : Int32) {r0 : Int32} {σ0 : SX} (hM : m_O_at N σ a1 a2 a3 = some (r0, σ0)) : Met l y_O_at (wd y_O_at b_O_at 4 (some .int)) ({ frames := 2, cells := 0, slots := 0, locals := 45 }) (va_Pc [.ref (ad 0 0), .int a1, .int a2, .int a3] (preX dC dI ad cs sz σ)) (va_Qi (fun (r : Int32) (_ : Unit) => r = r0 ∧ σ = σ0) (fun _ _ => True) (fun q => sz ≤ q)) 0 0 (fun q => sz ≤ q) := by
  refine Met.ofW (cc := b_O_at) (maxL := 4) (ret := (some .int)) (by decide) rfl ?_
  intro p e s m args below meth c s₁ B hml hv
  obtain ⟨rfl, hsz, hP, hK, hD0, hN⟩ := hv
  have hx := B.exec
  have hb := B.bytes
  have hr := B.returns
  have hts := atoms_spec (ws := (wd y_O_at b_O_at 4 (some .int))) B.pre
  have htb : ∀ w ∈ tb, w.before _ s = true := fun w h => hts w (List.mem_cons_of_mem _ h)
  have hown : s.vm.findClass R_O = some m.cls := findClass_of_methodNamed B.named
  have hlocks := B.notSynchronized
  subst hsz
  have hD := hD0
  have hA : ∀ q : Nat, s.heap.size ≤ q → s.heap.size ≤ q := fun q h => h
  have hS : va_S (fun q => s.heap.size ≤ q) s.heap s.heap [] := va_S.rf
  have hP : va_P (dC, dI) classes (wX ad cs σ) s.heap := hP
  have hl := lv_entry ([.ref (ad 0 0), .int a1, .int a2, .int a3]) (n := 4) (Nat.le_of_ble_eq_true rfl)
  rw [lg_entry_eq]
  generalize (lg_sl ([.ref (ad 0 0), .int a1, .int a2, .int a3]) ++ List.replicate (4 - (lg_sl ([.ref (ad 0 0), .int a1, .int a2, .int a3])).length) Slot.unset).toArray = ls at hl ⊢
  have hl : lv_has ls 4 [(0, .ref (ad 0 0)), (1, .int a1), (2, .int a2), (3, .int a3)] := hl
  rw [m_O_at] at hM
  refine lv_iload_n hx hb d_O_at_0 rfl (lv_at hl 1 rfl) ?_
  obtain ⟨x1, hq1, hM⟩ := bP_some hM
  refine va_calli (va_runS (As := [.int a1]) (rest := []) ⟨hx, hb, hml, hown, hts⟩ (c_O_isTape l _ a1 hq1) (cwS 1 hts (goodS k_245 k_246 k_1 k_247) rfl rfl rfl ⟨rfl, by decide, by decide, by decide +kernel⟩ ⟨Nat.le_of_ble_eq_true rfl, Nat.le_of_ble_eq_true rfl⟩) ⟨blindS, payS⟩ rfl rfl hl.1 rfl (lv_room (Nat.le_of_ble_eq_true rfl)) d_O_at_1 ⟨Nat.zero_le _, Nat.zero_le _⟩) hS (fun q h0 h => absurd h0 (Nat.not_lt.mpr h)) (fun q h => hA q (Nat.le_trans hS.1 h)) (fun r1 u t H locs ht hvm hpost hB hz1 hk1 hS => ?_)
  subst hpost
  have hP := keepP hP hk1
  refine lv_if_eq (tgt := 21) hx hb d_O_at_4 (by decide) (fun h4 => ?_) (fun h4 => ?_)
  · rw [if_pos h4] at hM
    refine lv_iconst (v := (-1)) hx hb d_O_at_21 (by decide) ?_
    have e9 := Prod.mk.inj (Option.some.inj hM)
    exact W.iret (v := (-1)) hx hb hr (fun t ht hW => ⟨⟨(-1), (), rfl, e9, trivial⟩, hS.F ht⟩) hS.2.2 d_O_at_22
  · rw [if_neg h4] at hM
    refine lv_aload_n hx hb d_O_at_7 rfl (lv_at hl 0 rfl) ?_
    refine va_get (D := (dC, dI)) (ci := 0) (v := .ref (ad 0 9)) (C := R_O) (T := F_O) (N := 12) hx hb htb in_O hown hK hP 0 (g_O) rfl 6 (by decide) (htb _ k_154) (fun _ h9 => h9) rfl d_O_at_8 ?_
    refine lv_iload_n hx hb d_O_at_11 rfl (lv_at hl 1 rfl) ?_
    have hg12 := gd_c hM
    have hM := gd_v hM
    refine va_aldq hx hb hK hP 18 2 (f := fun i => some (ad (7 + i) 0)) g_tapes rfl (inb_in hg12) d_O_at_12 ?_
    refine W.eq (g2 := F0 m 13 ls [.ref (ad (7 + a1.toNatClampNeg) 0)]) rfl ?_
    refine lv_iload_n hx hb d_O_at_13 rfl (lv_at hl 2 rfl) ?_
    refine lv_iload_n hx hb d_O_at_14 rfl (lv_at hl 3 rfl) ?_
    obtain ⟨x15, y15, hq15, hM⟩ := bI_some hM
    refine va_calli (va_runV (As := [.int a2, .int a3]) (rest := []) ⟨hx, hb, hml, hown, hts⟩ (c_T_cardOfRun l dC dI ad cs _ N σ a1.toNatClampNeg (inb_lt hg12) a2 a3 hq15) (cwV 2 hts (goodV k_276 k_277 k_278 k_7 k_279) rfl rfl rfl ⟨rfl, by decide, by decide, by decide +kernel⟩ ⟨Nat.le_of_ble_eq_true rfl, Nat.le_of_ble_eq_true rfl⟩) ⟨blindX, va_recv hK hP rfl (g_T (inb_lt hg12)), payX hP hK hD hN⟩ rfl rfl hl.1 rfl (lv_room (Nat.le_of_ble_eq_true rfl)) d_O_at_15 ⟨Nat.zero_le _, Nat.zero_le _⟩) hS (fun q h0 h => absurd h0 (Nat.not_lt.mpr h)) (fun q h => hA q (Nat.le_trans hS.1 h)) (fun r15 u t H locs ht hvm hpost hB hz1 hk1 hS => ?_)
    obtain ⟨e1, e2⟩ := hpost
    subst e1
    subst e2
    have hP := keepP hP hk1
    refine lv_goto (tgt := 22) hx hb d_O_at_18 (by decide) ?_
    have e9 := Prod.mk.inj (Option.some.inj hM)
    exact W.iret (v := r15) hx hb hr (fun t ht hW => ⟨⟨r15, (), rfl, e9, trivial⟩, hS.F ht⟩) hS.2.2 d_O_at_22

theorem d_S_holds_0 : decode b_S_holds 0 = .ok (.iconst 0, 1) := by decide +kernel
theorem d_S_holds_1 : decode b_S_holds 1 = .ok (.istore_n 2, 1) := by decide +kernel
theorem d_S_holds_2 : decode b_S_holds 2 = .ok (.iload_n 2, 1) := by decide +kernel
theorem d_S_holds_3 : decode b_S_holds 3 = .ok (.aload_n 0, 1) := by decide +kernel
theorem d_S_holds_4 : decode b_S_holds 4 = .ok (.getfield 19, 3) := by decide +kernel
theorem d_S_holds_7 : decode b_S_holds 7 = .ok (.if_icmp .ge 21, 3) := by decide +kernel
theorem d_S_holds_10 : decode b_S_holds 10 = .ok (.aload_n 0, 1) := by decide +kernel
theorem d_S_holds_11 : decode b_S_holds 11 = .ok (.getfield 9, 3) := by decide +kernel
theorem d_S_holds_14 : decode b_S_holds 14 = .ok (.iload_n 2, 1) := by decide +kernel
theorem d_S_holds_15 : decode b_S_holds 15 = .ok (.iaload, 1) := by decide +kernel
theorem d_S_holds_16 : decode b_S_holds 16 = .ok (.iload_n 1, 1) := by decide +kernel
theorem d_S_holds_17 : decode b_S_holds 17 = .ok (.if_icmp .ne 5, 3) := by decide +kernel
theorem d_S_holds_20 : decode b_S_holds 20 = .ok (.iconst 1, 1) := by decide +kernel
theorem d_S_holds_21 : decode b_S_holds 21 = .ok (.ireturn, 1) := by decide +kernel
theorem d_S_holds_22 : decode b_S_holds 22 = .ok (.iinc 2 1, 3) := by decide +kernel
theorem d_S_holds_25 : decode b_S_holds 25 = .ok (.goto (-23), 3) := by decide +kernel
theorem d_S_holds_28 : decode b_S_holds 28 = .ok (.iconst 0, 1) := by decide +kernel
theorem d_S_holds_29 : decode b_S_holds 29 = .ok (.ireturn, 1) := by decide +kernel
def m_S_holds_2 (N : Nat) (j : Nat) : Nat → SX → Int32 → Int32 → Option (Int32 × SX)
  | 0, _, _, _ => none
  | n2 + 1, σ, v1, v2 =>
    (if ((σ j).1 1) ≤ v2 then some (0, σ) else (if inb v2 8 = true then (if ((σ j).2 1 v2.toNatClampNeg) = v1 then some (1, σ) else m_S_holds_2 N j n2 σ v1 (v2 + 1)) else none))

def m_S_holds (N : Nat) (σ : SX) (j : Nat) (a1 : Int32) : Option (Int32 × SX) :=
  m_S_holds_2 N j N σ a1 0

set_option maxHeartbeats 4000000 in
set_option maxRecDepth 100000 in
theorem c_S_holds (l : Launch) (dC : Nat → ClassId) (dI : Nat → Nat → Nat) (ad : Nat → Nat → Nat) (cs : Nat → ClassId) (sz N : Nat) (σ : SX) (j : Nat) (hj : j = 2 ∨ j = 3) (a1 : Int32) {r0 : Int32} {σ0 : SX} (hM : m_S_holds N σ j a1 = some (r0, σ0)) : Met l y_S_holds (wd y_S_holds b_S_holds 3 (some .boolean)) ({ frames := 0, cells := 0, slots := 0, locals := 0 }) (va_Pc [.ref (ad j 0), .int a1] (preX dC dI ad cs sz σ)) (va_Qi (fun (r : Int32) (_ : Unit) => r = r0 ∧ σ = σ0) (fun _ _ => True) (fun q => sz ≤ q)) 0 0 (fun q => sz ≤ q) := by
  refine Met.ofW (cc := b_S_holds) (maxL := 3) (ret := (some .boolean)) (by decide) rfl ?_
  intro p e s m args below meth c s₁ B hml hv
  obtain ⟨rfl, hsz, hP, hK, hD0, hN⟩ := hv
  have hx := B.exec
  have hb := B.bytes
  have hr := B.returns
  have hts := atoms_spec (ws := (wd y_S_holds b_S_holds 3 (some .boolean))) B.pre
  have htb : ∀ w ∈ tb, w.before _ s = true := fun w h => hts w (List.mem_cons_of_mem _ h)
  have hown : s.vm.findClass R_S = some m.cls := findClass_of_methodNamed B.named
  have hlocks := B.notSynchronized
  subst hsz
  have hD := hD0
  have hA : ∀ q : Nat, s.heap.size ≤ q → s.heap.size ≤ q := fun q h => h
  have hS : va_S (fun q => s.heap.size ≤ q) s.heap s.heap [] := va_S.rf
  have hP : va_P (dC, dI) classes (wX ad cs σ) s.heap := hP
  have hl := lv_entry ([.ref (ad j 0), .int a1]) (n := 3) (Nat.le_of_ble_eq_true rfl)
  rw [lg_entry_eq]
  generalize (lg_sl ([.ref (ad j 0), .int a1]) ++ List.replicate (3 - (lg_sl ([.ref (ad j 0), .int a1])).length) Slot.unset).toArray = ls at hl ⊢
  have hl : lv_has ls 3 [(0, .ref (ad j 0)), (1, .int a1)] := hl
  rw [m_S_holds] at hM
  refine W_loop (pc := 2) (fun n2 H locs ls st => ∃ (v1 : Int32) (v2 : Int32), st = [] ∧ m_S_holds_2 N j n2 σ v1 v2 = some (r0, σ0) ∧ lv_has ls 3 [(0, .ref (ad j 0)), (1, .int v1), (2, .int v2)] ∧ va_P (dC, dI) classes (wX ad cs σ) H ∧ va_D (fun _ => True) (wX ad cs σ) ∧ va_S (fun q => s.heap.size ≤ q) s.heap H locs) ?_ ?_ ?_
  · rintro H locs ls st ⟨v1, v2, -, hM, -⟩
    rw [m_S_holds_2] at hM; cases hM
  · intro n2 K2 H locs ls st hI
    obtain ⟨v1, v2, rfl, hM, hl, hP, hD, hS⟩ := hI
    rw [m_S_holds_2] at hM
    refine lv_iload_n hx hb d_S_holds_2 rfl (lv_at hl 2 rfl) ?_
    refine lv_aload_n hx hb d_S_holds_3 rfl (lv_at hl 0 rfl) ?_
    refine va_get (D := (dC, dI)) (ci := 2) (v := .int ((σ j).1 1)) (C := R_S) (T := F_S) (N := 5) hx hb htb in_S hown hK hP (3 * j + 1) (g_S hj) rfl 3 (by decide) (htb _ k_110) (fun _ h9 => h9) rfl d_S_holds_4 ?_
    refine lv_icmp_ge (tgt := 28) hx hb d_S_holds_7 (by decide) (fun h7 => ?_) (fun h7 => ?_)
    · rw [if_pos h7] at hM
      refine lv_iconst (v := 0) hx hb d_S_holds_28 (by decide) ?_
      have e9 := Prod.mk.inj (Option.some.inj hM)
      exact W.zret (ty := .boolean) (v := 0) hx hb hr rfl (fun t ht hW => ⟨⟨0, (), rfl, e9, trivial⟩, hS.F ht⟩) hS.2.2 d_S_holds_29
    · rw [if_neg h7] at hM
      refine lv_aload_n hx hb d_S_holds_10 rfl (lv_at hl 0 rfl) ?_
      refine va_get (D := (dC, dI)) (ci := 2) (v := .ref (ad j 1)) (C := R_S) (T := F_S) (N := 5) hx hb htb in_S hown hK hP (3 * j + 1) (g_S hj) rfl 1 (by decide) (htb _ k_108) (fun _ h9 => h9) rfl d_S_holds_11 ?_
      refine lv_iload_n hx hb d_S_holds_14 rfl (lv_at hl 2 rfl) ?_
      have hg15 := gd_c hM
      have hM := gd_v hM
      refine va_iald hx hb hK hP (3 * j + 2) 0 (g_S_a1 hj) rfl (inb_in hg15) d_S_holds_15 ?_
      refine lv_iload_n hx hb d_S_holds_16 rfl (lv_at hl 1 rfl) ?_
      refine lv_icmp_ne (tgt := 22) hx hb d_S_holds_17 (by decide) (fun h17 => ?_) (fun h17 => ?_)
      · rw [if_neg h17] at hM
        refine lv_iinc (k := 2) (v := (v2 + 1)) hx hb d_S_holds_22 hl rfl rfl (by decide) (lv' := [(2, .int (v2 + 1)), (0, .ref (ad j 0)), (1, .int v1)]) rfl (fun ls hl => ?_)
        refine lv_goto (tgt := 2) hx hb d_S_holds_25 (by decide) ?_
        exact K2 _ _ _ _ ⟨v1, (v2 + 1), rfl, hM, lv_sub hl [1, 2, 0] rfl, hP, hD, hS⟩
      · rw [if_pos h17] at hM
        refine lv_iconst (v := 1) hx hb d_S_holds_20 (by decide) ?_
        have e9 := Prod.mk.inj (Option.some.inj hM)
        exact W.zret (ty := .boolean) (v := 1) hx hb hr rfl (fun t ht hW => ⟨⟨1, (), rfl, e9, trivial⟩, hS.F ht⟩) hS.2.2 d_S_holds_21
  intro K2
  refine lv_iconst (v := 0) hx hb d_S_holds_0 (by decide) ?_
  refine lv_istore_n hx hb d_S_holds_1 rfl hl (by decide) (lv' := [(2, .int 0), (0, .ref (ad j 0)), (1, .int a1)]) rfl (fun ls hl => ?_)
  exact K2 N _ _ _ _ ⟨a1, 0, rfl, hM, lv_sub hl [1, 2, 0] rfl, hP, hD, hS⟩

theorem d_O_memory_0 : decode b_O_memory 0 = .ok (.aload_n 0, 1) := by decide +kernel
theorem d_O_memory_1 : decode b_O_memory 1 = .ok (.getfield 65, 3) := by decide +kernel
theorem d_O_memory_4 : decode b_O_memory 4 = .ok (.iload_n 1, 1) := by decide +kernel
theorem d_O_memory_5 : decode b_O_memory 5 = .ok (.invokevirtual 155, 3) := by decide +kernel
theorem d_O_memory_8 : decode b_O_memory 8 = .ok (.ireturn, 1) := by decide +kernel
def m_O_memory (N : Nat) (σ : SX) (a1 : Int32) : Option (Int32 × SX) :=
  (bI (m_S_holds N σ 2 a1) fun r5 σ5 => (if isB r5 = true then some (r5, σ) else none))

set_option maxHeartbeats 4000000 in
set_option maxRecDepth 100000 in
theorem c_O_memory (l : Launch) (dC : Nat → ClassId) (dI : Nat → Nat → Nat) (ad : Nat → Nat → Nat) (cs : Nat → ClassId) (sz N : Nat) (σ : SX) (a1 : Int32) {r0 : Int32} {σ0 : SX} (hM : m_O_memory N σ a1 = some (r0, σ0)) : Met l y_O_memory (wd y_O_memory b_O_memory 2 (some .boolean)) ({ frames := 1, cells := 0, slots := 0, locals := 22 }) (va_Pc [.ref (ad 0 0), .int a1] (preX dC dI ad cs sz σ)) (va_Qi (fun (r : Int32) (_ : Unit) => r = r0 ∧ σ = σ0) (fun _ _ => True) (fun q => sz ≤ q)) 0 0 (fun q => sz ≤ q) := by
  refine Met.ofW (cc := b_O_memory) (maxL := 2) (ret := (some .boolean)) (by decide) rfl ?_
  intro p e s m args below meth c s₁ B hml hv
  obtain ⟨rfl, hsz, hP, hK, hD0, hN⟩ := hv
  have hx := B.exec
  have hb := B.bytes
  have hr := B.returns
  have hts := atoms_spec (ws := (wd y_O_memory b_O_memory 2 (some .boolean))) B.pre
  have htb : ∀ w ∈ tb, w.before _ s = true := fun w h => hts w (List.mem_cons_of_mem _ h)
  have hown : s.vm.findClass R_O = some m.cls := findClass_of_methodNamed B.named
  have hlocks := B.notSynchronized
  subst hsz
  have hD := hD0
  have hA : ∀ q : Nat, s.heap.size ≤ q → s.heap.size ≤ q := fun q h => h
  have hS : va_S (fun q => s.heap.size ≤ q) s.heap s.heap [] := va_S.rf
  have hP : va_P (dC, dI) classes (wX ad cs σ) s.heap := hP
  have hl := lv_entry ([.ref (ad 0 0), .int a1]) (n := 2) (Nat.le_of_ble_eq_true rfl)
  rw [lg_entry_eq]
  generalize (lg_sl ([.ref (ad 0 0), .int a1]) ++ List.replicate (2 - (lg_sl ([.ref (ad 0 0), .int a1])).length) Slot.unset).toArray = ls at hl ⊢
  have hl : lv_has ls 2 [(0, .ref (ad 0 0)), (1, .int a1)] := hl
  rw [m_O_memory] at hM
  refine lv_aload_n hx hb d_O_memory_0 rfl (lv_at hl 0 rfl) ?_
  refine va_get (D := (dC, dI)) (ci := 0) (v := .ref (ad 2 0)) (C := R_O) (T := F_O) (N := 12) hx hb htb in_O hown hK hP 0 (g_O) rfl 1 (by decide) (htb _ k_149) (fun _ h9 => h9) rfl d_O_memory_1 ?_
  refine lv_iload_n hx hb d_O_memory_4 rfl (lv_at hl 1 rfl) ?_
  obtain ⟨x5, y5, hq5, hM⟩ := bI_some hM
  refine va_calli (va_runV (As := [.int a1]) (rest := []) ⟨hx, hb, hml, hown, hts⟩ (c_S_holds l dC dI ad cs _ N σ 2 (Or.inl rfl) a1 hq5) (cwV 1 hts (goodV k_285 k_286 k_287 k_6 k_288) rfl rfl rfl ⟨rfl, by decide, by decide, by decide +kernel⟩ ⟨Nat.le_of_ble_eq_true rfl, Nat.le_of_ble_eq_true rfl⟩) ⟨blindX, va_recv hK hP rfl (g_S (Or.inl rfl)), payX hP hK hD hN⟩ rfl rfl hl.1 rfl (lv_room (Nat.le_of_ble_eq_true rfl)) d_O_memory_5 ⟨Nat.zero_le _, Nat.zero_le _⟩) hS (fun q h0 h => absurd h0 (Nat.not_lt.mpr h)) (fun q h => hA q (Nat.le_trans hS.1 h)) (fun r5 u t H locs ht hvm hpost hB hz1 hk1 hS => ?_)
  obtain ⟨e1, e2⟩ := hpost
  subst e1
  subst e2
  have hP := keepP hP hk1
  have hz8 := gd_c hM
  have hM := gd_v hM
  have e9 := Prod.mk.inj (Option.some.inj hM)
  exact W.zret (ty := .boolean) (v := r5) hx hb hr (isB_n hz8) (fun t ht hW => ⟨⟨r5, (), rfl, e9, trivial⟩, hS.F ht⟩) hS.2.2 d_O_memory_8

theorem d_V_total_0 : decode b_V_total 0 = .ok (.aload_n 0, 1) := by decide +kernel
theorem d_V_total_1 : decode b_V_total 1 = .ok (.getfield 7, 3) := by decide +kernel
theorem d_V_total_4 : decode b_V_total 4 = .ok (.ireturn, 1) := by decide +kernel
def m_V_total (N : Nat) (σ : SX) : Option (Int32 × SX) :=
  some (((σ 5).1 0), σ)

set_option maxHeartbeats 4000000 in
set_option maxRecDepth 100000 in
theorem c_V_total (l : Launch) (dC : Nat → ClassId) (dI : Nat → Nat → Nat) (ad : Nat → Nat → Nat) (cs : Nat → ClassId) (sz N : Nat) (σ : SX) {r0 : Int32} {σ0 : SX} (hM : m_V_total N σ = some (r0, σ0)) : Met l y_V_total (wd y_V_total b_V_total 1 (some .int)) ({ frames := 0, cells := 0, slots := 0, locals := 0 }) (va_Pc [.ref (ad 5 0)] (preX dC dI ad cs sz σ)) (va_Qi (fun (r : Int32) (_ : Unit) => r = r0 ∧ σ = σ0) (fun _ _ => True) (fun q => sz ≤ q)) 0 0 (fun q => sz ≤ q) := by
  refine Met.ofW (cc := b_V_total) (maxL := 1) (ret := (some .int)) (by decide) rfl ?_
  intro p e s m args below meth c s₁ B hml hv
  obtain ⟨rfl, hsz, hP, hK, hD0, hN⟩ := hv
  have hx := B.exec
  have hb := B.bytes
  have hr := B.returns
  have hts := atoms_spec (ws := (wd y_V_total b_V_total 1 (some .int))) B.pre
  have htb : ∀ w ∈ tb, w.before _ s = true := fun w h => hts w (List.mem_cons_of_mem _ h)
  have hown : s.vm.findClass R_V = some m.cls := findClass_of_methodNamed B.named
  have hlocks := B.notSynchronized
  subst hsz
  have hD := hD0
  have hA : ∀ q : Nat, s.heap.size ≤ q → s.heap.size ≤ q := fun q h => h
  have hS : va_S (fun q => s.heap.size ≤ q) s.heap s.heap [] := va_S.rf
  have hP : va_P (dC, dI) classes (wX ad cs σ) s.heap := hP
  have hl := lv_entry ([.ref (ad 5 0)]) (n := 1) (Nat.le_of_ble_eq_true rfl)
  rw [lg_entry_eq]
  generalize (lg_sl ([.ref (ad 5 0)]) ++ List.replicate (1 - (lg_sl ([.ref (ad 5 0)])).length) Slot.unset).toArray = ls at hl ⊢
  have hl : lv_has ls 1 [(0, .ref (ad 5 0))] := hl
  rw [m_V_total] at hM
  refine lv_aload_n hx hb d_V_total_0 rfl (lv_at hl 0 rfl) ?_
  refine va_get (D := (dC, dI)) (ci := 4) (v := .int ((σ 5).1 0)) (C := R_V) (T := F_V) (N := 4) hx hb htb in_V hown hK hP 15 (g_V) rfl 0 (by decide) (htb _ k_71) (fun _ h9 => h9) rfl d_V_total_1 ?_
  have e9 := Prod.mk.inj (Option.some.inj hM)
  exact W.iret (v := ((σ 5).1 0)) hx hb hr (fun t ht hW => ⟨⟨((σ 5).1 0), (), rfl, e9, trivial⟩, hS.F ht⟩) hS.2.2 d_V_total_4

theorem d_O_written_0 : decode b_O_written 0 = .ok (.aload_n 0, 1) := by decide +kernel
theorem d_O_written_1 : decode b_O_written 1 = .ok (.getfield 26, 3) := by decide +kernel
theorem d_O_written_4 : decode b_O_written 4 = .ok (.invokevirtual 158, 3) := by decide +kernel
theorem d_O_written_7 : decode b_O_written 7 = .ok (.ireturn, 1) := by decide +kernel
def m_O_written (N : Nat) (σ : SX) : Option (Int32 × SX) :=
  (bI (m_V_total N σ) fun r4 σ4 => some (r4, σ))

set_option maxHeartbeats 4000000 in
set_option maxRecDepth 100000 in
theorem c_O_written (l : Launch) (dC : Nat → ClassId) (dI : Nat → Nat → Nat) (ad : Nat → Nat → Nat) (cs : Nat → ClassId) (sz N : Nat) (σ : SX) {r0 : Int32} {σ0 : SX} (hM : m_O_written N σ = some (r0, σ0)) : Met l y_O_written (wd y_O_written b_O_written 1 (some .int)) ({ frames := 1, cells := 0, slots := 0, locals := 20 }) (va_Pc [.ref (ad 0 0)] (preX dC dI ad cs sz σ)) (va_Qi (fun (r : Int32) (_ : Unit) => r = r0 ∧ σ = σ0) (fun _ _ => True) (fun q => sz ≤ q)) 0 0 (fun q => sz ≤ q) := by
  refine Met.ofW (cc := b_O_written) (maxL := 1) (ret := (some .int)) (by decide) rfl ?_
  intro p e s m args below meth c s₁ B hml hv
  obtain ⟨rfl, hsz, hP, hK, hD0, hN⟩ := hv
  have hx := B.exec
  have hb := B.bytes
  have hr := B.returns
  have hts := atoms_spec (ws := (wd y_O_written b_O_written 1 (some .int))) B.pre
  have htb : ∀ w ∈ tb, w.before _ s = true := fun w h => hts w (List.mem_cons_of_mem _ h)
  have hown : s.vm.findClass R_O = some m.cls := findClass_of_methodNamed B.named
  have hlocks := B.notSynchronized
  subst hsz
  have hD := hD0
  have hA : ∀ q : Nat, s.heap.size ≤ q → s.heap.size ≤ q := fun q h => h
  have hS : va_S (fun q => s.heap.size ≤ q) s.heap s.heap [] := va_S.rf
  have hP : va_P (dC, dI) classes (wX ad cs σ) s.heap := hP
  have hl := lv_entry ([.ref (ad 0 0)]) (n := 1) (Nat.le_of_ble_eq_true rfl)
  rw [lg_entry_eq]
  generalize (lg_sl ([.ref (ad 0 0)]) ++ List.replicate (1 - (lg_sl ([.ref (ad 0 0)])).length) Slot.unset).toArray = ls at hl ⊢
  have hl : lv_has ls 1 [(0, .ref (ad 0 0))] := hl
  rw [m_O_written] at hM
  refine lv_aload_n hx hb d_O_written_0 rfl (lv_at hl 0 rfl) ?_
  refine va_get (D := (dC, dI)) (ci := 0) (v := .ref (ad 5 0)) (C := R_O) (T := F_O) (N := 12) hx hb htb in_O hown hK hP 0 (g_O) rfl 4 (by decide) (htb _ k_152) (fun _ h9 => h9) rfl d_O_written_1 ?_
  obtain ⟨x4, y4, hq4, hM⟩ := bI_some hM
  refine va_calli (va_runV (As := []) (rest := []) ⟨hx, hb, hml, hown, hts⟩ (c_V_total l dC dI ad cs _ N σ hq4) (cwV 0 hts (goodV k_293 k_294 k_295 k_4 k_296) rfl rfl rfl ⟨rfl, by decide, by decide, by decide +kernel⟩ ⟨Nat.le_of_ble_eq_true rfl, Nat.le_of_ble_eq_true rfl⟩) ⟨blindX, va_recv hK hP rfl (g_V), payX hP hK hD hN⟩ rfl rfl hl.1 rfl (lv_room (Nat.le_of_ble_eq_true rfl)) d_O_written_4 ⟨Nat.zero_le _, Nat.zero_le _⟩) hS (fun q h0 h => absurd h0 (Nat.not_lt.mpr h)) (fun q h => hA q (Nat.le_trans hS.1 h)) (fun r4 u t H locs ht hvm hpost hB hz1 hk1 hS => ?_)
  obtain ⟨e1, e2⟩ := hpost
  subst e1
  subst e2
  have hP := keepP hP hk1
  have e9 := Prod.mk.inj (Option.some.inj hM)
  exact W.iret (v := r4) hx hb hr (fun t ht hW => ⟨⟨r4, (), rfl, e9, trivial⟩, hS.F ht⟩) hS.2.2 d_O_written_7

theorem d_O_broken_0 : decode b_O_broken 0 = .ok (.aload_n 0, 1) := by decide +kernel
theorem d_O_broken_1 : decode b_O_broken 1 = .ok (.getfield 57, 3) := by decide +kernel
theorem d_O_broken_4 : decode b_O_broken 4 = .ok (.ireturn, 1) := by decide +kernel
def m_O_broken (N : Nat) (σ : SX) : Option (Int32 × SX) :=
  some (((σ 0).1 1), σ)

set_option maxHeartbeats 4000000 in
set_option maxRecDepth 100000 in
theorem c_O_broken (l : Launch) (dC : Nat → ClassId) (dI : Nat → Nat → Nat) (ad : Nat → Nat → Nat) (cs : Nat → ClassId) (sz N : Nat) (σ : SX) {r0 : Int32} {σ0 : SX} (hM : m_O_broken N σ = some (r0, σ0)) : Met l y_O_broken (wd y_O_broken b_O_broken 1 (some .int)) ({ frames := 0, cells := 0, slots := 0, locals := 0 }) (va_Pc [.ref (ad 0 0)] (preX dC dI ad cs sz σ)) (va_Qi (fun (r : Int32) (_ : Unit) => r = r0 ∧ σ = σ0) (fun _ _ => True) (fun q => sz ≤ q)) 0 0 (fun q => sz ≤ q) := by
  refine Met.ofW (cc := b_O_broken) (maxL := 1) (ret := (some .int)) (by decide) rfl ?_
  intro p e s m args below meth c s₁ B hml hv
  obtain ⟨rfl, hsz, hP, hK, hD0, hN⟩ := hv
  have hx := B.exec
  have hb := B.bytes
  have hr := B.returns
  have hts := atoms_spec (ws := (wd y_O_broken b_O_broken 1 (some .int))) B.pre
  have htb : ∀ w ∈ tb, w.before _ s = true := fun w h => hts w (List.mem_cons_of_mem _ h)
  have hown : s.vm.findClass R_O = some m.cls := findClass_of_methodNamed B.named
  have hlocks := B.notSynchronized
  subst hsz
  have hD := hD0
  have hA : ∀ q : Nat, s.heap.size ≤ q → s.heap.size ≤ q := fun q h => h
  have hS : va_S (fun q => s.heap.size ≤ q) s.heap s.heap [] := va_S.rf
  have hP : va_P (dC, dI) classes (wX ad cs σ) s.heap := hP
  have hl := lv_entry ([.ref (ad 0 0)]) (n := 1) (Nat.le_of_ble_eq_true rfl)
  rw [lg_entry_eq]
  generalize (lg_sl ([.ref (ad 0 0)]) ++ List.replicate (1 - (lg_sl ([.ref (ad 0 0)])).length) Slot.unset).toArray = ls at hl ⊢
  have hl : lv_has ls 1 [(0, .ref (ad 0 0))] := hl
  rw [m_O_broken] at hM
  refine lv_aload_n hx hb d_O_broken_0 rfl (lv_at hl 0 rfl) ?_
  refine va_get (D := (dC, dI)) (ci := 0) (v := .int ((σ 0).1 1)) (C := R_O) (T := F_O) (N := 12) hx hb htb in_O hown hK hP 0 (g_O) rfl 11 (by decide) (htb _ k_159) (fun _ h9 => h9) rfl d_O_broken_1 ?_
  have e9 := Prod.mk.inj (Option.some.inj hM)
  exact W.iret (v := ((σ 0).1 1)) hx hb hr (fun t ht hW => ⟨⟨((σ 0).1 1), (), rfl, e9, trivial⟩, hS.F ht⟩) hS.2.2 d_O_broken_4

theorem d_O_tapeInRole_0 : decode b_O_tapeInRole 0 = .ok (.aload_n 0, 1) := by decide +kernel
theorem d_O_tapeInRole_1 : decode b_O_tapeInRole 1 = .ok (.getfield 39, 3) := by decide +kernel
theorem d_O_tapeInRole_4 : decode b_O_tapeInRole 4 = .ok (.aload_n 0, 1) := by decide +kernel
theorem d_O_tapeInRole_5 : decode b_O_tapeInRole 5 = .ok (.getfield 43, 3) := by decide +kernel
theorem d_O_tapeInRole_8 : decode b_O_tapeInRole 8 = .ok (.iload_n 1, 1) := by decide +kernel
theorem d_O_tapeInRole_9 : decode b_O_tapeInRole 9 = .ok (.iaload, 1) := by decide +kernel
theorem d_O_tapeInRole_10 : decode b_O_tapeInRole 10 = .ok (.aaload, 1) := by decide +kernel
theorem d_O_tapeInRole_11 : decode b_O_tapeInRole 11 = .ok (.areturn, 1) := by decide +kernel
def m_O_tapeInRole (N : Nat) (σ : SX) (a1 : Int32) : Option (Nat × SX) :=
  (if inb a1 4 = true then (if inb ((σ 0).2 1 a1.toNatClampNeg) 4 = true then some (((σ 0).2 1 a1.toNatClampNeg).toNatClampNeg, σ) else none) else none)

set_option maxHeartbeats 4000000 in
set_option maxRecDepth 100000 in
theorem c_O_tapeInRole (l : Launch) (dC : Nat → ClassId) (dI : Nat → Nat → Nat) (ad : Nat → Nat → Nat) (cs : Nat → ClassId) (sz N : Nat) (σ : SX) (a1 : Int32) {r0 : Nat} {σ0 : SX} (hM : m_O_tapeInRole N σ a1 = some (r0, σ0)) : Met l y_O_tapeInRole (wd y_O_tapeInRole b_O_tapeInRole 2 (some (.object "ReelOffice$Tape"))) ({ frames := 0, cells := 0, slots := 0, locals := 0 }) (va_Pc [.ref (ad 0 0), .int a1] (preX dC dI ad cs sz σ)) (va_Qr (fun (_ : Unit) => σ = σ0) (fun _ a _ => a = ad (7 + r0) 0 ∧ r0 < 4) (fun q => sz ≤ q)) 0 0 (fun q => sz ≤ q) := by
  refine Met.ofW (cc := b_O_tapeInRole) (maxL := 2) (ret := (some (.object "ReelOffice$Tape"))) (by decide) rfl ?_
  intro p e s m args below meth c s₁ B hml hv
  obtain ⟨rfl, hsz, hP, hK, hD0, hN⟩ := hv
  have hx := B.exec
  have hb := B.bytes
  have hr := B.returns
  have hts := atoms_spec (ws := (wd y_O_tapeInRole b_O_tapeInRole 2 (some (.object "ReelOffice$Tape")))) B.pre
  have htb : ∀ w ∈ tb, w.before _ s = true := fun w h => hts w (List.mem_cons_of_mem _ h)
  have hown : s.vm.findClass R_O = some m.cls := findClass_of_methodNamed B.named
  have hlocks := B.notSynchronized
  subst hsz
  have hD := hD0
  have hA : ∀ q : Nat, s.heap.size ≤ q → s.heap.size ≤ q := fun q h => h
  have hS : va_S (fun q => s.heap.size ≤ q) s.heap s.heap [] := va_S.rf
  have hP : va_P (dC, dI) classes (wX ad cs σ) s.heap := hP
  have hl := lv_entry ([.ref (ad 0 0), .int a1]) (n := 2) (Nat.le_of_ble_eq_true rfl)
  rw [lg_entry_eq]
  generalize (lg_sl ([.ref (ad 0 0), .int a1]) ++ List.replicate (2 - (lg_sl ([.ref (ad 0 0), .int a1])).length) Slot.unset).toArray = ls at hl ⊢
  have hl : lv_has ls 2 [(0, .ref (ad 0 0)), (1, .int a1)] := hl
  rw [m_O_tapeInRole] at hM
  refine lv_aload_n hx hb d_O_tapeInRole_0 rfl (lv_at hl 0 rfl) ?_
  refine va_get (D := (dC, dI)) (ci := 0) (v := .ref (ad 0 9)) (C := R_O) (T := F_O) (N := 12) hx hb htb in_O hown hK hP 0 (g_O) rfl 6 (by decide) (htb _ k_154) (fun _ h9 => h9) rfl d_O_tapeInRole_1 ?_
  refine lv_aload_n hx hb d_O_tapeInRole_4 rfl (lv_at hl 0 rfl) ?_
  refine va_get (D := (dC, dI)) (ci := 0) (v := .ref (ad 0 1)) (C := R_O) (T := F_O) (N := 12) hx hb htb in_O hown hK hP 0 (g_O) rfl 7 (by decide) (htb _ k_155) (fun _ h9 => h9) rfl d_O_tapeInRole_5 ?_
  refine lv_iload_n hx hb d_O_tapeInRole_8 rfl (lv_at hl 1 rfl) ?_
  have hg9 := gd_c hM
  have hM := gd_v hM
  refine va_iald hx hb hK hP 31 0 (g_O_a1) rfl (inb_in hg9) d_O_tapeInRole_9 ?_
  have hg10 := gd_c hM
  have hM := gd_v hM
  refine va_aldq hx hb hK hP 18 2 (f := fun i => some (ad (7 + i) 0)) g_tapes rfl (inb_in hg10) d_O_tapeInRole_10 ?_
  refine W.eq (g2 := F0 m 11 ls [.ref (ad (7 + ((σ 0).2 1 a1.toNatClampNeg).toNatClampNeg) 0)]) rfl ?_
  have e9 := Prod.mk.inj (Option.some.inj hM)
  exact W.aret (v := .ref (ad (7 + ((σ 0).2 1 a1.toNatClampNeg).toNatClampNeg) 0)) hx hb hr (Or.inl ⟨_, rfl⟩) (Or.inr ⟨_, rfl⟩) (fun t ht hW => ⟨⟨(), ad (7 + ((σ 0).2 1 a1.toNatClampNeg).toNatClampNeg) 0, rfl, e9.2, by rw [← e9.1], by rw [← e9.1]; exact (inb_lt hg10)⟩, hS.F ht⟩) hS.2.2 d_O_tapeInRole_11

theorem d_O_sorted_0 : decode b_O_sorted 0 = .ok (.aload_n 0, 1) := by decide +kernel
theorem d_O_sorted_1 : decode b_O_sorted 1 = .ok (.getfield 53, 3) := by decide +kernel
theorem d_O_sorted_4 : decode b_O_sorted 4 = .ok (.iconst 3, 1) := by decide +kernel
theorem d_O_sorted_5 : decode b_O_sorted 5 = .ok (.if_icmp .ne 16, 3) := by decide +kernel
theorem d_O_sorted_8 : decode b_O_sorted 8 = .ok (.aload_n 0, 1) := by decide +kernel
theorem d_O_sorted_9 : decode b_O_sorted 9 = .ok (.iconst 0, 1) := by decide +kernel
theorem d_O_sorted_10 : decode b_O_sorted 10 = .ok (.invokevirtual 161, 3) := by decide +kernel
theorem d_O_sorted_13 : decode b_O_sorted 13 = .ok (.iconst 0, 1) := by decide +kernel
theorem d_O_sorted_14 : decode b_O_sorted 14 = .ok (.iload_n 1, 1) := by decide +kernel
theorem d_O_sorted_15 : decode b_O_sorted 15 = .ok (.invokevirtual 152, 3) := by decide +kernel
theorem d_O_sorted_18 : decode b_O_sorted 18 = .ok (.goto 4, 3) := by decide +kernel
theorem d_O_sorted_21 : decode b_O_sorted 21 = .ok (.iconst (-1), 1) := by decide +kernel
theorem d_O_sorted_22 : decode b_O_sorted 22 = .ok (.ireturn, 1) := by decide +kernel
def m_O_sorted (N : Nat) (σ : SX) (a1 : Int32) : Option (Int32 × SX) :=
  (if ((σ 0).1 0) = 3 then (bR (m_O_tapeInRole N σ 0) fun x10 σ10 => (bI (m_T_cardOfRun N σ x10 0 a1) fun r15 σ15 => some (r15, σ))) else some ((-1), σ))

set_option maxHeartbeats 4000000 in
set_option maxRecDepth 100000 in
theorem c_O_sorted (l : Launch) (dC : Nat → ClassId) (dI : Nat → Nat → Nat) (ad : Nat → Nat → Nat) (cs : Nat → ClassId) (sz N : Nat) (σ : SX) (a1 : Int32) {r0 : Int32} {σ0 : SX} (hM : m_O_sorted N σ a1 = some (r0, σ0)) : Met l y_O_sorted (wd y_O_sorted b_O_sorted 2 (some .int)) ({ frames := 2, cells := 0, slots := 0, locals := 45 }) (va_Pc [.ref (ad 0 0), .int a1] (preX dC dI ad cs sz σ)) (va_Qi (fun (r : Int32) (_ : Unit) => r = r0 ∧ σ = σ0) (fun _ _ => True) (fun q => sz ≤ q)) 0 0 (fun q => sz ≤ q) := by
  refine Met.ofW (cc := b_O_sorted) (maxL := 2) (ret := (some .int)) (by decide) rfl ?_
  intro p e s m args below meth c s₁ B hml hv
  obtain ⟨rfl, hsz, hP, hK, hD0, hN⟩ := hv
  have hx := B.exec
  have hb := B.bytes
  have hr := B.returns
  have hts := atoms_spec (ws := (wd y_O_sorted b_O_sorted 2 (some .int))) B.pre
  have htb : ∀ w ∈ tb, w.before _ s = true := fun w h => hts w (List.mem_cons_of_mem _ h)
  have hown : s.vm.findClass R_O = some m.cls := findClass_of_methodNamed B.named
  have hlocks := B.notSynchronized
  subst hsz
  have hD := hD0
  have hA : ∀ q : Nat, s.heap.size ≤ q → s.heap.size ≤ q := fun q h => h
  have hS : va_S (fun q => s.heap.size ≤ q) s.heap s.heap [] := va_S.rf
  have hP : va_P (dC, dI) classes (wX ad cs σ) s.heap := hP
  have hl := lv_entry ([.ref (ad 0 0), .int a1]) (n := 2) (Nat.le_of_ble_eq_true rfl)
  rw [lg_entry_eq]
  generalize (lg_sl ([.ref (ad 0 0), .int a1]) ++ List.replicate (2 - (lg_sl ([.ref (ad 0 0), .int a1])).length) Slot.unset).toArray = ls at hl ⊢
  have hl : lv_has ls 2 [(0, .ref (ad 0 0)), (1, .int a1)] := hl
  rw [m_O_sorted] at hM
  refine lv_aload_n hx hb d_O_sorted_0 rfl (lv_at hl 0 rfl) ?_
  refine va_get (D := (dC, dI)) (ci := 0) (v := .int ((σ 0).1 0)) (C := R_O) (T := F_O) (N := 12) hx hb htb in_O hown hK hP 0 (g_O) rfl 10 (by decide) (htb _ k_158) (fun _ h9 => h9) rfl d_O_sorted_1 ?_
  refine lv_iconst (v := 3) hx hb d_O_sorted_4 (by decide) ?_
  refine lv_icmp_ne (tgt := 21) hx hb d_O_sorted_5 (by decide) (fun h5 => ?_) (fun h5 => ?_)
  · rw [if_neg h5] at hM
    refine lv_iconst (v := (-1)) hx hb d_O_sorted_21 (by decide) ?_
    have e9 := Prod.mk.inj (Option.some.inj hM)
    exact W.iret (v := (-1)) hx hb hr (fun t ht hW => ⟨⟨(-1), (), rfl, e9, trivial⟩, hS.F ht⟩) hS.2.2 d_O_sorted_22
  · rw [if_pos h5] at hM
    refine lv_aload_n hx hb d_O_sorted_8 rfl (lv_at hl 0 rfl) ?_
    refine lv_iconst (v := 0) hx hb d_O_sorted_9 (by decide) ?_
    obtain ⟨x10, y10, hq10, hM⟩ := bR_some hM
    refine va_callr (va_runV (As := [.int 0]) (rest := []) ⟨hx, hb, hml, hown, hts⟩ (c_O_tapeInRole l dC dI ad cs _ N σ 0 hq10) (cwV 1 hts (goodV k_305 k_307 ks_O_tapeInRole k_1 k_308) rfl rfl rfl ⟨rfl, by decide, by decide, by decide +kernel⟩ ⟨Nat.le_of_ble_eq_true rfl, Nat.le_of_ble_eq_true rfl⟩) ⟨blindX, va_recv hK hP rfl (g_O), payX hP hK hD hN⟩ rfl rfl hl.1 rfl (lv_room (Nat.le_of_ble_eq_true rfl)) d_O_sorted_10 ⟨Nat.zero_le _, Nat.zero_le _⟩) hS (fun q h0 h => absurd h0 (Nat.not_lt.mpr h)) (fun q h => hA q (Nat.le_trans hS.1 h)) (fun u ra t H locs ht hvm hpost hB hz1 hk1 hS => ?_)
    subst hpost
    obtain ⟨rfl, hx10⟩ := hB
    have hP := keepP hP hk1
    refine lv_iconst (v := 0) hx hb d_O_sorted_13 (by decide) ?_
    refine lv_iload_n hx hb d_O_sorted_14 rfl (lv_at hl 1 rfl) ?_
    obtain ⟨x15, y15, hq15, hM⟩ := bI_some hM
    refine va_calli (va_runV (As := [.int 0, .int a1]) (rest := []) ⟨hx, hb, hml, hown, hts⟩ (c_T_cardOfRun l dC dI ad cs _ N σ x10 hx10 0 a1 hq15) (cwV 2 hts (goodV k_276 k_277 k_278 k_7 k_279) rfl rfl rfl ⟨rfl, by decide, by decide, by decide +kernel⟩ ⟨Nat.le_of_ble_eq_true rfl, Nat.le_of_ble_eq_true rfl⟩) ⟨blindX, va_recv hK hP rfl (g_T hx10), payX hP hK hD hN⟩ rfl rfl hl.1 rfl (lv_room (Nat.le_of_ble_eq_true rfl)) d_O_sorted_15 ⟨Nat.zero_le _, Nat.zero_le _⟩) hS (fun q h0 h => absurd h0 (Nat.not_lt.mpr h)) (fun q h => hA q (Nat.le_trans hS.1 h)) (fun r15 u t H locs ht hvm hpost hB hz1 hk1 hS => ?_)
    obtain ⟨e1, e2⟩ := hpost
    subst e1
    subst e2
    have hP := keepP hP hk1
    refine lv_goto (tgt := 22) hx hb d_O_sorted_18 (by decide) ?_
    have e9 := Prod.mk.inj (Option.some.inj hM)
    exact W.iret (v := r15) hx hb hr (fun t ht hW => ⟨⟨r15, (), rfl, e9, trivial⟩, hS.F ht⟩) hS.2.2 d_O_sorted_22

theorem d_D_hasCard_0 : decode b_D_hasCard 0 = .ok (.iload_n 1, 1) := by decide +kernel
theorem d_D_hasCard_1 : decode b_D_hasCard 1 = .ok (.ifCond .lt 15, 3) := by decide +kernel
theorem d_D_hasCard_4 : decode b_D_hasCard 4 = .ok (.iload_n 1, 1) := by decide +kernel
theorem d_D_hasCard_5 : decode b_D_hasCard 5 = .ok (.aload_n 0, 1) := by decide +kernel
theorem d_D_hasCard_6 : decode b_D_hasCard 6 = .ok (.getfield 23, 3) := by decide +kernel
theorem d_D_hasCard_9 : decode b_D_hasCard 9 = .ok (.if_icmp .ge 7, 3) := by decide +kernel
theorem d_D_hasCard_12 : decode b_D_hasCard 12 = .ok (.iconst 1, 1) := by decide +kernel
theorem d_D_hasCard_13 : decode b_D_hasCard 13 = .ok (.goto 4, 3) := by decide +kernel
theorem d_D_hasCard_16 : decode b_D_hasCard 16 = .ok (.iconst 0, 1) := by decide +kernel
theorem d_D_hasCard_17 : decode b_D_hasCard 17 = .ok (.ireturn, 1) := by decide +kernel
def m_D_hasCard (N : Nat) (σ : SX) (a1 : Int32) : Option (Int32 × SX) :=
  (if a1 < 0 then some (0, σ) else (if ((σ 1).1 0) ≤ a1 then some (0, σ) else some (1, σ)))

set_option maxHeartbeats 4000000 in
set_option maxRecDepth 100000 in
theorem c_D_hasCard (l : Launch) (dC : Nat → ClassId) (dI : Nat → Nat → Nat) (ad : Nat → Nat → Nat) (cs : Nat → ClassId) (sz N : Nat) (σ : SX) (a1 : Int32) {r0 : Int32} {σ0 : SX} (hM : m_D_hasCard N σ a1 = some (r0, σ0)) : Met l y_D_hasCard (wd y_D_hasCard b_D_hasCard 2 (some .boolean)) ({ frames := 0, cells := 0, slots := 0, locals := 0 }) (va_Pc [.ref (ad 1 0), .int a1] (preX dC dI ad cs sz σ)) (va_Qi (fun (r : Int32) (_ : Unit) => r = r0 ∧ σ = σ0) (fun _ _ => True) (fun q => sz ≤ q)) 0 0 (fun q => sz ≤ q) := by
  refine Met.ofW (cc := b_D_hasCard) (maxL := 2) (ret := (some .boolean)) (by decide) rfl ?_
  intro p e s m args below meth c s₁ B hml hv
  obtain ⟨rfl, hsz, hP, hK, hD0, hN⟩ := hv
  have hx := B.exec
  have hb := B.bytes
  have hr := B.returns
  have hts := atoms_spec (ws := (wd y_D_hasCard b_D_hasCard 2 (some .boolean))) B.pre
  have htb : ∀ w ∈ tb, w.before _ s = true := fun w h => hts w (List.mem_cons_of_mem _ h)
  have hown : s.vm.findClass R_D = some m.cls := findClass_of_methodNamed B.named
  have hlocks := B.notSynchronized
  subst hsz
  have hD := hD0
  have hA : ∀ q : Nat, s.heap.size ≤ q → s.heap.size ≤ q := fun q h => h
  have hS : va_S (fun q => s.heap.size ≤ q) s.heap s.heap [] := va_S.rf
  have hP : va_P (dC, dI) classes (wX ad cs σ) s.heap := hP
  have hl := lv_entry ([.ref (ad 1 0), .int a1]) (n := 2) (Nat.le_of_ble_eq_true rfl)
  rw [lg_entry_eq]
  generalize (lg_sl ([.ref (ad 1 0), .int a1]) ++ List.replicate (2 - (lg_sl ([.ref (ad 1 0), .int a1])).length) Slot.unset).toArray = ls at hl ⊢
  have hl : lv_has ls 2 [(0, .ref (ad 1 0)), (1, .int a1)] := hl
  rw [m_D_hasCard] at hM
  refine lv_iload_n hx hb d_D_hasCard_0 rfl (lv_at hl 1 rfl) ?_
  refine lv_if_lt (tgt := 16) hx hb d_D_hasCard_1 (by decide) (fun h1 => ?_) (fun h1 => ?_)
  · rw [if_pos h1] at hM
    refine lv_iconst (v := 0) hx hb d_D_hasCard_16 (by decide) ?_
    have e9 := Prod.mk.inj (Option.some.inj hM)
    exact W.zret (ty := .boolean) (v := 0) hx hb hr rfl (fun t ht hW => ⟨⟨0, (), rfl, e9, trivial⟩, hS.F ht⟩) hS.2.2 d_D_hasCard_17
  · rw [if_neg h1] at hM
    refine lv_iload_n hx hb d_D_hasCard_4 rfl (lv_at hl 1 rfl) ?_
    refine lv_aload_n hx hb d_D_hasCard_5 rfl (lv_at hl 0 rfl) ?_
    refine va_get (D := (dC, dI)) (ci := 1) (v := .int ((σ 1).1 0)) (C := R_D) (T := F_D) (N := 5) hx hb htb in_D hown hK hP 1 (g_D) rfl 3 (by decide) (htb _ k_35) (fun _ h9 => h9) rfl d_D_hasCard_6 ?_
    refine lv_icmp_ge (tgt := 16) hx hb d_D_hasCard_9 (by decide) (fun h9 => ?_) (fun h9 => ?_)
    · rw [if_pos h9] at hM
      refine lv_iconst (v := 0) hx hb d_D_hasCard_16 (by decide) ?_
      have e9 := Prod.mk.inj (Option.some.inj hM)
      exact W.zret (ty := .boolean) (v := 0) hx hb hr rfl (fun t ht hW => ⟨⟨0, (), rfl, e9, trivial⟩, hS.F ht⟩) hS.2.2 d_D_hasCard_17
    · rw [if_neg h9] at hM
      refine lv_iconst (v := 1) hx hb d_D_hasCard_12 (by decide) ?_
      refine lv_goto (tgt := 17) hx hb d_D_hasCard_13 (by decide) ?_
      have e9 := Prod.mk.inj (Option.some.inj hM)
      exact W.zret (ty := .boolean) (v := 1) hx hb hr rfl (fun t ht hW => ⟨⟨1, (), rfl, e9, trivial⟩, hS.F ht⟩) hS.2.2 d_D_hasCard_17

theorem d_O_isField_0 : decode b_O_isField 0 = .ok (.iload_n 0, 1) := by decide +kernel
theorem d_O_isField_1 : decode b_O_isField 1 = .ok (.ifCond .lt 12, 3) := by decide +kernel
theorem d_O_isField_4 : decode b_O_isField 4 = .ok (.iload_n 0, 1) := by decide +kernel
theorem d_O_isField_5 : decode b_O_isField 5 = .ok (.iconst 2, 1) := by decide +kernel
theorem d_O_isField_6 : decode b_O_isField 6 = .ok (.if_icmp .ge 7, 3) := by decide +kernel
theorem d_O_isField_9 : decode b_O_isField 9 = .ok (.iconst 1, 1) := by decide +kernel
theorem d_O_isField_10 : decode b_O_isField 10 = .ok (.goto 4, 3) := by decide +kernel
theorem d_O_isField_13 : decode b_O_isField 13 = .ok (.iconst 0, 1) := by decide +kernel
theorem d_O_isField_14 : decode b_O_isField 14 = .ok (.ireturn, 1) := by decide +kernel
def m_O_isField (a0 : Int32) : Option Int32 :=
  (if a0 < 0 then some 0 else (if 2 ≤ a0 then some 0 else some 1))

set_option maxHeartbeats 4000000 in
set_option maxRecDepth 100000 in
theorem c_O_isField (l : Launch) (sz : Nat) (a0 : Int32) {r0 : Int32} (hM : m_O_isField a0 = some r0) : Met l y_O_isField (wd y_O_isField b_O_isField 1 (some .boolean)) ({ frames := 0, cells := 0, slots := 0, locals := 0 }) (va_Pc [.int a0] (fun U => U.heap.size = sz)) (va_Qi (fun (r : Int32) (_ : Unit) => r = r0) (fun _ _ => True) (fun q => sz ≤ q)) 0 0 (fun q => sz ≤ q) := by
  refine Met.ofW (cc := b_O_isField) (maxL := 1) (ret := (some .boolean)) (by decide) rfl ?_
  intro p e s m args below meth c s₁ B hml hv
  obtain ⟨rfl, hsz⟩ := hv
  have hx := B.exec
  have hb := B.bytes
  have hr := B.returns
  have hts := atoms_spec (ws := (wd y_O_isField b_O_isField 1 (some .boolean))) B.pre
  have htb : ∀ w ∈ tb, w.before _ s = true := fun w h => hts w (List.mem_cons_of_mem _ h)
  have hown : s.vm.findClass R_O = some m.cls := findClass_of_methodNamed B.named
  have hlocks := B.notSynchronized
  subst hsz
  have hS : va_S (fun q => s.heap.size ≤ q) s.heap s.heap [] := va_S.rf
  have hA : ∀ q : Nat, s.heap.size ≤ q → s.heap.size ≤ q := fun q h => h
  have hl := lv_entry ([.int a0]) (n := 1) (Nat.le_of_ble_eq_true rfl)
  rw [lg_entry_eq]
  generalize (lg_sl ([.int a0]) ++ List.replicate (1 - (lg_sl ([.int a0])).length) Slot.unset).toArray = ls at hl ⊢
  have hl : lv_has ls 1 [(0, .int a0)] := hl
  rw [m_O_isField] at hM
  refine lv_iload_n hx hb d_O_isField_0 rfl (lv_at hl 0 rfl) ?_
  refine lv_if_lt (tgt := 13) hx hb d_O_isField_1 (by decide) (fun h1 => ?_) (fun h1 => ?_)
  · rw [if_pos h1] at hM
    refine lv_iconst (v := 0) hx hb d_O_isField_13 (by decide) ?_
    have e9 := Option.some.inj hM
    exact W.zret (ty := .boolean) (v := 0) hx hb hr rfl (fun t ht hW => ⟨⟨0, (), rfl, e9, trivial⟩, hS.F ht⟩) hS.2.2 d_O_isField_14
  · rw [if_neg h1] at hM
    refine lv_iload_n hx hb d_O_isField_4 rfl (lv_at hl 0 rfl) ?_
    refine lv_iconst (v := 2) hx hb d_O_isField_5 (by decide) ?_
    refine lv_icmp_ge (tgt := 13) hx hb d_O_isField_6 (by decide) (fun h6 => ?_) (fun h6 => ?_)
    · rw [if_pos h6] at hM
      refine lv_iconst (v := 0) hx hb d_O_isField_13 (by decide) ?_
      have e9 := Option.some.inj hM
      exact W.zret (ty := .boolean) (v := 0) hx hb hr rfl (fun t ht hW => ⟨⟨0, (), rfl, e9, trivial⟩, hS.F ht⟩) hS.2.2 d_O_isField_14
    · rw [if_neg h6] at hM
      refine lv_iconst (v := 1) hx hb d_O_isField_9 (by decide) ?_
      refine lv_goto (tgt := 14) hx hb d_O_isField_10 (by decide) ?_
      have e9 := Option.some.inj hM
      exact W.zret (ty := .boolean) (v := 1) hx hb hr rfl (fun t ht hW => ⟨⟨1, (), rfl, e9, trivial⟩, hS.F ht⟩) hS.2.2 d_O_isField_14

theorem d_D_value_0 : decode b_D_value 0 = .ok (.aload_n 0, 1) := by decide +kernel
theorem d_D_value_1 : decode b_D_value 1 = .ok (.iload_n 1, 1) := by decide +kernel
theorem d_D_value_2 : decode b_D_value 2 = .ok (.invokevirtual 37, 3) := by decide +kernel
theorem d_D_value_5 : decode b_D_value 5 = .ok (.ifCond .eq 21, 3) := by decide +kernel
theorem d_D_value_8 : decode b_D_value 8 = .ok (.iload_n 2, 1) := by decide +kernel
theorem d_D_value_9 : decode b_D_value 9 = .ok (.invokestatic 41, 3) := by decide +kernel
theorem d_D_value_12 : decode b_D_value 12 = .ok (.ifCond .eq 14, 3) := by decide +kernel
theorem d_D_value_15 : decode b_D_value 15 = .ok (.aload_n 0, 1) := by decide +kernel
theorem d_D_value_16 : decode b_D_value 16 = .ok (.getfield 11, 3) := by decide +kernel
theorem d_D_value_19 : decode b_D_value 19 = .ok (.iload_n 2, 1) := by decide +kernel
theorem d_D_value_20 : decode b_D_value 20 = .ok (.aaload, 1) := by decide +kernel
theorem d_D_value_21 : decode b_D_value 21 = .ok (.iload_n 1, 1) := by decide +kernel
theorem d_D_value_22 : decode b_D_value 22 = .ok (.iaload, 1) := by decide +kernel
theorem d_D_value_23 : decode b_D_value 23 = .ok (.goto 4, 3) := by decide +kernel
theorem d_D_value_26 : decode b_D_value 26 = .ok (.iconst 0, 1) := by decide +kernel
theorem d_D_value_27 : decode b_D_value 27 = .ok (.ireturn, 1) := by decide +kernel
def m_D_value (N : Nat) (σ : SX) (a1 : Int32) (a2 : Int32) : Option (Int32 × SX) :=
  (bI (m_D_hasCard N σ a1) fun r2 σ2 => (if r2 = 0 then some (0, σ) else (bP (m_O_isField a2) fun r9 => (if r9 = 0 then some (0, σ) else (if inb a2 2 = true then (if a2 = 0 then (if inb a1 150 = true then some (((σ 1).2 1 a1.toNatClampNeg), σ) else none) else (if inb a1 150 = true then some (((σ 1).2 2 a1.toNatClampNeg), σ) else none)) else none)))))

set_option maxHeartbeats 4000000 in
set_option maxRecDepth 100000 in
theorem c_D_value (l : Launch) (dC : Nat → ClassId) (dI : Nat → Nat → Nat) (ad : Nat → Nat → Nat) (cs : Nat → ClassId) (sz N : Nat) (σ : SX) (a1 : Int32) (a2 : Int32) {r0 : Int32} {σ0 : SX} (hM : m_D_value N σ a1 a2 = some (r0, σ0)) : Met l y_D_value (wd y_D_value b_D_value 3 (some .int)) ({ frames := 1, cells := 0, slots := 0, locals := 21 }) (va_Pc [.ref (ad 1 0), .int a1, .int a2] (preX dC dI ad cs sz σ)) (va_Qi (fun (r : Int32) (_ : Unit) => r = r0 ∧ σ = σ0) (fun _ _ => True) (fun q => sz ≤ q)) 0 0 (fun q => sz ≤ q) := by
  refine Met.ofW (cc := b_D_value) (maxL := 3) (ret := (some .int)) (by decide) rfl ?_
  intro p e s m args below meth c s₁ B hml hv
  obtain ⟨rfl, hsz, hP, hK, hD0, hN⟩ := hv
  have hx := B.exec
  have hb := B.bytes
  have hr := B.returns
  have hts := atoms_spec (ws := (wd y_D_value b_D_value 3 (some .int))) B.pre
  have htb : ∀ w ∈ tb, w.before _ s = true := fun w h => hts w (List.mem_cons_of_mem _ h)
  have hown : s.vm.findClass R_D = some m.cls := findClass_of_methodNamed B.named
  have hlocks := B.notSynchronized
  subst hsz
  have hD := hD0
  have hA : ∀ q : Nat, s.heap.size ≤ q → s.heap.size ≤ q := fun q h => h
  have hS : va_S (fun q => s.heap.size ≤ q) s.heap s.heap [] := va_S.rf
  have hP : va_P (dC, dI) classes (wX ad cs σ) s.heap := hP
  have hl := lv_entry ([.ref (ad 1 0), .int a1, .int a2]) (n := 3) (Nat.le_of_ble_eq_true rfl)
  rw [lg_entry_eq]
  generalize (lg_sl ([.ref (ad 1 0), .int a1, .int a2]) ++ List.replicate (3 - (lg_sl ([.ref (ad 1 0), .int a1, .int a2])).length) Slot.unset).toArray = ls at hl ⊢
  have hl : lv_has ls 3 [(0, .ref (ad 1 0)), (1, .int a1), (2, .int a2)] := hl
  rw [m_D_value] at hM
  refine lv_aload_n hx hb d_D_value_0 rfl (lv_at hl 0 rfl) ?_
  refine lv_iload_n hx hb d_D_value_1 rfl (lv_at hl 1 rfl) ?_
  obtain ⟨x2, y2, hq2, hM⟩ := bI_some hM
  refine va_calli (va_runV (As := [.int a1]) (rest := []) ⟨hx, hb, hml, hown, hts⟩ (c_D_hasCard l dC dI ad cs _ N σ a1 hq2) (cwV 1 hts (goodV k_325 k_314 k_315 k_2 k_316) rfl rfl rfl ⟨rfl, by decide, by decide, by decide +kernel⟩ ⟨Nat.le_of_ble_eq_true rfl, Nat.le_of_ble_eq_true rfl⟩) ⟨blindX, va_recv hK hP rfl (g_D), payX hP hK hD hN⟩ rfl rfl hl.1 rfl (lv_room (Nat.le_of_ble_eq_true rfl)) d_D_value_2 ⟨Nat.zero_le _, Nat.zero_le _⟩) hS (fun q h0 h => absurd h0 (Nat.not_lt.mpr h)) (fun q h => hA q (Nat.le_trans hS.1 h)) (fun r2 u t H locs ht hvm hpost hB hz1 hk1 hS => ?_)
  obtain ⟨e1, e2⟩ := hpost
  subst e1
  subst e2
  have hP := keepP hP hk1
  refine lv_if_eq (tgt := 26) hx hb d_D_value_5 (by decide) (fun h5 => ?_) (fun h5 => ?_)
  · rw [if_pos h5] at hM
    refine lv_iconst (v := 0) hx hb d_D_value_26 (by decide) ?_
    have e9 := Prod.mk.inj (Option.some.inj hM)
    exact W.iret (v := 0) hx hb hr (fun t ht hW => ⟨⟨0, (), rfl, e9, trivial⟩, hS.F ht⟩) hS.2.2 d_D_value_27
  · rw [if_neg h5] at hM
    refine lv_iload_n hx hb d_D_value_8 rfl (lv_at hl 2 rfl) ?_
    obtain ⟨x9, hq9, hM⟩ := bP_some hM
    refine va_calli (va_runSN (As := [.int a2]) (rest := []) ⟨hx, hb, hml, hown, hts⟩ (c_O_isField l _ a2 hq9) ⟨va_cnB 1 hts (goodW k_328) rfl rfl rfl (hN.2.2.2.2.2.2.2) (htb _ k_1) ⟨by decide, by decide, by decide +kernel⟩ ⟨Nat.le_of_ble_eq_true rfl, Nat.le_of_ble_eq_true rfl⟩, htb _ k_327, trivial⟩ ⟨blindS, payS⟩ rfl rfl hl.1 rfl (lv_room (Nat.le_of_ble_eq_true rfl)) d_D_value_9 ⟨Nat.zero_le _, Nat.zero_le _⟩) hS (fun q h0 h => absurd h0 (Nat.not_lt.mpr h)) (fun q h => hA q (Nat.le_trans hS.1 h)) (fun r9 u t H locs ht hvm hpost hB hz1 hk1 hS => ?_)
    subst hpost
    have hP := keepP hP hk1
    refine lv_if_eq (tgt := 26) hx hb d_D_value_12 (by decide) (fun h12 => ?_) (fun h12 => ?_)
    · rw [if_pos h12] at hM
      refine lv_iconst (v := 0) hx hb d_D_value_26 (by decide) ?_
      have e9 := Prod.mk.inj (Option.some.inj hM)
      exact W.iret (v := 0) hx hb hr (fun t ht hW => ⟨⟨0, (), rfl, e9, trivial⟩, hS.F ht⟩) hS.2.2 d_D_value_27
    · rw [if_neg h12] at hM
      refine lv_aload_n hx hb d_D_value_15 rfl (lv_at hl 0 rfl) ?_
      refine va_get (D := (dC, dI)) (ci := 1) (v := .ref (ad 1 9)) (C := R_D) (T := F_D) (N := 5) hx hb htb in_D hown hK hP 1 (g_D) rfl 0 (by decide) (htb _ k_32) (fun _ h9 => h9) rfl d_D_value_16 ?_
      refine lv_iload_n hx hb d_D_value_19 rfl (lv_at hl 2 rfl) ?_
      have hg20 := gd_c hM
      have hM := gd_v hM
      refine va_aldv hx hb hK hP 2 3 (f := fun i => some (ad 1 (1 + i))) g_values rfl (inb_in hg20) d_D_value_20 ?_
      by_cases hr20 : a2 = 0
      · rw [if_pos hr20] at hM
        refine W.eq (g2 := F0 m 21 ls [.ref (ad 1 1)]) (by rw [hr20]; rfl) ?_
        refine lv_iload_n hx hb d_D_value_21 rfl (lv_at hl 1 rfl) ?_
        have hg22 := gd_c hM
        have hM := gd_v hM
        refine va_iald hx hb hK hP 3 0 (g_D_a1) rfl (inb_in hg22) d_D_value_22 ?_
        refine lv_goto (tgt := 27) hx hb d_D_value_23 (by decide) ?_
        have e9 := Prod.mk.inj (Option.some.inj hM)
        exact W.iret (v := ((σ 1).2 1 a1.toNatClampNeg)) hx hb hr (fun t ht hW => ⟨⟨((σ 1).2 1 a1.toNatClampNeg), (), rfl, e9, trivial⟩, hS.F ht⟩) hS.2.2 d_D_value_27
      · rw [if_neg hr20] at hM
        refine W.eq (g2 := F0 m 21 ls [.ref (ad 1 2)]) (by rw [inb2_1 hg20 hr20]; rfl) ?_
        refine lv_iload_n hx hb d_D_value_21 rfl (lv_at hl 1 rfl) ?_
        have hg22 := gd_c hM
        have hM := gd_v hM
        refine va_iald hx hb hK hP 4 0 (g_D_a2) rfl (inb_in hg22) d_D_value_22 ?_
        refine lv_goto (tgt := 27) hx hb d_D_value_23 (by decide) ?_
        have e9 := Prod.mk.inj (Option.some.inj hM)
        exact W.iret (v := ((σ 1).2 2 a1.toNatClampNeg)) hx hb hr (fun t ht hW => ⟨⟨((σ 1).2 2 a1.toNatClampNeg), (), rfl, e9, trivial⟩, hS.F ht⟩) hS.2.2 d_D_value_27

theorem d_D_rank_0 : decode b_D_rank 0 = .ok (.iload_n 1, 1) := by decide +kernel
theorem d_D_rank_1 : decode b_D_rank 1 = .ok (.i2l, 1) := by decide +kernel
theorem d_D_rank_2 : decode b_D_rank 2 = .ok (.lstore_n 2, 1) := by decide +kernel
theorem d_D_rank_3 : decode b_D_rank 3 = .ok (.iload_n 0, 1) := by decide +kernel
theorem d_D_rank_4 : decode b_D_rank 4 = .ok (.tableswitch 50 1 3 #[28, 31, 37], 28) := by decide +kernel
theorem d_D_rank_32 : decode b_D_rank 32 = .ok (.lload_n 2, 1) := by decide +kernel
theorem d_D_rank_33 : decode b_D_rank 33 = .ok (.lneg, 1) := by decide +kernel
theorem d_D_rank_34 : decode b_D_rank 34 = .ok (.lreturn, 1) := by decide +kernel
theorem d_D_rank_35 : decode b_D_rank 35 = .ok (.lload_n 2, 1) := by decide +kernel
theorem d_D_rank_36 : decode b_D_rank 36 = .ok (.ldc2_w 52, 3) := by decide +kernel
theorem d_D_rank_39 : decode b_D_rank 39 = .ok (.land, 1) := by decide +kernel
theorem d_D_rank_40 : decode b_D_rank 40 = .ok (.lreturn, 1) := by decide +kernel
theorem d_D_rank_41 : decode b_D_rank 41 = .ok (.lload_n 2, 1) := by decide +kernel
theorem d_D_rank_42 : decode b_D_rank 42 = .ok (.lconst 0, 1) := by decide +kernel
theorem d_D_rank_43 : decode b_D_rank 43 = .ok (.lcmp, 1) := by decide +kernel
theorem d_D_rank_44 : decode b_D_rank 44 = .ok (.ifCond .ge 8, 3) := by decide +kernel
theorem d_D_rank_47 : decode b_D_rank 47 = .ok (.lload_n 2, 1) := by decide +kernel
theorem d_D_rank_48 : decode b_D_rank 48 = .ok (.lneg, 1) := by decide +kernel
theorem d_D_rank_49 : decode b_D_rank 49 = .ok (.goto 4, 3) := by decide +kernel
theorem d_D_rank_52 : decode b_D_rank 52 = .ok (.lload_n 2, 1) := by decide +kernel
theorem d_D_rank_53 : decode b_D_rank 53 = .ok (.lreturn, 1) := by decide +kernel
theorem d_D_rank_54 : decode b_D_rank 54 = .ok (.lload_n 2, 1) := by decide +kernel
theorem d_D_rank_55 : decode b_D_rank 55 = .ok (.lreturn, 1) := by decide +kernel
def m_D_rank (a0 : Int32) (a1 : Int32) : Option Int64 :=
  (if a0 = 1 then some (-a1.toInt64) else (if a0 = 2 then some (a1.toInt64 &&& 4294967295) else (if a0 = 3 then (if 0 ≤ (lg_cmp a1.toInt64 0) then some a1.toInt64 else some (-a1.toInt64)) else some a1.toInt64)))

set_option maxHeartbeats 4000000 in
set_option maxRecDepth 100000 in
theorem c_D_rank (l : Launch) (sz : Nat) (a0 : Int32) (a1 : Int32) {r0 : Int64} (hM : m_D_rank a0 a1 = some r0) : Met l y_D_rank (wd y_D_rank b_D_rank 4 (some .long)) ({ frames := 0, cells := 0, slots := 0, locals := 0 }) (va_Pc [.int a0, .int a1] (fun U => U.heap.size = sz)) (va_Ql (fun (r : Int64) (_ : Unit) => r = r0) (fun _ _ => True) (fun q => sz ≤ q)) 0 0 (fun q => sz ≤ q) := by
  refine Met.ofW (cc := b_D_rank) (maxL := 4) (ret := (some .long)) (by decide) rfl ?_
  intro p e s m args below meth c s₁ B hml hv
  obtain ⟨rfl, hsz⟩ := hv
  have hx := B.exec
  have hb := B.bytes
  have hr := B.returns
  have hts := atoms_spec (ws := (wd y_D_rank b_D_rank 4 (some .long))) B.pre
  have htb : ∀ w ∈ tb, w.before _ s = true := fun w h => hts w (List.mem_cons_of_mem _ h)
  have hown : s.vm.findClass R_D = some m.cls := findClass_of_methodNamed B.named
  have hlocks := B.notSynchronized
  subst hsz
  have hS : va_S (fun q => s.heap.size ≤ q) s.heap s.heap [] := va_S.rf
  have hA : ∀ q : Nat, s.heap.size ≤ q → s.heap.size ≤ q := fun q h => h
  have hl := lv_entry ([.int a0, .int a1]) (n := 4) (Nat.le_of_ble_eq_true rfl)
  rw [lg_entry_eq]
  generalize (lg_sl ([.int a0, .int a1]) ++ List.replicate (4 - (lg_sl ([.int a0, .int a1])).length) Slot.unset).toArray = ls at hl ⊢
  have hl : lv_has ls 4 [(0, .int a0), (1, .int a1)] := hl
  rw [m_D_rank] at hM
  refine lv_iload_n hx hb d_D_rank_0 rfl (lv_at hl 1 rfl) ?_
  refine lv_i2l hx hb d_D_rank_1 rfl ?_
  refine lv_lstore_n hx hb d_D_rank_2 rfl hl (by decide) (lv' := [(2, .long a1.toInt64), (0, .int a0), (1, .int a1)]) rfl (fun ls hl => ?_)
  refine lv_iload_n hx hb d_D_rank_3 rfl (lv_at hl 1 rfl) ?_
  by_cases hw4_1 : a0 = 1
  · rw [if_pos hw4_1] at hM
    refine lv_tableIn (tgt := 32) (off := 28) hx hb d_D_rank_4 (by rw [hw4_1]; decide) (by rw [hw4_1]; decide) (by rw [hw4_1]; decide) (by decide) ?_
    refine lv_lload_n hx hb d_D_rank_32 rfl (lv_at hl 0 rfl) ?_
    refine lv_lneg hx hb d_D_rank_33 ?_
    have e9 := Option.some.inj hM
    exact W.lret (v := (-a1.toInt64)) hx hb hr (fun t ht hW => ⟨⟨(-a1.toInt64), (), rfl, e9, trivial⟩, hS.F ht⟩) hS.2.2 d_D_rank_34
  rw [if_neg hw4_1] at hM
  by_cases hw4_2 : a0 = 2
  · rw [if_pos hw4_2] at hM
    refine lv_tableIn (tgt := 35) (off := 31) hx hb d_D_rank_4 (by rw [hw4_2]; decide) (by rw [hw4_2]; decide) (by rw [hw4_2]; decide) (by decide) ?_
    refine lv_lload_n hx hb d_D_rank_35 rfl (lv_at hl 0 rfl) ?_
    refine lv_ldc2 (own := R_D) (v := 4294967295) hx hb hown (htb _ k_332) d_D_rank_36 ?_
    refine lv_land hx hb d_D_rank_39 ?_
    have e9 := Option.some.inj hM
    exact W.lret (v := (a1.toInt64 &&& 4294967295)) hx hb hr (fun t ht hW => ⟨⟨(a1.toInt64 &&& 4294967295), (), rfl, e9, trivial⟩, hS.F ht⟩) hS.2.2 d_D_rank_40
  rw [if_neg hw4_2] at hM
  by_cases hw4_3 : a0 = 3
  · rw [if_pos hw4_3] at hM
    refine lv_tableIn (tgt := 41) (off := 37) hx hb d_D_rank_4 (by rw [hw4_3]; decide) (by rw [hw4_3]; decide) (by rw [hw4_3]; decide) (by decide) ?_
    refine lv_lload_n hx hb d_D_rank_41 rfl (lv_at hl 0 rfl) ?_
    refine lv_lconst (v := 0) hx hb d_D_rank_42 (by decide) ?_
    refine W.lcmp hx hb d_D_rank_43 ?_
    refine lv_if_ge (tgt := 52) hx hb d_D_rank_44 (by decide) (fun h44 => ?_) (fun h44 => ?_)
    · rw [if_pos h44] at hM
      refine lv_lload_n hx hb d_D_rank_52 rfl (lv_at hl 0 rfl) ?_
      have e9 := Option.some.inj hM
      exact W.lret (v := a1.toInt64) hx hb hr (fun t ht hW => ⟨⟨a1.toInt64, (), rfl, e9, trivial⟩, hS.F ht⟩) hS.2.2 d_D_rank_53
    · rw [if_neg h44] at hM
      refine lv_lload_n hx hb d_D_rank_47 rfl (lv_at hl 0 rfl) ?_
      refine lv_lneg hx hb d_D_rank_48 ?_
      refine lv_goto (tgt := 53) hx hb d_D_rank_49 (by decide) ?_
      have e9 := Option.some.inj hM
      exact W.lret (v := (-a1.toInt64)) hx hb hr (fun t ht hW => ⟨⟨(-a1.toInt64), (), rfl, e9, trivial⟩, hS.F ht⟩) hS.2.2 d_D_rank_53
  rw [if_neg hw4_3] at hM
  refine lv_tableOut (tgt := 54) hx hb d_D_rank_4 (sw_out3 hw4_1 hw4_2 hw4_3) (by decide) ?_
  refine lv_lload_n hx hb d_D_rank_54 rfl (lv_at hl 0 rfl) ?_
  have e9 := Option.some.inj hM
  exact W.lret (v := a1.toInt64) hx hb hr (fun t ht hW => ⟨⟨a1.toInt64, (), rfl, e9, trivial⟩, hS.F ht⟩) hS.2.2 d_D_rank_55
