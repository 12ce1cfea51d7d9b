theorem d_D_cardCount_0 : decode b_D_cardCount 0 = .ok (.aload_n 0, 1) := by decide +kernel
theorem d_D_cardCount_1 : decode b_D_cardCount 1 = .ok (.getfield 23, 3) := by decide +kernel
theorem d_D_cardCount_4 : decode b_D_cardCount 4 = .ok (.ireturn, 1) := by decide +kernel
def m_D_cardCount (N : Nat) (σ : SX) : Option (Int32 × SX) :=
  some (((σ 1).1 0), σ)

set_option maxHeartbeats 4000000 in
set_option maxRecDepth 100000 in
theorem c_D_cardCount (l : Launch) (dC : Nat → ClassId) (dI : Nat → Nat → Nat) (ad : Nat → Nat → Nat) (cs : Nat → ClassId) (sz N : Nat) (σ : SX) {r0 : Int32} {σ0 : SX} (hM : m_D_cardCount N σ = some (r0, σ0)) : Met l y_D_cardCount (wd y_D_cardCount b_D_cardCount 1 (some .int)) ({ frames := 0, cells := 0, slots := 0, locals := 0 }) (va_Pc [.ref (ad 1 0)] (preX dC dI ad cs sz σ)) (va_Qi (fun (r : Int32) (_ : Unit) => r = r0 ∧ σ = σ0) (fun _ _ => True) (fun q => sz ≤ q)) 0 0 (fun q => sz ≤ q) := by
  refine Met.ofW (cc := b_D_cardCount) (maxL := 1) (ret := (some .int)) (by decide) rfl ?_
  intro p e s m args below meth c s₁ B hml hv
  obtain ⟨rfl, hsz, hP, hK, hD0, hN⟩ := hv
  have hx := B.exec
  have hb := B.bytes
  have hr := B.returns
  have hts := atoms_spec (ws := (wd y_D_cardCount b_D_cardCount 1 (some .int))) B.pre
  have htb : ∀ w ∈ tb, w.before _ s = true := fun w h => hts w (List.mem_cons_of_mem _ h)
  have hown : s.vm.findClass R_D = some m.cls := findClass_of_methodNamed B.named
  have hlocks := B.notSynchronized
  subst hsz
  have hD := hD0
  have hA : ∀ q : Nat, s.heap.size ≤ q → s.heap.size ≤ q := fun q h => h
  have hS : va_S (fun q => s.heap.size ≤ q) s.heap s.heap [] := va_S.rf
  have hP : va_P (dC, dI) classes (wX ad cs σ) s.heap := hP
  have hl := lv_entry ([.ref (ad 1 0)]) (n := 1) (Nat.le_of_ble_eq_true rfl)
  rw [lg_entry_eq]
  generalize (lg_sl ([.ref (ad 1 0)]) ++ List.replicate (1 - (lg_sl ([.ref (ad 1 0)])).length) Slot.unset).toArray = ls at hl ⊢
  have hl : lv_has ls 1 [(0, .ref (ad 1 0))] := hl
  rw [m_D_cardCount] at hM
  refine lv_aload_n hx hb d_D_cardCount_0 rfl (lv_at hl 0 rfl) ?_
  refine va_get (D := (dC, dI)) (ci := 1) (v := .int ((σ 1).1 0)) (C := R_D) (T := F_D) (N := 5) hx hb htb in_D hown hK hP 1 (g_D) rfl 3 (by decide) (htb _ k_35) (fun _ h9 => h9) rfl d_D_cardCount_1 ?_
  have e9 := Prod.mk.inj (Option.some.inj hM)
  exact W.iret (v := ((σ 1).1 0)) hx hb hr (fun t ht hW => ⟨⟨((σ 1).1 0), (), rfl, e9, trivial⟩, hS.F ht⟩) hS.2.2 d_D_cardCount_4

theorem d_S_fillFrom_0 : decode b_S_fillFrom 0 = .ok (.aload_n 0, 1) := by decide +kernel
theorem d_S_fillFrom_1 : decode b_S_fillFrom 1 = .ok (.aload_n 0, 1) := by decide +kernel
theorem d_S_fillFrom_2 : decode b_S_fillFrom 2 = .ok (.getfield 26, 3) := by decide +kernel
theorem d_S_fillFrom_5 : decode b_S_fillFrom 5 = .ok (.aload_n 1, 1) := by decide +kernel
theorem d_S_fillFrom_6 : decode b_S_fillFrom 6 = .ok (.invokevirtual 29, 3) := by decide +kernel
theorem d_S_fillFrom_9 : decode b_S_fillFrom 9 = .ok (.invokestatic 35, 3) := by decide +kernel
theorem d_S_fillFrom_12 : decode b_S_fillFrom 12 = .ok (.putfield 19, 3) := by decide +kernel
theorem d_S_fillFrom_15 : decode b_S_fillFrom 15 = .ok (.aload_n 0, 1) := by decide +kernel
theorem d_S_fillFrom_16 : decode b_S_fillFrom 16 = .ok (.aload_n 0, 1) := by decide +kernel
theorem d_S_fillFrom_17 : decode b_S_fillFrom 17 = .ok (.getfield 19, 3) := by decide +kernel
theorem d_S_fillFrom_20 : decode b_S_fillFrom 20 = .ok (.putfield 23, 3) := by decide +kernel
theorem d_S_fillFrom_23 : decode b_S_fillFrom 23 = .ok (.iconst 0, 1) := by decide +kernel
theorem d_S_fillFrom_24 : decode b_S_fillFrom 24 = .ok (.istore_n 2, 1) := by decide +kernel
theorem d_S_fillFrom_25 : decode b_S_fillFrom 25 = .ok (.iload_n 2, 1) := by decide +kernel
theorem d_S_fillFrom_26 : decode b_S_fillFrom 26 = .ok (.aload_n 0, 1) := by decide +kernel
theorem d_S_fillFrom_27 : decode b_S_fillFrom 27 = .ok (.getfield 19, 3) := by decide +kernel
theorem d_S_fillFrom_30 : decode b_S_fillFrom 30 = .ok (.if_icmp .ge 23, 3) := by decide +kernel
theorem d_S_fillFrom_33 : decode b_S_fillFrom 33 = .ok (.aload_n 0, 1) := by decide +kernel
theorem d_S_fillFrom_34 : decode b_S_fillFrom 34 = .ok (.getfield 9, 3) := by decide +kernel
theorem d_S_fillFrom_37 : decode b_S_fillFrom 37 = .ok (.iload_n 2, 1) := by decide +kernel
theorem d_S_fillFrom_38 : decode b_S_fillFrom 38 = .ok (.iload_n 2, 1) := by decide +kernel
theorem d_S_fillFrom_39 : decode b_S_fillFrom 39 = .ok (.iastore, 1) := by decide +kernel
theorem d_S_fillFrom_40 : decode b_S_fillFrom 40 = .ok (.aload_n 0, 1) := by decide +kernel
theorem d_S_fillFrom_41 : decode b_S_fillFrom 41 = .ok (.getfield 15, 3) := by decide +kernel
theorem d_S_fillFrom_44 : decode b_S_fillFrom 44 = .ok (.iload_n 2, 1) := by decide +kernel
theorem d_S_fillFrom_45 : decode b_S_fillFrom 45 = .ok (.iconst 0, 1) := by decide +kernel
theorem d_S_fillFrom_46 : decode b_S_fillFrom 46 = .ok (.bastore, 1) := by decide +kernel
theorem d_S_fillFrom_47 : decode b_S_fillFrom 47 = .ok (.iinc 2 1, 3) := by decide +kernel
theorem d_S_fillFrom_50 : decode b_S_fillFrom 50 = .ok (.goto (-25), 3) := by decide +kernel
theorem d_S_fillFrom_53 : decode b_S_fillFrom 53 = .ok (.return_, 1) := by decide +kernel
def m_S_fillFrom_25 (N : Nat) (j : Nat) : Nat → SX → Int32 → Option (SX)
  | 0, _, _ => none
  | n25 + 1, σ, v2 =>
    (if ((σ j).1 1) ≤ v2 then some σ else (if inb v2 8 = true then (if inb v2 8 = true then m_S_fillFrom_25 N j n25 (w3 (w3 σ j 1 v2 v2) j 2 v2 (vp_nar .boolean 0)) (v2 + 1) else none) else none))

def m_S_fillFrom (N : Nat) (σ : SX) (j : Nat) : Option (SX) :=
  (bI (m_D_cardCount N σ) fun r6 σ6 => m_S_fillFrom_25 N j N (w1 (w1 σ j 1 (if r6 < ((σ j).1 0) then r6 else ((σ j).1 0))) j 2 (((w1 σ j 1 (if r6 < ((σ j).1 0) then r6 else ((σ j).1 0))) j).1 1)) 0)

set_option maxHeartbeats 4000000 in
set_option maxRecDepth 100000 in
theorem c_S_fillFrom (l : Launch) (dC : Nat → ClassId) (dI : Nat → Nat → Nat) (ad : Nat → Nat → Nat) (cs : Nat → ClassId) (sz N : Nat) (σ : SX) (j : Nat) (hj : j = 2 ∨ j = 3) {σ0 : SX} (hM : m_S_fillFrom N σ j = some σ0) : Met l y_S_fillFrom (wd y_S_fillFrom b_S_fillFrom 3 none) ({ frames := 1, cells := 0, slots := 0, locals := 21 }) (va_Pc [.ref (ad j 0), .ref (ad 1 0)] (preX dC dI ad cs sz σ)) (va_Qv (fun (u : SX) => u = σ0) (atX dC dI ad cs (va_A (wX ad cs σ) sz)) (va_A (wX ad cs σ) sz)) 0 0 (va_A (wX ad cs σ) sz) := by
  refine Met.ofW (cc := b_S_fillFrom) (maxL := 3) (ret := none) (by decide) rfl ?_
  intro p e s m args below meth c s₁ B hml hv
  obtain ⟨rfl, hsz, hP, hK, hD0, hN⟩ := hv
  have hx := B.exec
  have hb := B.bytes
  have hr := B.returns
  have hts := atoms_spec (ws := (wd y_S_fillFrom b_S_fillFrom 3 none)) B.pre
  have htb : ∀ w ∈ tb, w.before _ s = true := fun w h => hts w (List.mem_cons_of_mem _ h)
  have hown : s.vm.findClass R_S = some m.cls := findClass_of_methodNamed B.named
  have hlocks := B.notSynchronized
  subst hsz
  have hD := hD0.self (sz := s.heap.size)
  generalize hAe : va_A (wX ad cs σ) s.heap.size = A at hD ⊢
  have hA : ∀ q : Nat, s.heap.size ≤ q → A q := fun q h => by rw [← hAe]; exact Or.inr h
  have hS : va_S A s.heap s.heap [] := va_S.rf
  have hP : va_P (dC, dI) classes (wX ad cs σ) s.heap := hP
  have hl := lv_entry ([.ref (ad j 0), .ref (ad 1 0)]) (n := 3) (Nat.le_of_ble_eq_true rfl)
  rw [lg_entry_eq]
  generalize (lg_sl ([.ref (ad j 0), .ref (ad 1 0)]) ++ List.replicate (3 - (lg_sl ([.ref (ad j 0), .ref (ad 1 0)])).length) Slot.unset).toArray = ls at hl ⊢
  have hl : lv_has ls 3 [(0, .ref (ad j 0)), (1, .ref (ad 1 0))] := hl
  rw [m_S_fillFrom] at hM
  refine W_loop (pc := 25) (fun n25 H locs ls st => ∃ (σ : SX) (v2 : Int32), st = [] ∧ m_S_fillFrom_25 N j n25 σ v2 = some σ0 ∧ lv_has ls 3 [(0, .ref (ad j 0)), (2, .int v2)] ∧ va_P (dC, dI) classes (wX ad cs σ) H ∧ va_D A (wX ad cs σ) ∧ va_S A s.heap H locs) ?_ ?_ ?_
  · rintro H locs ls st ⟨σ, v2, -, hM, -⟩
    rw [m_S_fillFrom_25] at hM; cases hM
  · intro n25 K25 H locs ls st hI
    obtain ⟨σ, v2, rfl, hM, hl, hP, hD, hS⟩ := hI
    rw [m_S_fillFrom_25] at hM
    refine lv_iload_n hx hb d_S_fillFrom_25 rfl (lv_at hl 1 rfl) ?_
    refine lv_aload_n hx hb d_S_fillFrom_26 rfl (lv_at hl 0 rfl) ?_
    refine va_get (D := (dC, dI)) (ci := 2) (v := .int ((σ j).1 1)) (C := R_S) (T := F_S) (N := 5) hx hb htb in_S hown hK hP (3 * j + 1) (g_S hj) rfl 3 (by decide) (htb _ k_110) (fun _ h9 => h9) rfl d_S_fillFrom_27 ?_
    refine lv_icmp_ge (tgt := 53) hx hb d_S_fillFrom_30 (by decide) (fun h30 => ?_) (fun h30 => ?_)
    · rw [if_pos h30] at hM
      have e9 := Option.some.inj hM
      exact W.vret hx hb hr (fun t ht hW => ⟨⟨σ, rfl, e9, by rw [ht]; exact hP, va_K.moved hW.alike hK, hD⟩, hS.F ht⟩) hS.2.2 d_S_fillFrom_53
    · rw [if_neg h30] at hM
      refine lv_aload_n hx hb d_S_fillFrom_33 rfl (lv_at hl 0 rfl) ?_
      refine va_get (D := (dC, dI)) (ci := 2) (v := .ref (ad j 1)) (C := R_S) (T := F_S) (N := 5) hx hb htb in_S hown hK hP (3 * j + 1) (g_S hj) rfl 1 (by decide) (htb _ k_108) (fun _ h9 => h9) rfl d_S_fillFrom_34 ?_
      refine lv_iload_n hx hb d_S_fillFrom_37 rfl (lv_at hl 1 rfl) ?_
      refine lv_iload_n hx hb d_S_fillFrom_38 rfl (lv_at hl 1 rfl) ?_
      have hg39 := gd_c hM
      have hM := gd_v hM
      refine va_iast (i := v2) (x := v2) hx hb hK hP hD hS (3 * j + 2) 0 (g_S_a1 hj) rfl (inb_in hg39) d_S_fillFrom_39 (fun H locs hP hD hS => ?_)
      have hP := P_eq (t_S_1 hj) hP
      have hD := D_eq (t_S_1 hj) hD
      refine lv_aload_n hx hb d_S_fillFrom_40 rfl (lv_at hl 0 rfl) ?_
      refine va_get (D := (dC, dI)) (ci := 2) (v := .ref (ad j 2)) (C := R_S) (T := F_S) (N := 5) hx hb htb in_S hown hK hP (3 * j + 1) (g_S hj) rfl 2 (by decide) (htb _ k_109) (fun _ h9 => h9) rfl d_S_fillFrom_41 ?_
      refine lv_iload_n hx hb d_S_fillFrom_44 rfl (lv_at hl 1 rfl) ?_
      refine lv_iconst (v := 0) hx hb d_S_fillFrom_45 (by decide) ?_
      have hg46 := gd_c hM
      have hM := gd_v hM
      refine va_zast (i := v2) (x := 0) hx hb hK hP hD hS (3 * j + 3) 1 (g_S_a2 hj) rfl (inb_in hg46) d_S_fillFrom_46 (fun H locs hP hD hS => ?_)
      have hP := P_eq (t_S_2 hj) hP
      have hD := D_eq (t_S_2 hj) hD
      refine lv_iinc (k := 1) (v := (v2 + 1)) hx hb d_S_fillFrom_47 hl rfl rfl (by decide) (lv' := [(2, .int (v2 + 1)), (0, .ref (ad j 0))]) rfl (fun ls hl => ?_)
      refine lv_goto (tgt := 25) hx hb d_S_fillFrom_50 (by decide) ?_
      exact K25 _ _ _ _ ⟨(w3 (w3 σ j 1 v2 v2) j 2 v2 (vp_nar .boolean 0)), (v2 + 1), rfl, hM, lv_sub hl [1, 0] rfl, hP, hD, hS⟩
  intro K25
  refine lv_aload_n hx hb d_S_fillFrom_0 rfl (lv_at hl 0 rfl) ?_
  refine lv_aload_n hx hb d_S_fillFrom_1 rfl (lv_at hl 0 rfl) ?_
  refine va_get (D := (dC, dI)) (ci := 2) (v := .int ((σ j).1 0)) (C := R_S) (T := F_S) (N := 5) hx hb htb in_S hown hK hP (3 * j + 1) (g_S hj) rfl 0 (by decide) (htb _ k_107) (fun _ h9 => h9) rfl d_S_fillFrom_2 ?_
  refine lv_aload_n hx hb d_S_fillFrom_5 rfl (lv_at hl 1 rfl) ?_
  obtain ⟨x6, y6, hq6, hM⟩ := bI_some hM
  refine va_calli (va_runV (As := []) (rest := [.int ((σ j).1 0), .ref (ad j 0)]) ⟨hx, hb, hml, hown, hts⟩ (c_D_cardCount l dC dI ad cs _ N σ hq6) (cwV 0 hts (goodV k_472 k_190 k_191 k_2 k_192) rfl rfl rfl ⟨rfl, by decide, by decide, by decide +kernel⟩ ⟨Nat.le_of_ble_eq_true rfl, Nat.le_of_ble_eq_true rfl⟩) ⟨blindX, va_recv hK hP rfl (g_D), payX hP hK hD hN⟩ rfl rfl hl.1 rfl (lv_room (Nat.le_of_ble_eq_true rfl)) d_S_fillFrom_6 ⟨Nat.zero_le _, Nat.zero_le _⟩) hS (fun q h0 h => absurd h0 (Nat.not_lt.mpr h)) (fun q h => hA q (Nat.le_trans hS.1 h)) (fun r6 u t H locs ht hvm hpost hB hz1 hk1 hS => ?_)
  obtain ⟨e1, e2⟩ := hpost
  subst e1
  subst e2
  have hP := keepP hP hk1
  refine va_mmin (own := R_S) hx hb (by rw [hml]; exact hl.1.symm) hown (htb _ k_473) (htb _ k_474) (htb _ k_14) (htb _ k_475) (Nat.le_of_ble_eq_true rfl) (Nat.le_of_ble_eq_true rfl) (Nat.zero_le _) (Nat.zero_le _) d_S_fillFrom_9 ?_
  refine va_put (D := (dC, dI)) (ci := 2) (v := .int (if r6 < ((σ j).1 0) then r6 else ((σ j).1 0))) (ty := .int) (C := R_S) (T := F_S) (N := 5) hx hb htb in_S ft_S ft_S_ok n_S hown hK hP hD hS (3 * j + 1) (g_S hj) rfl 3 (by decide) (htb _ k_110) (fun _ h9 => h9) rfl (by decide +kernel) rfl rfl (Nat.le_of_ble_eq_true rfl) d_S_fillFrom_12 (fun H locs hP hD hS => ?_)
  have hP := P_eq (s_S_1 hj) hP
  have hD := D_eq (s_S_1 hj) hD
  refine lv_aload_n hx hb d_S_fillFrom_15 rfl (lv_at hl 0 rfl) ?_
  refine lv_aload_n hx hb d_S_fillFrom_16 rfl (lv_at hl 0 rfl) ?_
  refine va_get (D := (dC, dI)) (ci := 2) (v := .int (((w1 σ j 1 (if r6 < ((σ j).1 0) then r6 else ((σ j).1 0))) j).1 1)) (C := R_S) (T := F_S) (N := 5) hx hb htb in_S hown hK hP (3 * j + 1) (g_S hj) rfl 3 (by decide) (htb _ k_110) (fun _ h9 => h9) rfl d_S_fillFrom_17 ?_
  refine va_put (D := (dC, dI)) (ci := 2) (v := .int (((w1 σ j 1 (if r6 < ((σ j).1 0) then r6 else ((σ j).1 0))) j).1 1)) (ty := .int) (C := R_S) (T := F_S) (N := 5) hx hb htb in_S ft_S ft_S_ok n_S hown hK hP hD hS (3 * j + 1) (g_S hj) rfl 4 (by decide) (htb _ k_111) (fun _ h9 => h9) rfl (by decide +kernel) rfl rfl (Nat.le_of_ble_eq_true rfl) d_S_fillFrom_20 (fun H locs hP hD hS => ?_)
  have hP := P_eq (s_S_2 hj) hP
  have hD := D_eq (s_S_2 hj) hD
  refine lv_iconst (v := 0) hx hb d_S_fillFrom_23 (by decide) ?_
  refine lv_istore_n hx hb d_S_fillFrom_24 rfl hl (by decide) (lv' := [(2, .int 0), (0, .ref (ad j 0)), (1, .ref (ad 1 0))]) rfl (fun ls hl => ?_)
  exact K25 N _ _ _ _ ⟨(w1 (w1 σ j 1 (if r6 < ((σ j).1 0) then r6 else ((σ j).1 0))) j 2 (((w1 σ j 1 (if r6 < ((σ j).1 0) then r6 else ((σ j).1 0))) j).1 1)), 0, rfl, hM, lv_sub hl [1, 0] rfl, hP, hD, hS⟩

theorem d_S_isEmpty_0 : decode b_S_isEmpty 0 = .ok (.aload_n 0, 1) := by decide +kernel
theorem d_S_isEmpty_1 : decode b_S_isEmpty 1 = .ok (.getfield 19, 3) := by decide +kernel
theorem d_S_isEmpty_4 : decode b_S_isEmpty 4 = .ok (.ifCond .ne 7, 3) := by decide +kernel
theorem d_S_isEmpty_7 : decode b_S_isEmpty 7 = .ok (.iconst 1, 1) := by decide +kernel
theorem d_S_isEmpty_8 : decode b_S_isEmpty 8 = .ok (.goto 4, 3) := by decide +kernel
theorem d_S_isEmpty_11 : decode b_S_isEmpty 11 = .ok (.iconst 0, 1) := by decide +kernel
theorem d_S_isEmpty_12 : decode b_S_isEmpty 12 = .ok (.ireturn, 1) := by decide +kernel
def m_S_isEmpty (N : Nat) (σ : SX) (j : Nat) : Option (Int32 × SX) :=
  (if ((σ j).1 1) = 0 then some (1, σ) else some (0, σ))

set_option maxHeartbeats 4000000 in
set_option maxRecDepth 100000 in
theorem c_S_isEmpty (l : Launch) (dC : Nat → ClassId) (dI : Nat → Nat → Nat) (ad : Nat → Nat → Nat) (cs : Nat → ClassId) (sz N : Nat) (σ : SX) (j : Nat) (hj : j = 2 ∨ j = 3) {r0 : Int32} {σ0 : SX} (hM : m_S_isEmpty N σ j = some (r0, σ0)) : Met l y_S_isEmpty (wd y_S_isEmpty b_S_isEmpty 1 (some .boolean)) ({ frames := 0, cells := 0, slots := 0, locals := 0 }) (va_Pc [.ref (ad j 0)] (preX dC dI ad cs sz σ)) (va_Qi (fun (r : Int32) (_ : Unit) => r = r0 ∧ σ = σ0) (fun _ _ => True) (fun q => sz ≤ q)) 0 0 (fun q => sz ≤ q) := by
  refine Met.ofW (cc := b_S_isEmpty) (maxL := 1) (ret := (some .boolean)) (by decide) rfl ?_
  intro p e s m args below meth c s₁ B hml hv
  obtain ⟨rfl, hsz, hP, hK, hD0, hN⟩ := hv
  have hx := B.exec
  have hb := B.bytes
  have hr := B.returns
  have hts := atoms_spec (ws := (wd y_S_isEmpty b_S_isEmpty 1 (some .boolean))) B.pre
  have htb : ∀ w ∈ tb, w.before _ s = true := fun w h => hts w (List.mem_cons_of_mem _ h)
  have hown : s.vm.findClass R_S = some m.cls := findClass_of_methodNamed B.named
  have hlocks := B.notSynchronized
  subst hsz
  have hD := hD0
  have hA : ∀ q : Nat, s.heap.size ≤ q → s.heap.size ≤ q := fun q h => h
  have hS : va_S (fun q => s.heap.size ≤ q) s.heap s.heap [] := va_S.rf
  have hP : va_P (dC, dI) classes (wX ad cs σ) s.heap := hP
  have hl := lv_entry ([.ref (ad j 0)]) (n := 1) (Nat.le_of_ble_eq_true rfl)
  rw [lg_entry_eq]
  generalize (lg_sl ([.ref (ad j 0)]) ++ List.replicate (1 - (lg_sl ([.ref (ad j 0)])).length) Slot.unset).toArray = ls at hl ⊢
  have hl : lv_has ls 1 [(0, .ref (ad j 0))] := hl
  rw [m_S_isEmpty] at hM
  refine lv_aload_n hx hb d_S_isEmpty_0 rfl (lv_at hl 0 rfl) ?_
  refine va_get (D := (dC, dI)) (ci := 2) (v := .int ((σ j).1 1)) (C := R_S) (T := F_S) (N := 5) hx hb htb in_S hown hK hP (3 * j + 1) (g_S hj) rfl 3 (by decide) (htb _ k_110) (fun _ h9 => h9) rfl d_S_isEmpty_1 ?_
  refine lv_if_ne (tgt := 11) hx hb d_S_isEmpty_4 (by decide) (fun h4 => ?_) (fun h4 => ?_)
  · rw [if_neg h4] at hM
    refine lv_iconst (v := 0) hx hb d_S_isEmpty_11 (by decide) ?_
    have e9 := Prod.mk.inj (Option.some.inj hM)
    exact W.zret (ty := .boolean) (v := 0) hx hb hr rfl (fun t ht hW => ⟨⟨0, (), rfl, e9, trivial⟩, hS.F ht⟩) hS.2.2 d_S_isEmpty_12
  · rw [if_pos h4] at hM
    refine lv_iconst (v := 1) hx hb d_S_isEmpty_7 (by decide) ?_
    refine lv_goto (tgt := 12) hx hb d_S_isEmpty_8 (by decide) ?_
    have e9 := Prod.mk.inj (Option.some.inj hM)
    exact W.zret (ty := .boolean) (v := 1) hx hb hr rfl (fun t ht hW => ⟨⟨1, (), rfl, e9, trivial⟩, hS.F ht⟩) hS.2.2 d_S_isEmpty_12

theorem d_O_start_0 : decode b_O_start 0 = .ok (.aload_n 0, 1) := by decide +kernel
theorem d_O_start_1 : decode b_O_start 1 = .ok (.getfield 53, 3) := by decide +kernel
theorem d_O_start_4 : decode b_O_start 4 = .ok (.ifCond .eq 11, 3) := by decide +kernel
theorem d_O_start_7 : decode b_O_start 7 = .ok (.new 77, 3) := by decide +kernel
theorem d_O_start_10 : decode b_O_start 10 = .ok (.dup, 1) := by decide +kernel
theorem d_O_start_11 : decode b_O_start 11 = .ok (.invokespecial 79, 3) := by decide +kernel
theorem d_O_start_14 : decode b_O_start 14 = .ok (.athrow, 1) := by decide +kernel
theorem d_O_start_15 : decode b_O_start 15 = .ok (.iconst 0, 1) := by decide +kernel
theorem d_O_start_16 : decode b_O_start 16 = .ok (.istore_n 1, 1) := by decide +kernel
theorem d_O_start_17 : decode b_O_start 17 = .ok (.iload_n 1, 1) := by decide +kernel
theorem d_O_start_18 : decode b_O_start 18 = .ok (.iconst 4, 1) := by decide +kernel
theorem d_O_start_19 : decode b_O_start 19 = .ok (.if_icmp .ge 16, 3) := by decide +kernel
theorem d_O_start_22 : decode b_O_start 22 = .ok (.aload_n 0, 1) := by decide +kernel
theorem d_O_start_23 : decode b_O_start 23 = .ok (.getfield 43, 3) := by decide +kernel
theorem d_O_start_26 : decode b_O_start 26 = .ok (.iload_n 1, 1) := by decide +kernel
theorem d_O_start_27 : decode b_O_start 27 = .ok (.iload_n 1, 1) := by decide +kernel
theorem d_O_start_28 : decode b_O_start 28 = .ok (.iastore, 1) := by decide +kernel
theorem d_O_start_29 : decode b_O_start 29 = .ok (.iinc 1 1, 3) := by decide +kernel
theorem d_O_start_32 : decode b_O_start 32 = .ok (.goto (-15), 3) := by decide +kernel
theorem d_O_start_35 : decode b_O_start 35 = .ok (.aload_n 0, 1) := by decide +kernel
theorem d_O_start_36 : decode b_O_start 36 = .ok (.getfield 19, 3) := by decide +kernel
theorem d_O_start_39 : decode b_O_start 39 = .ok (.aload_n 0, 1) := by decide +kernel
theorem d_O_start_40 : decode b_O_start 40 = .ok (.getfield 39, 3) := by decide +kernel
theorem d_O_start_43 : decode b_O_start 43 = .ok (.invokevirtual 97, 3) := by decide +kernel
theorem d_O_start_46 : decode b_O_start 46 = .ok (.aload_n 0, 1) := by decide +kernel
theorem d_O_start_47 : decode b_O_start 47 = .ok (.getfield 65, 3) := by decide +kernel
theorem d_O_start_50 : decode b_O_start 50 = .ok (.aload_n 0, 1) := by decide +kernel
theorem d_O_start_51 : decode b_O_start 51 = .ok (.getfield 10, 3) := by decide +kernel
theorem d_O_start_54 : decode b_O_start 54 = .ok (.invokevirtual 101, 3) := by decide +kernel
theorem d_O_start_57 : decode b_O_start 57 = .ok (.aload_n 0, 1) := by decide +kernel
theorem d_O_start_58 : decode b_O_start 58 = .ok (.aload_n 0, 1) := by decide +kernel
theorem d_O_start_59 : decode b_O_start 59 = .ok (.getfield 65, 3) := by decide +kernel
theorem d_O_start_62 : decode b_O_start 62 = .ok (.invokevirtual 105, 3) := by decide +kernel
theorem d_O_start_65 : decode b_O_start 65 = .ok (.ifCond .eq 7, 3) := by decide +kernel
theorem d_O_start_68 : decode b_O_start 68 = .ok (.iconst 3, 1) := by decide +kernel
theorem d_O_start_69 : decode b_O_start 69 = .ok (.goto 4, 3) := by decide +kernel
theorem d_O_start_72 : decode b_O_start 72 = .ok (.iconst 1, 1) := by decide +kernel
theorem d_O_start_73 : decode b_O_start 73 = .ok (.putfield 53, 3) := by decide +kernel
theorem d_O_start_76 : decode b_O_start 76 = .ok (.return_, 1) := by decide +kernel
def m_O_start_17 (N : Nat) : Nat → SX → Int32 → Option (SX)
  | 0, _, _ => none
  | n17 + 1, σ, v1 =>
    (if 4 ≤ v1 then (bV (m_P_begin N σ) fun σ43 => (bV (m_S_fillFrom N σ43 2) fun σ54 => (bI (m_S_isEmpty N σ54 2) fun r62 σ62 => (if r62 = 0 then some (w1 σ54 0 0 1) else some (w1 σ54 0 0 3))))) else (if inb v1 4 = true then m_O_start_17 N n17 (w3 σ 0 1 v1 v1) (v1 + 1) else none))

def m_O_start (N : Nat) (σ : SX) : Option (SX) :=
  (if ((σ 0).1 0) = 0 then m_O_start_17 N N σ 0 else none)

set_option maxHeartbeats 4000000 in
set_option maxRecDepth 100000 in
theorem c_O_start (l : Launch) (dC : Nat → ClassId) (dI : Nat → Nat → Nat) (ad : Nat → Nat → Nat) (cs : Nat → ClassId) (sz N : Nat) (σ : SX) {σ0 : SX} (hM : m_O_start N σ = some σ0) : Met l y_O_start (wd y_O_start b_O_start 2 none) ({ frames := 2, cells := 0, slots := 0, locals := 43 }) (va_Pc [.ref (ad 0 0)] (preX dC dI ad cs sz σ)) (va_Qv (fun (u : SX) => u = σ0) (atX dC dI ad cs (va_A (wX ad cs σ) sz)) (va_A (wX ad cs σ) sz)) 0 0 (va_A (wX ad cs σ) sz) := by
  refine Met.ofW (cc := b_O_start) (maxL := 2) (ret := none) (by decide) rfl ?_
  intro p e s m args below meth c s₁ B hml hv
  obtain ⟨rfl, hsz, hP, hK, hD0, hN⟩ := hv
  have hx := B.exec
  have hb := B.bytes
  have hr := B.returns
  have hts := atoms_spec (ws := (wd y_O_start b_O_start 2 none)) B.pre
  have htb : ∀ w ∈ tb, w.before _ s = true := fun w h => hts w (List.mem_cons_of_mem _ h)
  have hown : s.vm.findClass R_O = some m.cls := findClass_of_methodNamed B.named
  have hlocks := B.notSynchronized
  subst hsz
  have hD := hD0.self (sz := s.heap.size)
  generalize hAe : va_A (wX ad cs σ) s.heap.size = A at hD ⊢
  have hA : ∀ q : Nat, s.heap.size ≤ q → A q := fun q h => by rw [← hAe]; exact Or.inr h
  have hS : va_S A s.heap s.heap [] := va_S.rf
  have hP : va_P (dC, dI) classes (wX ad cs σ) s.heap := hP
  have hl := lv_entry ([.ref (ad 0 0)]) (n := 2) (Nat.le_of_ble_eq_true rfl)
  rw [lg_entry_eq]
  generalize (lg_sl ([.ref (ad 0 0)]) ++ List.replicate (2 - (lg_sl ([.ref (ad 0 0)])).length) Slot.unset).toArray = ls at hl ⊢
  have hl : lv_has ls 2 [(0, .ref (ad 0 0))] := hl
  rw [m_O_start] at hM
  refine W_loop (pc := 17) (fun n17 H locs ls st => ∃ (σ : SX) (v1 : Int32), st = [] ∧ m_O_start_17 N n17 σ v1 = some σ0 ∧ lv_has ls 2 [(0, .ref (ad 0 0)), (1, .int v1)] ∧ va_P (dC, dI) classes (wX ad cs σ) H ∧ va_D A (wX ad cs σ) ∧ va_S A s.heap H locs) ?_ ?_ ?_
  · rintro H locs ls st ⟨σ, v1, -, hM, -⟩
    rw [m_O_start_17] at hM; cases hM
  · intro n17 K17 H locs ls st hI
    obtain ⟨σ, v1, rfl, hM, hl, hP, hD, hS⟩ := hI
    rw [m_O_start_17] at hM
    refine lv_iload_n hx hb d_O_start_17 rfl (lv_at hl 1 rfl) ?_
    refine lv_iconst (v := 4) hx hb d_O_start_18 (by decide) ?_
    refine lv_icmp_ge (tgt := 35) hx hb d_O_start_19 (by decide) (fun h19 => ?_) (fun h19 => ?_)
    · rw [if_pos h19] at hM
      refine lv_aload_n hx hb d_O_start_35 rfl (lv_at hl 0 rfl) ?_
      refine va_get (D := (dC, dI)) (ci := 0) (v := .ref (ad 4 0)) (C := R_O) (T := F_O) (N := 12) hx hb htb in_O hown hK hP 0 (g_O) rfl 3 (by decide) (htb _ k_151) (fun _ h9 => h9) rfl d_O_start_36 ?_
      refine lv_aload_n hx hb d_O_start_39 rfl (lv_at hl 0 rfl) ?_
      refine va_get (D := (dC, dI)) (ci := 0) (v := .ref (ad 0 9)) (C := R_O) (T := F_O) (N := 12) hx hb htb in_O hown hK hP 0 (g_O) rfl 6 (by decide) (htb _ k_154) (fun _ h9 => h9) rfl d_O_start_40 ?_
      have hF1 := free_all hD hS hA
      obtain ⟨y43, hq43, hM⟩ := bV_some hM
      refine va_callv (va_runV (As := [.ref (ad 0 9)]) (rest := []) ⟨hx, hb, hml, hown, hts⟩ (c_P_begin l dC dI ad cs _ N σ hq43) (cwV 1 hts (goodV k_460 k_461 k_462 k_3 k_463) rfl rfl rfl ⟨rfl, by decide, by decide, by decide +kernel⟩ ⟨Nat.le_of_ble_eq_true rfl, Nat.le_of_ble_eq_true rfl⟩) ⟨blindX, va_recv hK hP rfl (g_P), payX hP hK hD hN⟩ rfl rfl hl.1 rfl (lv_room (Nat.le_of_ble_eq_true rfl)) d_O_start_43 ⟨Nat.zero_le _, Nat.zero_le _⟩) hS (fun q _ h => hF1 q h) hF1 (fun σ43 t H locs ht hvm hpost hB hz1 hk1 hS => ?_)
      subst hpost
      obtain ⟨hP1, hK1, hD1⟩ := hB
      rw [ht] at hP1
      have hP := hP1
      have hD := hD1.weaken (fun _ _ _ h => hF1 _ h)
      refine lv_aload_n hx hb d_O_start_46 rfl (lv_at hl 0 rfl) ?_
      refine va_get (D := (dC, dI)) (ci := 0) (v := .ref (ad 2 0)) (C := R_O) (T := F_O) (N := 12) hx hb htb in_O hown hK hP 0 (g_O) rfl 1 (by decide) (htb _ k_149) (fun _ h9 => h9) rfl d_O_start_47 ?_
      refine lv_aload_n hx hb d_O_start_50 rfl (lv_at hl 0 rfl) ?_
      refine va_get (D := (dC, dI)) (ci := 0) (v := .ref (ad 1 0)) (C := R_O) (T := F_O) (N := 12) hx hb htb in_O hown hK hP 0 (g_O) rfl 0 (by decide) (htb _ k_148) (fun _ h9 => h9) rfl d_O_start_51 ?_
      have hF1 := free_all hD hS hA
      obtain ⟨y54, hq54, hM⟩ := bV_some hM
      refine va_callv (va_runV (As := [.ref (ad 1 0)]) (rest := []) ⟨hx, hb, hml, hown, hts⟩ (c_S_fillFrom l dC dI ad cs _ N σ43 2 (Or.inl rfl) hq54) (cwV 1 hts (goodV k_468 k_469 k_470 k_6 k_471) rfl rfl rfl ⟨rfl, by decide, by decide, by decide +kernel⟩ ⟨Nat.le_of_ble_eq_true rfl, Nat.le_of_ble_eq_true rfl⟩) ⟨blindX, va_recv hK hP rfl (g_S (Or.inl rfl)), payX hP hK hD hN⟩ rfl rfl hl.1 rfl (lv_room (Nat.le_of_ble_eq_true rfl)) d_O_start_54 ⟨Nat.zero_le _, Nat.zero_le _⟩) hS (fun q _ h => hF1 q h) hF1 (fun σ54 t H locs ht hvm hpost hB hz1 hk1 hS => ?_)
      subst hpost
      obtain ⟨hP1, hK1, hD1⟩ := hB
      rw [ht] at hP1
      have hP := hP1
      have hD := hD1.weaken (fun _ _ _ h => hF1 _ h)
      refine lv_aload_n hx hb d_O_start_57 rfl (lv_at hl 0 rfl) ?_
      refine lv_aload_n hx hb d_O_start_58 rfl (lv_at hl 0 rfl) ?_
      refine va_get (D := (dC, dI)) (ci := 0) (v := .ref (ad 2 0)) (C := R_O) (T := F_O) (N := 12) hx hb htb in_O hown hK hP 0 (g_O) rfl 1 (by decide) (htb _ k_149) (fun _ h9 => h9) rfl d_O_start_59 ?_
      obtain ⟨x62, y62, hq62, hM⟩ := bI_some hM
      refine va_calli (va_runV (As := []) (rest := [.ref (ad 0 0)]) ⟨hx, hb, hml, hown, hts⟩ (c_S_isEmpty l dC dI ad cs _ N σ54 2 (Or.inl rfl) hq62) (cwV 0 hts (goodV k_476 k_477 k_478 k_6 k_479) rfl rfl rfl ⟨rfl, by decide, by decide, by decide +kernel⟩ ⟨Nat.le_of_ble_eq_true rfl, Nat.le_of_ble_eq_true rfl⟩) ⟨blindX, va_recv hK hP rfl (g_S (Or.inl rfl)), payX hP hK hD hN⟩ rfl rfl hl.1 rfl (lv_room (Nat.le_of_ble_eq_true rfl)) d_O_start_62 ⟨Nat.zero_le _, Nat.zero_le _⟩) hS (fun q h0 h => absurd h0 (Nat.not_lt.mpr h)) (fun q h => hA q (Nat.le_trans hS.1 h)) (fun r62 u t H locs ht hvm hpost hB hz1 hk1 hS => ?_)
      obtain ⟨e1, e2⟩ := hpost
      subst e1
      subst e2
      have hP := keepP hP hk1
      refine lv_if_eq (tgt := 72) hx hb d_O_start_65 (by decide) (fun h65 => ?_) (fun h65 => ?_)
      · rw [if_pos h65] at hM
        refine lv_iconst (v := 1) hx hb d_O_start_72 (by decide) ?_
        refine va_put (D := (dC, dI)) (ci := 0) (v := .int 1) (ty := .int) (C := R_O) (T := F_O) (N := 12) hx hb htb in_O ft_O ft_O_ok n_O hown hK hP hD hS 0 (g_O) rfl 10 (by decide) (htb _ k_158) (fun _ h9 => h9) rfl (by decide +kernel) rfl rfl (Nat.le_of_ble_eq_true rfl) d_O_start_73 (fun H locs hP hD hS => ?_)
        have hP := P_eq (s_O_0) hP
        have hD := D_eq (s_O_0) hD
        have e9 := Option.some.inj hM
        exact W.vret hx hb hr (fun t ht hW => ⟨⟨(w1 σ54 0 0 1), rfl, e9, by rw [ht]; exact hP, va_K.moved hW.alike hK, hD⟩, hS.F ht⟩) hS.2.2 d_O_start_76
      · rw [if_neg h65] at hM
        refine lv_iconst (v := 3) hx hb d_O_start_68 (by decide) ?_
        refine lv_goto (tgt := 73) hx hb d_O_start_69 (by decide) ?_
        refine va_put (D := (dC, dI)) (ci := 0) (v := .int 3) (ty := .int) (C := R_O) (T := F_O) (N := 12) hx hb htb in_O ft_O ft_O_ok n_O hown hK hP hD hS 0 (g_O) rfl 10 (by decide) (htb _ k_158) (fun _ h9 => h9) rfl (by decide +kernel) rfl rfl (Nat.le_of_ble_eq_true rfl) d_O_start_73 (fun H locs hP hD hS => ?_)
        have hP := P_eq (s_O_0) hP
        have hD := D_eq (s_O_0) hD
        have e9 := Option.some.inj hM
        exact W.vret hx hb hr (fun t ht hW => ⟨⟨(w1 σ54 0 0 3), rfl, e9, by rw [ht]; exact hP, va_K.moved hW.alike hK, hD⟩, hS.F ht⟩) hS.2.2 d_O_start_76
    · rw [if_neg h19] at hM
      refine lv_aload_n hx hb d_O_start_22 rfl (lv_at hl 0 rfl) ?_
      refine va_get (D := (dC, dI)) (ci := 0) (v := .ref (ad 0 1)) (C := R_O) (T := F_O) (N := 12) hx hb htb in_O hown hK hP 0 (g_O) rfl 7 (by decide) (htb _ k_155) (fun _ h9 => h9) rfl d_O_start_23 ?_
      refine lv_iload_n hx hb d_O_start_26 rfl (lv_at hl 1 rfl) ?_
      refine lv_iload_n hx hb d_O_start_27 rfl (lv_at hl 1 rfl) ?_
      have hg28 := gd_c hM
      have hM := gd_v hM
      refine va_iast (i := v1) (x := v1) hx hb hK hP hD hS 31 0 (g_O_a1) rfl (inb_in hg28) d_O_start_28 (fun H locs hP hD hS => ?_)
      have hP := P_eq (t_O_1) hP
      have hD := D_eq (t_O_1) hD
      refine lv_iinc (k := 1) (v := (v1 + 1)) hx hb d_O_start_29 hl rfl rfl (by decide) (lv' := [(1, .int (v1 + 1)), (0, .ref (ad 0 0))]) rfl (fun ls hl => ?_)
      refine lv_goto (tgt := 17) hx hb d_O_start_32 (by decide) ?_
      exact K17 _ _ _ _ ⟨(w3 σ 0 1 v1 v1), (v1 + 1), rfl, hM, lv_sub hl [1, 0] rfl, hP, hD, hS⟩
  intro K17
  refine lv_aload_n hx hb d_O_start_0 rfl (lv_at hl 0 rfl) ?_
  refine va_get (D := (dC, dI)) (ci := 0) (v := .int ((σ 0).1 0)) (C := R_O) (T := F_O) (N := 12) hx hb htb in_O hown hK hP 0 (g_O) rfl 10 (by decide) (htb _ k_158) (fun _ h9 => h9) rfl d_O_start_1 ?_
  refine lv_if_eq (tgt := 15) hx hb d_O_start_4 (by decide) (fun h4 => ?_) (fun h4 => ?_)
  · rw [if_pos h4] at hM
    refine lv_iconst (v := 0) hx hb d_O_start_15 (by decide) ?_
    refine lv_istore_n hx hb d_O_start_16 rfl hl (by decide) (lv' := [(1, .int 0), (0, .ref (ad 0 0))]) rfl (fun ls hl => ?_)
    exact K17 N _ _ _ _ ⟨σ, 0, rfl, hM, lv_sub hl [1, 0] rfl, hP, hD, hS⟩
  · rw [if_neg h4] at hM
    cases hM

theorem d_V_forgetAll_0 : decode b_V_forgetAll 0 = .ok (.aload_n 0, 1) := by decide +kernel
theorem d_V_forgetAll_1 : decode b_V_forgetAll 1 = .ok (.iconst 0, 1) := by decide +kernel
theorem d_V_forgetAll_2 : decode b_V_forgetAll 2 = .ok (.putfield 7, 3) := by decide +kernel
theorem d_V_forgetAll_5 : decode b_V_forgetAll 5 = .ok (.aload_n 0, 1) := by decide +kernel
theorem d_V_forgetAll_6 : decode b_V_forgetAll 6 = .ok (.iconst 1, 1) := by decide +kernel
theorem d_V_forgetAll_7 : decode b_V_forgetAll 7 = .ok (.putfield 13, 3) := by decide +kernel
theorem d_V_forgetAll_10 : decode b_V_forgetAll 10 = .ok (.aload_n 0, 1) := by decide +kernel
theorem d_V_forgetAll_11 : decode b_V_forgetAll 11 = .ok (.iconst 0, 1) := by decide +kernel
theorem d_V_forgetAll_12 : decode b_V_forgetAll 12 = .ok (.putfield 17, 3) := by decide +kernel
theorem d_V_forgetAll_15 : decode b_V_forgetAll 15 = .ok (.return_, 1) := by decide +kernel
def m_V_forgetAll (N : Nat) (σ : SX) : Option (SX) :=
  some (w1 (w1 (w1 σ 5 0 0) 5 1 1) 5 2 0)

set_option maxHeartbeats 4000000 in
set_option maxRecDepth 100000 in
theorem c_V_forgetAll (l : Launch) (dC : Nat → ClassId) (dI : Nat → Nat → Nat) (ad : Nat → Nat → Nat) (cs : Nat → ClassId) (sz N : Nat) (σ : SX) {σ0 : SX} (hM : m_V_forgetAll N σ = some σ0) : Met l y_V_forgetAll (wd y_V_forgetAll b_V_forgetAll 1 none) ({ frames := 0, cells := 0, slots := 0, locals := 0 }) (va_Pc [.ref (ad 5 0)] (preX dC dI ad cs sz σ)) (va_Qv (fun (u : SX) => u = σ0) (atX dC dI ad cs (va_A (wX ad cs σ) sz)) (va_A (wX ad cs σ) sz)) 0 0 (va_A (wX ad cs σ) sz) := by
  refine Met.ofW (cc := b_V_forgetAll) (maxL := 1) (ret := none) (by decide) rfl ?_
  intro p e s m args below meth c s₁ B hml hv
  obtain ⟨rfl, hsz, hP, hK, hD0, hN⟩ := hv
  have hx := B.exec
  have hb := B.bytes
  have hr := B.returns
  have hts := atoms_spec (ws := (wd y_V_forgetAll b_V_forgetAll 1 none)) B.pre
  have htb : ∀ w ∈ tb, w.before _ s = true := fun w h => hts w (List.mem_cons_of_mem _ h)
  have hown : s.vm.findClass R_V = some m.cls := findClass_of_methodNamed B.named
  have hlocks := B.notSynchronized
  subst hsz
  have hD := hD0.self (sz := s.heap.size)
  generalize hAe : va_A (wX ad cs σ) s.heap.size = A at hD ⊢
  have hA : ∀ q : Nat, s.heap.size ≤ q → A q := fun q h => by rw [← hAe]; exact Or.inr h
  have hS : va_S A s.heap s.heap [] := va_S.rf
  have hP : va_P (dC, dI) classes (wX ad cs σ) s.heap := hP
  have hl := lv_entry ([.ref (ad 5 0)]) (n := 1) (Nat.le_of_ble_eq_true rfl)
  rw [lg_entry_eq]
  generalize (lg_sl ([.ref (ad 5 0)]) ++ List.replicate (1 - (lg_sl ([.ref (ad 5 0)])).length) Slot.unset).toArray = ls at hl ⊢
  have hl : lv_has ls 1 [(0, .ref (ad 5 0))] := hl
  rw [m_V_forgetAll] at hM
  refine lv_aload_n hx hb d_V_forgetAll_0 rfl (lv_at hl 0 rfl) ?_
  refine lv_iconst (v := 0) hx hb d_V_forgetAll_1 (by decide) ?_
  refine va_put (D := (dC, dI)) (ci := 4) (v := .int 0) (ty := .int) (C := R_V) (T := F_V) (N := 4) hx hb htb in_V ft_V ft_V_ok n_V hown hK hP hD hS 15 (g_V) rfl 0 (by decide) (htb _ k_71) (fun _ h9 => h9) rfl (by decide +kernel) rfl rfl (Nat.le_of_ble_eq_true rfl) d_V_forgetAll_2 (fun H locs hP hD hS => ?_)
  have hP := P_eq (s_V_0) hP
  have hD := D_eq (s_V_0) hD
  refine lv_aload_n hx hb d_V_forgetAll_5 rfl (lv_at hl 0 rfl) ?_
  refine lv_iconst (v := 1) hx hb d_V_forgetAll_6 (by decide) ?_
  refine va_put (D := (dC, dI)) (ci := 4) (v := .int 1) (ty := .boolean) (C := R_V) (T := F_V) (N := 4) hx hb htb in_V ft_V ft_V_ok n_V hown hK hP hD hS 15 (g_V) rfl 1 (by decide) (htb _ k_72) (fun _ h9 => h9) rfl (by decide +kernel) rfl rfl (Nat.le_of_ble_eq_true rfl) d_V_forgetAll_7 (fun H locs hP hD hS => ?_)
  have hP := P_eq (s_V_1) hP
  have hD := D_eq (s_V_1) hD
  refine lv_aload_n hx hb d_V_forgetAll_10 rfl (lv_at hl 0 rfl) ?_
  refine lv_iconst (v := 0) hx hb d_V_forgetAll_11 (by decide) ?_
  refine va_put (D := (dC, dI)) (ci := 4) (v := .int 0) (ty := .boolean) (C := R_V) (T := F_V) (N := 4) hx hb htb in_V ft_V ft_V_ok n_V hown hK hP hD hS 15 (g_V) rfl 2 (by decide) (htb _ k_73) (fun _ h9 => h9) rfl (by decide +kernel) rfl rfl (Nat.le_of_ble_eq_true rfl) d_V_forgetAll_12 (fun H locs hP hD hS => ?_)
  have hP := P_eq (s_V_2) hP
  have hD := D_eq (s_V_2) hD
  have e9 := Option.some.inj hM
  exact W.vret hx hb hr (fun t ht hW => ⟨⟨(w1 (w1 (w1 σ 5 0 0) 5 1 1) 5 2 0), rfl, e9, by rw [ht]; exact hP, va_K.moved hW.alike hK, hD⟩, hS.F ht⟩) hS.2.2 d_V_forgetAll_15

theorem d_T_forgetAll_0 : decode b_T_forgetAll 0 = .ok (.aload_n 0, 1) := by decide +kernel
theorem d_T_forgetAll_1 : decode b_T_forgetAll 1 = .ok (.iconst 0, 1) := by decide +kernel
theorem d_T_forgetAll_2 : decode b_T_forgetAll 2 = .ok (.putfield 18, 3) := by decide +kernel
theorem d_T_forgetAll_5 : decode b_T_forgetAll 5 = .ok (.aload_n 0, 1) := by decide +kernel
theorem d_T_forgetAll_6 : decode b_T_forgetAll 6 = .ok (.iconst 0, 1) := by decide +kernel
theorem d_T_forgetAll_7 : decode b_T_forgetAll 7 = .ok (.putfield 22, 3) := by decide +kernel
theorem d_T_forgetAll_10 : decode b_T_forgetAll 10 = .ok (.aload_n 0, 1) := by decide +kernel
theorem d_T_forgetAll_11 : decode b_T_forgetAll 11 = .ok (.iconst 0, 1) := by decide +kernel
theorem d_T_forgetAll_12 : decode b_T_forgetAll 12 = .ok (.putfield 25, 3) := by decide +kernel
theorem d_T_forgetAll_15 : decode b_T_forgetAll 15 = .ok (.aload_n 0, 1) := by decide +kernel
theorem d_T_forgetAll_16 : decode b_T_forgetAll 16 = .ok (.iconst 0, 1) := by decide +kernel
theorem d_T_forgetAll_17 : decode b_T_forgetAll 17 = .ok (.putfield 28, 3) := by decide +kernel
theorem d_T_forgetAll_20 : decode b_T_forgetAll 20 = .ok (.return_, 1) := by decide +kernel
def m_T_forgetAll (N : Nat) (σ : SX) (i : Nat) : Option (SX) :=
  some (w1 (w1 (w1 (w1 σ (7 + i) 0 0) (7 + i) 1 0) (7 + i) 2 0) (7 + i) 3 0)

set_option maxHeartbeats 4000000 in
set_option maxRecDepth 100000 in
theorem c_T_forgetAll (l : Launch) (dC : Nat → ClassId) (dI : Nat → Nat → Nat) (ad : Nat → Nat → Nat) (cs : Nat → ClassId) (sz N : Nat) (σ : SX) (i : Nat) (hi : i < 4) {σ0 : SX} (hM : m_T_forgetAll N σ i = some σ0) : Met l y_T_forgetAll (wd y_T_forgetAll b_T_forgetAll 1 none) ({ frames := 0, cells := 0, slots := 0, locals := 0 }) (va_Pc [.ref (ad (7 + i) 0)] (preX dC dI ad cs sz σ)) (va_Qv (fun (u : SX) => u = σ0) (atX dC dI ad cs (va_A (wX ad cs σ) sz)) (va_A (wX ad cs σ) sz)) 0 0 (va_A (wX ad cs σ) sz) := by
  refine Met.ofW (cc := b_T_forgetAll) (maxL := 1) (ret := none) (by decide) rfl ?_
  intro p e s m args below meth c s₁ B hml hv
  obtain ⟨rfl, hsz, hP, hK, hD0, hN⟩ := hv
  have hx := B.exec
  have hb := B.bytes
  have hr := B.returns
  have hts := atoms_spec (ws := (wd y_T_forgetAll b_T_forgetAll 1 none)) B.pre
  have htb : ∀ w ∈ tb, w.before _ s = true := fun w h => hts w (List.mem_cons_of_mem _ h)
  have hown : s.vm.findClass R_T = some m.cls := findClass_of_methodNamed B.named
  have hlocks := B.notSynchronized
  subst hsz
  have hD := hD0.self (sz := s.heap.size)
  generalize hAe : va_A (wX ad cs σ) s.heap.size = A at hD ⊢
  have hA : ∀ q : Nat, s.heap.size ≤ q → A q := fun q h => by rw [← hAe]; exact Or.inr h
  have hS : va_S A s.heap s.heap [] := va_S.rf
  have hP : va_P (dC, dI) classes (wX ad cs σ) s.heap := hP
  have hl := lv_entry ([.ref (ad (7 + i) 0)]) (n := 1) (Nat.le_of_ble_eq_true rfl)
  rw [lg_entry_eq]
  generalize (lg_sl ([.ref (ad (7 + i) 0)]) ++ List.replicate (1 - (lg_sl ([.ref (ad (7 + i) 0)])).length) Slot.unset).toArray = ls at hl ⊢
  have hl : lv_has ls 1 [(0, .ref (ad (7 + i) 0))] := hl
  rw [m_T_forgetAll] at hM
  refine lv_aload_n hx hb d_T_forgetAll_0 rfl (lv_at hl 0 rfl) ?_
  refine lv_iconst (v := 0) hx hb d_T_forgetAll_1 (by decide) ?_
  refine va_put (D := (dC, dI)) (ci := 6) (v := .int 0) (ty := .int) (C := R_T) (T := F_T) (N := 6) hx hb htb in_T ft_T ft_T_ok n_T hown hK hP hD hS (19 + 3 * i) (g_T hi) rfl 2 (by decide) (htb _ k_131) (fun _ h9 => h9) rfl (by decide +kernel) rfl rfl (Nat.le_of_ble_eq_true rfl) d_T_forgetAll_2 (fun H locs hP hD hS => ?_)
  have hP := P_eq (s_T_0 hi) hP
  have hD := D_eq (s_T_0 hi) hD
  refine lv_aload_n hx hb d_T_forgetAll_5 rfl (lv_at hl 0 rfl) ?_
  refine lv_iconst (v := 0) hx hb d_T_forgetAll_6 (by decide) ?_
  refine va_put (D := (dC, dI)) (ci := 6) (v := .int 0) (ty := .int) (C := R_T) (T := F_T) (N := 6) hx hb htb in_T ft_T ft_T_ok n_T hown hK hP hD hS (19 + 3 * i) (g_T hi) rfl 3 (by decide) (htb _ k_132) (fun _ h9 => h9) rfl (by decide +kernel) rfl rfl (Nat.le_of_ble_eq_true rfl) d_T_forgetAll_7 (fun H locs hP hD hS => ?_)
  have hP := P_eq (s_T_1 hi) hP
  have hD := D_eq (s_T_1 hi) hD
  refine lv_aload_n hx hb d_T_forgetAll_10 rfl (lv_at hl 0 rfl) ?_
  refine lv_iconst (v := 0) hx hb d_T_forgetAll_11 (by decide) ?_
  refine va_put (D := (dC, dI)) (ci := 6) (v := .int 0) (ty := .int) (C := R_T) (T := F_T) (N := 6) hx hb htb in_T ft_T ft_T_ok n_T hown hK hP hD hS (19 + 3 * i) (g_T hi) rfl 4 (by decide) (htb _ k_133) (fun _ h9 => h9) rfl (by decide +kernel) rfl rfl (Nat.le_of_ble_eq_true rfl) d_T_forgetAll_12 (fun H locs hP hD hS => ?_)
  have hP := P_eq (s_T_2 hi) hP
  have hD := D_eq (s_T_2 hi) hD
  refine lv_aload_n hx hb d_T_forgetAll_15 rfl (lv_at hl 0 rfl) ?_
  refine lv_iconst (v := 0) hx hb d_T_forgetAll_16 (by decide) ?_
  refine va_put (D := (dC, dI)) (ci := 6) (v := .int 0) (ty := .int) (C := R_T) (T := F_T) (N := 6) hx hb htb in_T ft_T ft_T_ok n_T hown hK hP hD hS (19 + 3 * i) (g_T hi) rfl 5 (by decide) (htb _ k_134) (fun _ h9 => h9) rfl (by decide +kernel) rfl rfl (Nat.le_of_ble_eq_true rfl) d_T_forgetAll_17 (fun H locs hP hD hS => ?_)
  have hP := P_eq (s_T_3 hi) hP
  have hD := D_eq (s_T_3 hi) hD
  have e9 := Option.some.inj hM
  exact W.vret hx hb hr (fun t ht hW => ⟨⟨(w1 (w1 (w1 (w1 σ (7 + i) 0 0) (7 + i) 1 0) (7 + i) 2 0) (7 + i) 3 0), rfl, e9, by rw [ht]; exact hP, va_K.moved hW.alike hK, hD⟩, hS.F ht⟩) hS.2.2 d_T_forgetAll_20

theorem d_D_forgetAll_0 : decode b_D_forgetAll 0 = .ok (.aload_n 0, 1) := by decide +kernel
theorem d_D_forgetAll_1 : decode b_D_forgetAll 1 = .ok (.iconst 0, 1) := by decide +kernel
theorem d_D_forgetAll_2 : decode b_D_forgetAll 2 = .ok (.putfield 23, 3) := by decide +kernel
theorem d_D_forgetAll_5 : decode b_D_forgetAll 5 = .ok (.aload_n 0, 1) := by decide +kernel
theorem d_D_forgetAll_6 : decode b_D_forgetAll 6 = .ok (.iconst 0, 1) := by decide +kernel
theorem d_D_forgetAll_7 : decode b_D_forgetAll 7 = .ok (.putfield 27, 3) := by decide +kernel
theorem d_D_forgetAll_10 : decode b_D_forgetAll 10 = .ok (.return_, 1) := by decide +kernel
def m_D_forgetAll (N : Nat) (σ : SX) : Option (SX) :=
  some (w1 (w1 σ 1 0 0) 1 1 0)

set_option maxHeartbeats 4000000 in
set_option maxRecDepth 100000 in
theorem c_D_forgetAll (l : Launch) (dC : Nat → ClassId) (dI : Nat → Nat → Nat) (ad : Nat → Nat → Nat) (cs : Nat → ClassId) (sz N : Nat) (σ : SX) {σ0 : SX} (hM : m_D_forgetAll N σ = some σ0) : Met l y_D_forgetAll (wd y_D_forgetAll b_D_forgetAll 1 none) ({ frames := 0, cells := 0, slots := 0, locals := 0 }) (va_Pc [.ref (ad 1 0)] (preX dC dI ad cs sz σ)) (va_Qv (fun (u : SX) => u = σ0) (atX dC dI ad cs (va_A (wX ad cs σ) sz)) (va_A (wX ad cs σ) sz)) 0 0 (va_A (wX ad cs σ) sz) := by
  refine Met.ofW (cc := b_D_forgetAll) (maxL := 1) (ret := none) (by decide) rfl ?_
  intro p e s m args below meth c s₁ B hml hv
  obtain ⟨rfl, hsz, hP, hK, hD0, hN⟩ := hv
  have hx := B.exec
  have hb := B.bytes
  have hr := B.returns
  have hts := atoms_spec (ws := (wd y_D_forgetAll b_D_forgetAll 1 none)) B.pre
  have htb : ∀ w ∈ tb, w.before _ s = true := fun w h => hts w (List.mem_cons_of_mem _ h)
  have hown : s.vm.findClass R_D = some m.cls := findClass_of_methodNamed B.named
  have hlocks := B.notSynchronized
  subst hsz
  have hD := hD0.self (sz := s.heap.size)
  generalize hAe : va_A (wX ad cs σ) s.heap.size = A at hD ⊢
  have hA : ∀ q : Nat, s.heap.size ≤ q → A q := fun q h => by rw [← hAe]; exact Or.inr h
  have hS : va_S A s.heap s.heap [] := va_S.rf
  have hP : va_P (dC, dI) classes (wX ad cs σ) s.heap := hP
  have hl := lv_entry ([.ref (ad 1 0)]) (n := 1) (Nat.le_of_ble_eq_true rfl)
  rw [lg_entry_eq]
  generalize (lg_sl ([.ref (ad 1 0)]) ++ List.replicate (1 - (lg_sl ([.ref (ad 1 0)])).length) Slot.unset).toArray = ls at hl ⊢
  have hl : lv_has ls 1 [(0, .ref (ad 1 0))] := hl
  rw [m_D_forgetAll] at hM
  refine lv_aload_n hx hb d_D_forgetAll_0 rfl (lv_at hl 0 rfl) ?_
  refine lv_iconst (v := 0) hx hb d_D_forgetAll_1 (by decide) ?_
  refine va_put (D := (dC, dI)) (ci := 1) (v := .int 0) (ty := .int) (C := R_D) (T := F_D) (N := 5) hx hb htb in_D ft_D ft_D_ok n_D hown hK hP hD hS 1 (g_D) rfl 3 (by decide) (htb _ k_35) (fun _ h9 => h9) rfl (by decide +kernel) rfl rfl (Nat.le_of_ble_eq_true rfl) d_D_forgetAll_2 (fun H locs hP hD hS => ?_)
  have hP := P_eq (s_D_0) hP
  have hD := D_eq (s_D_0) hD
  refine lv_aload_n hx hb d_D_forgetAll_5 rfl (lv_at hl 0 rfl) ?_
  refine lv_iconst (v := 0) hx hb d_D_forgetAll_6 (by decide) ?_
  refine va_put (D := (dC, dI)) (ci := 1) (v := .int 0) (ty := .int) (C := R_D) (T := F_D) (N := 5) hx hb htb in_D ft_D ft_D_ok n_D hown hK hP hD hS 1 (g_D) rfl 4 (by decide) (htb _ k_36) (fun _ h9 => h9) rfl (by decide +kernel) rfl rfl (Nat.le_of_ble_eq_true rfl) d_D_forgetAll_7 (fun H locs hP hD hS => ?_)
  have hP := P_eq (s_D_1) hP
  have hD := D_eq (s_D_1) hD
  have e9 := Option.some.inj hM
  exact W.vret hx hb hr (fun t ht hW => ⟨⟨(w1 (w1 σ 1 0 0) 1 1 0), rfl, e9, by rw [ht]; exact hP, va_K.moved hW.alike hK, hD⟩, hS.F ht⟩) hS.2.2 d_D_forgetAll_10

theorem d_S_forgetAll_0 : decode b_S_forgetAll 0 = .ok (.aload_n 0, 1) := by decide +kernel
theorem d_S_forgetAll_1 : decode b_S_forgetAll 1 = .ok (.iconst 0, 1) := by decide +kernel
theorem d_S_forgetAll_2 : decode b_S_forgetAll 2 = .ok (.putfield 19, 3) := by decide +kernel
theorem d_S_forgetAll_5 : decode b_S_forgetAll 5 = .ok (.aload_n 0, 1) := by decide +kernel
theorem d_S_forgetAll_6 : decode b_S_forgetAll 6 = .ok (.iconst 0, 1) := by decide +kernel
theorem d_S_forgetAll_7 : decode b_S_forgetAll 7 = .ok (.putfield 23, 3) := by decide +kernel
theorem d_S_forgetAll_10 : decode b_S_forgetAll 10 = .ok (.return_, 1) := by decide +kernel
def m_S_forgetAll (N : Nat) (σ : SX) (j : Nat) : Option (SX) :=
  some (w1 (w1 σ j 1 0) j 2 0)

set_option maxHeartbeats 4000000 in
set_option maxRecDepth 100000 in
theorem c_S_forgetAll (l : Launch) (dC : Nat → ClassId) (dI : Nat → Nat → Nat) (ad : Nat → Nat → Nat) (cs : Nat → ClassId) (sz N : Nat) (σ : SX) (j : Nat) (hj : j = 2 ∨ j = 3) {σ0 : SX} (hM : m_S_forgetAll N σ j = some σ0) : Met l y_S_forgetAll (wd y_S_forgetAll b_S_forgetAll 1 none) ({ frames := 0, cells := 0, slots := 0, locals := 0 }) (va_Pc [.ref (ad j 0)] (preX dC dI ad cs sz σ)) (va_Qv (fun (u : SX) => u = σ0) (atX dC dI ad cs (va_A (wX ad cs σ) sz)) (va_A (wX ad cs σ) sz)) 0 0 (va_A (wX ad cs σ) sz) := by
  refine Met.ofW (cc := b_S_forgetAll) (maxL := 1) (ret := none) (by decide) rfl ?_
  intro p e s m args below meth c s₁ B hml hv
  obtain ⟨rfl, hsz, hP, hK, hD0, hN⟩ := hv
  have hx := B.exec
  have hb := B.bytes
  have hr := B.returns
  have hts := atoms_spec (ws := (wd y_S_forgetAll b_S_forgetAll 1 none)) B.pre
  have htb : ∀ w ∈ tb, w.before _ s = true := fun w h => hts w (List.mem_cons_of_mem _ h)
  have hown : s.vm.findClass R_S = some m.cls := findClass_of_methodNamed B.named
  have hlocks := B.notSynchronized
  subst hsz
  have hD := hD0.self (sz := s.heap.size)
  generalize hAe : va_A (wX ad cs σ) s.heap.size = A at hD ⊢
  have hA : ∀ q : Nat, s.heap.size ≤ q → A q := fun q h => by rw [← hAe]; exact Or.inr h
  have hS : va_S A s.heap s.heap [] := va_S.rf
  have hP : va_P (dC, dI) classes (wX ad cs σ) s.heap := hP
  have hl := lv_entry ([.ref (ad j 0)]) (n := 1) (Nat.le_of_ble_eq_true rfl)
  rw [lg_entry_eq]
  generalize (lg_sl ([.ref (ad j 0)]) ++ List.replicate (1 - (lg_sl ([.ref (ad j 0)])).length) Slot.unset).toArray = ls at hl ⊢
  have hl : lv_has ls 1 [(0, .ref (ad j 0))] := hl
  rw [m_S_forgetAll] at hM
  refine lv_aload_n hx hb d_S_forgetAll_0 rfl (lv_at hl 0 rfl) ?_
  refine lv_iconst (v := 0) hx hb d_S_forgetAll_1 (by decide) ?_
  refine va_put (D := (dC, dI)) (ci := 2) (v := .int 0) (ty := .int) (C := R_S) (T := F_S) (N := 5) hx hb htb in_S ft_S ft_S_ok n_S hown hK hP hD hS (3 * j + 1) (g_S hj) rfl 3 (by decide) (htb _ k_110) (fun _ h9 => h9) rfl (by decide +kernel) rfl rfl (Nat.le_of_ble_eq_true rfl) d_S_forgetAll_2 (fun H locs hP hD hS => ?_)
  have hP := P_eq (s_S_1 hj) hP
  have hD := D_eq (s_S_1 hj) hD
  refine lv_aload_n hx hb d_S_forgetAll_5 rfl (lv_at hl 0 rfl) ?_
  refine lv_iconst (v := 0) hx hb d_S_forgetAll_6 (by decide) ?_
  refine va_put (D := (dC, dI)) (ci := 2) (v := .int 0) (ty := .int) (C := R_S) (T := F_S) (N := 5) hx hb htb in_S ft_S ft_S_ok n_S hown hK hP hD hS (3 * j + 1) (g_S hj) rfl 4 (by decide) (htb _ k_111) (fun _ h9 => h9) rfl (by decide +kernel) rfl rfl (Nat.le_of_ble_eq_true rfl) d_S_forgetAll_7 (fun H locs hP hD hS => ?_)
  have hP := P_eq (s_S_2 hj) hP
  have hD := D_eq (s_S_2 hj) hD
  have e9 := Option.some.inj hM
  exact W.vret hx hb hr (fun t ht hW => ⟨⟨(w1 (w1 σ j 1 0) j 2 0), rfl, e9, by rw [ht]; exact hP, va_K.moved hW.alike hK, hD⟩, hS.F ht⟩) hS.2.2 d_S_forgetAll_10

theorem d_O_clear_0 : decode b_O_clear 0 = .ok (.aload_n 0, 1) := by decide +kernel
theorem d_O_clear_1 : decode b_O_clear 1 = .ok (.getfield 10, 3) := by decide +kernel
theorem d_O_clear_4 : decode b_O_clear 4 = .ok (.invokevirtual 108, 3) := by decide +kernel
theorem d_O_clear_7 : decode b_O_clear 7 = .ok (.istore_n 1, 1) := by decide +kernel
theorem d_O_clear_8 : decode b_O_clear 8 = .ok (.aload_n 0, 1) := by decide +kernel
theorem d_O_clear_9 : decode b_O_clear 9 = .ok (.getfield 10, 3) := by decide +kernel
theorem d_O_clear_12 : decode b_O_clear 12 = .ok (.invokevirtual 112, 3) := by decide +kernel
theorem d_O_clear_15 : decode b_O_clear 15 = .ok (.aload_n 0, 1) := by decide +kernel
theorem d_O_clear_16 : decode b_O_clear 16 = .ok (.getfield 65, 3) := by decide +kernel
theorem d_O_clear_19 : decode b_O_clear 19 = .ok (.invokevirtual 115, 3) := by decide +kernel
theorem d_O_clear_22 : decode b_O_clear 22 = .ok (.iconst 0, 1) := by decide +kernel
theorem d_O_clear_23 : decode b_O_clear 23 = .ok (.istore_n 2, 1) := by decide +kernel
theorem d_O_clear_24 : decode b_O_clear 24 = .ok (.iload_n 2, 1) := by decide +kernel
theorem d_O_clear_25 : decode b_O_clear 25 = .ok (.iconst 4, 1) := by decide +kernel
theorem d_O_clear_26 : decode b_O_clear 26 = .ok (.if_icmp .ge 18, 3) := by decide +kernel
theorem d_O_clear_29 : decode b_O_clear 29 = .ok (.aload_n 0, 1) := by decide +kernel
theorem d_O_clear_30 : decode b_O_clear 30 = .ok (.getfield 39, 3) := by decide +kernel
theorem d_O_clear_33 : decode b_O_clear 33 = .ok (.iload_n 2, 1) := by decide +kernel
theorem d_O_clear_34 : decode b_O_clear 34 = .ok (.aaload, 1) := by decide +kernel
theorem d_O_clear_35 : decode b_O_clear 35 = .ok (.invokevirtual 116, 3) := by decide +kernel
theorem d_O_clear_38 : decode b_O_clear 38 = .ok (.iinc 2 1, 3) := by decide +kernel
theorem d_O_clear_41 : decode b_O_clear 41 = .ok (.goto (-17), 3) := by decide +kernel
theorem d_O_clear_44 : decode b_O_clear 44 = .ok (.aload_n 0, 1) := by decide +kernel
theorem d_O_clear_45 : decode b_O_clear 45 = .ok (.getfield 26, 3) := by decide +kernel
theorem d_O_clear_48 : decode b_O_clear 48 = .ok (.invokevirtual 117, 3) := by decide +kernel
theorem d_O_clear_51 : decode b_O_clear 51 = .ok (.aload_n 0, 1) := by decide +kernel
theorem d_O_clear_52 : decode b_O_clear 52 = .ok (.iconst 0, 1) := by decide +kernel
theorem d_O_clear_53 : decode b_O_clear 53 = .ok (.putfield 53, 3) := by decide +kernel
theorem d_O_clear_56 : decode b_O_clear 56 = .ok (.aload_n 0, 1) := by decide +kernel
theorem d_O_clear_57 : decode b_O_clear 57 = .ok (.iconst 0, 1) := by decide +kernel
theorem d_O_clear_58 : decode b_O_clear 58 = .ok (.putfield 57, 3) := by decide +kernel
theorem d_O_clear_61 : decode b_O_clear 61 = .ok (.iload_n 1, 1) := by decide +kernel
theorem d_O_clear_62 : decode b_O_clear 62 = .ok (.ireturn, 1) := by decide +kernel
def m_O_clear_24 (N : Nat) : Nat → SX → Int32 → Int32 → Option (Int32 × SX)
  | 0, _, _, _ => none
  | n24 + 1, σ, v1, v2 =>
    (if 4 ≤ v2 then (bV (m_V_forgetAll N σ) fun σ48 => some (v1, (w1 (w1 σ48 0 0 0) 0 1 0))) else (if inb v2 4 = true then (bV (m_T_forgetAll N σ v2.toNatClampNeg) fun σ35 => m_O_clear_24 N n24 σ35 v1 (v2 + 1)) else none))

def m_O_clear (N : Nat) (σ : SX) : Option (Int32 × SX) :=
  (bI (m_D_cardCount N σ) fun r4 σ4 => (bV (m_D_forgetAll N σ) fun σ12 => (bV (m_S_forgetAll N σ12 2) fun σ19 => m_O_clear_24 N N σ19 r4 0)))

set_option maxHeartbeats 4000000 in
set_option maxRecDepth 100000 in
theorem c_O_clear (l : Launch) (dC : Nat → ClassId) (dI : Nat → Nat → Nat) (ad : Nat → Nat → Nat) (cs : Nat → ClassId) (sz N : Nat) (σ : SX) {r0 : Int32} {σ0 : SX} (hM : m_O_clear N σ = some (r0, σ0)) : Met l y_O_clear (wd y_O_clear b_O_clear 3 (some .int)) ({ frames := 1, cells := 0, slots := 0, locals := 20 }) (va_Pc [.ref (ad 0 0)] (preX dC dI ad cs sz σ)) (va_Qi (fun (r : Int32) (u : SX) => r = r0 ∧ u = σ0) (atX dC dI ad cs (va_A (wX ad cs σ) sz)) (va_A (wX ad cs σ) sz)) 0 0 (va_A (wX ad cs σ) sz) := by
  refine Met.ofW (cc := b_O_clear) (maxL := 3) (ret := (some .int)) (by decide) rfl ?_
  intro p e s m args below meth c s₁ B hml hv
  obtain ⟨rfl, hsz, hP, hK, hD0, hN⟩ := hv
  have hx := B.exec
  have hb := B.bytes
  have hr := B.returns
  have hts := atoms_spec (ws := (wd y_O_clear b_O_clear 3 (some .int))) B.pre
  have htb : ∀ w ∈ tb, w.before _ s = true := fun w h => hts w (List.mem_cons_of_mem _ h)
  have hown : s.vm.findClass R_O = some m.cls := findClass_of_methodNamed B.named
  have hlocks := B.notSynchronized
  subst hsz
  have hD := hD0.self (sz := s.heap.size)
  generalize hAe : va_A (wX ad cs σ) s.heap.size = A at hD ⊢
  have hA : ∀ q : Nat, s.heap.size ≤ q → A q := fun q h => by rw [← hAe]; exact Or.inr h
  have hS : va_S A s.heap s.heap [] := va_S.rf
  have hP : va_P (dC, dI) classes (wX ad cs σ) s.heap := hP
  have hl := lv_entry ([.ref (ad 0 0)]) (n := 3) (Nat.le_of_ble_eq_true rfl)
  rw [lg_entry_eq]
  generalize (lg_sl ([.ref (ad 0 0)]) ++ List.replicate (3 - (lg_sl ([.ref (ad 0 0)])).length) Slot.unset).toArray = ls at hl ⊢
  have hl : lv_has ls 3 [(0, .ref (ad 0 0))] := hl
  rw [m_O_clear] at hM
  refine W_loop (pc := 24) (fun n24 H locs ls st => ∃ (σ : SX) (v1 : Int32) (v2 : Int32), st = [] ∧ m_O_clear_24 N n24 σ v1 v2 = some (r0, σ0) ∧ lv_has ls 3 [(0, .ref (ad 0 0)), (1, .int v1), (2, .int v2)] ∧ va_P (dC, dI) classes (wX ad cs σ) H ∧ va_D A (wX ad cs σ) ∧ va_S A s.heap H locs) ?_ ?_ ?_
  · rintro H locs ls st ⟨σ, v1, v2, -, hM, -⟩
    rw [m_O_clear_24] at hM; cases hM
  · intro n24 K24 H locs ls st hI
    obtain ⟨σ, v1, v2, rfl, hM, hl, hP, hD, hS⟩ := hI
    rw [m_O_clear_24] at hM
    refine lv_iload_n hx hb d_O_clear_24 rfl (lv_at hl 2 rfl) ?_
    refine lv_iconst (v := 4) hx hb d_O_clear_25 (by decide) ?_
    refine lv_icmp_ge (tgt := 44) hx hb d_O_clear_26 (by decide) (fun h26 => ?_) (fun h26 => ?_)
    · rw [if_pos h26] at hM
      refine lv_aload_n hx hb d_O_clear_44 rfl (lv_at hl 0 rfl) ?_
      refine va_get (D := (dC, dI)) (ci := 0) (v := .ref (ad 5 0)) (C := R_O) (T := F_O) (N := 12) hx hb htb in_O hown hK hP 0 (g_O) rfl 4 (by decide) (htb _ k_152) (fun _ h9 => h9) rfl d_O_clear_45 ?_
      have hF1 := free_all hD hS hA
      obtain ⟨y48, hq48, hM⟩ := bV_some hM
      refine va_callv (va_runV (As := []) (rest := []) ⟨hx, hb, hml, hown, hts⟩ (c_V_forgetAll l dC dI ad cs _ N σ hq48) (cwV 0 hts (goodV k_205 k_206 k_207 k_4 k_208) rfl rfl rfl ⟨rfl, by decide, by decide, by decide +kernel⟩ ⟨Nat.le_of_ble_eq_true rfl, Nat.le_of_ble_eq_true rfl⟩) ⟨blindX, va_recv hK hP rfl (g_V), payX hP hK hD hN⟩ rfl rfl hl.1 rfl (lv_room (Nat.le_of_ble_eq_true rfl)) d_O_clear_48 ⟨Nat.zero_le _, Nat.zero_le _⟩) hS (fun q _ h => hF1 q h) hF1 (fun σ48 t H locs ht hvm hpost hB hz1 hk1 hS => ?_)
      subst hpost
      obtain ⟨hP1, hK1, hD1⟩ := hB
      rw [ht] at hP1
      have hP := hP1
      have hD := hD1.weaken (fun _ _ _ h => hF1 _ h)
      refine lv_aload_n hx hb d_O_clear_51 rfl (lv_at hl 0 rfl) ?_
      refine lv_iconst (v := 0) hx hb d_O_clear_52 (by decide) ?_
      refine va_put (D := (dC, dI)) (ci := 0) (v := .int 0) (ty := .int) (C := R_O) (T := F_O) (N := 12) hx hb htb in_O ft_O ft_O_ok n_O hown hK hP hD hS 0 (g_O) rfl 10 (by decide) (htb _ k_158) (fun _ h9 => h9) rfl (by decide +kernel) rfl rfl (Nat.le_of_ble_eq_true rfl) d_O_clear_53 (fun H locs hP hD hS => ?_)
      have hP := P_eq (s_O_0) hP
      have hD := D_eq (s_O_0) hD
      refine lv_aload_n hx hb d_O_clear_56 rfl (lv_at hl 0 rfl) ?_
      refine lv_iconst (v := 0) hx hb d_O_clear_57 (by decide) ?_
      refine va_put (D := (dC, dI)) (ci := 0) (v := .int 0) (ty := .int) (C := R_O) (T := F_O) (N := 12) hx hb htb in_O ft_O ft_O_ok n_O hown hK hP hD hS 0 (g_O) rfl 11 (by decide) (htb _ k_159) (fun _ h9 => h9) rfl (by decide +kernel) rfl rfl (Nat.le_of_ble_eq_true rfl) d_O_clear_58 (fun H locs hP hD hS => ?_)
      have hP := P_eq (s_O_1) hP
      have hD := D_eq (s_O_1) hD
      refine lv_iload_n hx hb d_O_clear_61 rfl (lv_at hl 1 rfl) ?_
      have e9 := Prod.mk.inj (Option.some.inj hM)
      exact W.iret (v := v1) hx hb hr (fun t ht hW => ⟨⟨v1, (w1 (w1 σ48 0 0 0) 0 1 0), rfl, e9, by rw [ht]; exact hP, va_K.moved hW.alike hK, hD⟩, hS.F ht⟩) hS.2.2 d_O_clear_62
    · rw [if_neg h26] at hM
      refine lv_aload_n hx hb d_O_clear_29 rfl (lv_at hl 0 rfl) ?_
      refine va_get (D := (dC, dI)) (ci := 0) (v := .ref (ad 0 9)) (C := R_O) (T := F_O) (N := 12) hx hb htb in_O hown hK hP 0 (g_O) rfl 6 (by decide) (htb _ k_154) (fun _ h9 => h9) rfl d_O_clear_30 ?_
      refine lv_iload_n hx hb d_O_clear_33 rfl (lv_at hl 2 rfl) ?_
      have hg34 := gd_c hM
      have hM := gd_v hM
      refine va_aldq hx hb hK hP 18 2 (f := fun i => some (ad (7 + i) 0)) g_tapes rfl (inb_in hg34) d_O_clear_34 ?_
      refine W.eq (g2 := F0 m 35 ls [.ref (ad (7 + v2.toNatClampNeg) 0)]) rfl ?_
      have hF1 := free_all hD hS hA
      obtain ⟨y35, hq35, hM⟩ := bV_some hM
      refine va_callv (va_runV (As := []) (rest := []) ⟨hx, hb, hml, hown, hts⟩ (c_T_forgetAll l dC dI ad cs _ N σ v2.toNatClampNeg (inb_lt hg34) hq35) (cwV 0 hts (goodV k_201 k_202 k_203 k_7 k_204) rfl rfl rfl ⟨rfl, by decide, by decide, by decide +kernel⟩ ⟨Nat.le_of_ble_eq_true rfl, Nat.le_of_ble_eq_true rfl⟩) ⟨blindX, va_recv hK hP rfl (g_T (inb_lt hg34)), payX hP hK hD hN⟩ rfl rfl hl.1 rfl (lv_room (Nat.le_of_ble_eq_true rfl)) d_O_clear_35 ⟨Nat.zero_le _, Nat.zero_le _⟩) hS (fun q _ h => hF1 q h) hF1 (fun σ35 t H locs ht hvm hpost hB hz1 hk1 hS => ?_)
      subst hpost
      obtain ⟨hP1, hK1, hD1⟩ := hB
      rw [ht] at hP1
      have hP := hP1
      have hD := hD1.weaken (fun _ _ _ h => hF1 _ h)
      refine lv_iinc (k := 2) (v := (v2 + 1)) hx hb d_O_clear_38 hl rfl rfl (by decide) (lv' := [(2, .int (v2 + 1)), (0, .ref (ad 0 0)), (1, .int v1)]) rfl (fun ls hl => ?_)
      refine lv_goto (tgt := 24) hx hb d_O_clear_41 (by decide) ?_
      exact K24 _ _ _ _ ⟨σ35, v1, (v2 + 1), rfl, hM, lv_sub hl [1, 2, 0] rfl, hP, hD, hS⟩
  intro K24
  refine lv_aload_n hx hb d_O_clear_0 rfl (lv_at hl 0 rfl) ?_
  refine va_get (D := (dC, dI)) (ci := 0) (v := .ref (ad 1 0)) (C := R_O) (T := F_O) (N := 12) hx hb htb in_O hown hK hP 0 (g_O) rfl 0 (by decide) (htb _ k_148) (fun _ h9 => h9) rfl d_O_clear_1 ?_
  obtain ⟨x4, y4, hq4, hM⟩ := bI_some hM
  refine va_calli (va_runV (As := []) (rest := []) ⟨hx, hb, hml, hown, hts⟩ (c_D_cardCount l dC dI ad cs _ N σ hq4) (cwV 0 hts (goodV k_189 k_190 k_191 k_2 k_192) rfl rfl rfl ⟨rfl, by decide, by decide, by decide +kernel⟩ ⟨Nat.le_of_ble_eq_true rfl, Nat.le_of_ble_eq_true rfl⟩) ⟨blindX, va_recv hK hP rfl (g_D), payX hP hK hD hN⟩ rfl rfl hl.1 rfl (lv_room (Nat.le_of_ble_eq_true rfl)) d_O_clear_4 ⟨Nat.zero_le _, Nat.zero_le _⟩) hS (fun q h0 h => absurd h0 (Nat.not_lt.mpr h)) (fun q h => hA q (Nat.le_trans hS.1 h)) (fun r4 u t H locs ht hvm hpost hB hz1 hk1 hS => ?_)
  obtain ⟨e1, e2⟩ := hpost
  subst e1
  subst e2
  have hP := keepP hP hk1
  refine lv_istore_n hx hb d_O_clear_7 rfl hl (by decide) (lv' := [(1, .int r4), (0, .ref (ad 0 0))]) rfl (fun ls hl => ?_)
  refine lv_aload_n hx hb d_O_clear_8 rfl (lv_at hl 1 rfl) ?_
  refine va_get (D := (dC, dI)) (ci := 0) (v := .ref (ad 1 0)) (C := R_O) (T := F_O) (N := 12) hx hb htb in_O hown hK hP 0 (g_O) rfl 0 (by decide) (htb _ k_148) (fun _ h9 => h9) rfl d_O_clear_9 ?_
  have hF1 := free_all hD hS hA
  obtain ⟨y12, hq12, hM⟩ := bV_some hM
  refine va_callv (va_runV (As := []) (rest := []) ⟨hx, hb, hml, hown, hts⟩ (c_D_forgetAll l dC dI ad cs _ N σ hq12) (cwV 0 hts (goodV k_193 k_194 k_195 k_2 k_196) rfl rfl rfl ⟨rfl, by decide, by decide, by decide +kernel⟩ ⟨Nat.le_of_ble_eq_true rfl, Nat.le_of_ble_eq_true rfl⟩) ⟨blindX, va_recv hK hP rfl (g_D), payX hP hK hD hN⟩ rfl rfl hl.1 rfl (lv_room (Nat.le_of_ble_eq_true rfl)) d_O_clear_12 ⟨Nat.zero_le _, Nat.zero_le _⟩) hS (fun q _ h => hF1 q h) hF1 (fun σ12 t H locs ht hvm hpost hB hz1 hk1 hS => ?_)
  subst hpost
  obtain ⟨hP1, hK1, hD1⟩ := hB
  rw [ht] at hP1
  have hP := hP1
  have hD := hD1.weaken (fun _ _ _ h => hF1 _ h)
  refine lv_aload_n hx hb d_O_clear_15 rfl (lv_at hl 1 rfl) ?_
  refine va_get (D := (dC, dI)) (ci := 0) (v := .ref (ad 2 0)) (C := R_O) (T := F_O) (N := 12) hx hb htb in_O hown hK hP 0 (g_O) rfl 1 (by decide) (htb _ k_149) (fun _ h9 => h9) rfl d_O_clear_16 ?_
  have hF1 := free_all hD hS hA
  obtain ⟨y19, hq19, hM⟩ := bV_some hM
  refine va_callv (va_runV (As := []) (rest := []) ⟨hx, hb, hml, hown, hts⟩ (c_S_forgetAll l dC dI ad cs _ N σ12 2 (Or.inl rfl) hq19) (cwV 0 hts (goodV k_197 k_198 k_199 k_6 k_200) rfl rfl rfl ⟨rfl, by decide, by decide, by decide +kernel⟩ ⟨Nat.le_of_ble_eq_true rfl, Nat.le_of_ble_eq_true rfl⟩) ⟨blindX, va_recv hK hP rfl (g_S (Or.inl rfl)), payX hP hK hD hN⟩ rfl rfl hl.1 rfl (lv_room (Nat.le_of_ble_eq_true rfl)) d_O_clear_19 ⟨Nat.zero_le _, Nat.zero_le _⟩) hS (fun q _ h => hF1 q h) hF1 (fun σ19 t H locs ht hvm hpost hB hz1 hk1 hS => ?_)
  subst hpost
  obtain ⟨hP1, hK1, hD1⟩ := hB
  rw [ht] at hP1
  have hP := hP1
  have hD := hD1.weaken (fun _ _ _ h => hF1 _ h)
  refine lv_iconst (v := 0) hx hb d_O_clear_22 (by decide) ?_
  refine lv_istore_n hx hb d_O_clear_23 rfl hl (by decide) (lv' := [(2, .int 0), (1, .int r4), (0, .ref (ad 0 0))]) rfl (fun ls hl => ?_)
  exact K24 N _ _ _ _ ⟨σ19, r4, 0, rfl, hM, lv_sub hl [2, 1, 0] rfl, hP, hD, hS⟩
