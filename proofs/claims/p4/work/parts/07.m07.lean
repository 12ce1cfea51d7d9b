theorem d_M_first_0 : decode b_M_first 0 = .ok (.iconst (-1), 1) := by decide +kernel
theorem d_M_first_1 : decode b_M_first 1 = .ok (.istore_n 1, 1) := by decide +kernel
theorem d_M_first_2 : decode b_M_first 2 = .ok (.iconst 0, 1) := by decide +kernel
theorem d_M_first_3 : decode b_M_first 3 = .ok (.istore_n 2, 1) := by decide +kernel
theorem d_M_first_4 : decode b_M_first 4 = .ok (.iload_n 2, 1) := by decide +kernel
theorem d_M_first_5 : decode b_M_first 5 = .ok (.aload_n 0, 1) := by decide +kernel
theorem d_M_first_6 : decode b_M_first 6 = .ok (.getfield 123, 3) := by decide +kernel
theorem d_M_first_9 : decode b_M_first 9 = .ok (.if_icmp .ge 47, 3) := by decide +kernel
theorem d_M_first_12 : decode b_M_first 12 = .ok (.aload_n 0, 1) := by decide +kernel
theorem d_M_first_13 : decode b_M_first 13 = .ok (.getfield 58, 3) := by decide +kernel
theorem d_M_first_16 : decode b_M_first 16 = .ok (.iload_n 2, 1) := by decide +kernel
theorem d_M_first_17 : decode b_M_first 17 = .ok (.baload, 1) := by decide +kernel
theorem d_M_first_18 : decode b_M_first 18 = .ok (.ifCond .ne 30, 3) := by decide +kernel
theorem d_M_first_21 : decode b_M_first 21 = .ok (.iload_n 1, 1) := by decide +kernel
theorem d_M_first_22 : decode b_M_first 22 = .ok (.ifCond .lt 22, 3) := by decide +kernel
theorem d_M_first_25 : decode b_M_first 25 = .ok (.aload_n 0, 1) := by decide +kernel
theorem d_M_first_26 : decode b_M_first 26 = .ok (.aload_n 0, 1) := by decide +kernel
theorem d_M_first_27 : decode b_M_first 27 = .ok (.getfield 55, 3) := by decide +kernel
theorem d_M_first_30 : decode b_M_first 30 = .ok (.iload_n 2, 1) := by decide +kernel
theorem d_M_first_31 : decode b_M_first 31 = .ok (.iaload, 1) := by decide +kernel
theorem d_M_first_32 : decode b_M_first 32 = .ok (.aload_n 0, 1) := by decide +kernel
theorem d_M_first_33 : decode b_M_first 33 = .ok (.getfield 55, 3) := by decide +kernel
theorem d_M_first_36 : decode b_M_first 36 = .ok (.iload_n 1, 1) := by decide +kernel
theorem d_M_first_37 : decode b_M_first 37 = .ok (.iaload, 1) := by decide +kernel
theorem d_M_first_38 : decode b_M_first 38 = .ok (.invokevirtual 92, 3) := by decide +kernel
theorem d_M_first_41 : decode b_M_first 41 = .ok (.ifCond .eq 7, 3) := by decide +kernel
theorem d_M_first_44 : decode b_M_first 44 = .ok (.iload_n 2, 1) := by decide +kernel
theorem d_M_first_45 : decode b_M_first 45 = .ok (.goto 4, 3) := by decide +kernel
theorem d_M_first_48 : decode b_M_first 48 = .ok (.iload_n 1, 1) := by decide +kernel
theorem d_M_first_49 : decode b_M_first 49 = .ok (.istore_n 1, 1) := by decide +kernel
theorem d_M_first_50 : decode b_M_first 50 = .ok (.iinc 2 1, 3) := by decide +kernel
theorem d_M_first_53 : decode b_M_first 53 = .ok (.goto (-49), 3) := by decide +kernel
theorem d_M_first_56 : decode b_M_first 56 = .ok (.iload_n 1, 1) := by decide +kernel
theorem d_M_first_57 : decode b_M_first 57 = .ok (.ireturn, 1) := by decide +kernel
def m_M_first_4 (N : Nat) : Nat → SX → Int32 → Int32 → Option (Int32 × SX)
  | 0, _, _, _ => none
  | n4 + 1, σ, v1, v2 =>
    (if ((σ 0).1 14) ≤ v2 then some (v1, σ) else (if inb v2 8 = true then (if ((σ 0).2 14 v2.toNatClampNeg) = 0 then (if v1 < 0 then m_M_first_4 N n4 σ v2 (v2 + 1) else (if inb v2 8 = true then (if inb v1 8 = true then (bI (m_M_comesFirst N σ ((σ 0).2 13 v2.toNatClampNeg) ((σ 0).2 13 v1.toNatClampNeg)) fun r38 σ38 => (if r38 = 0 then m_M_first_4 N n4 σ38 v1 (v2 + 1) else m_M_first_4 N n4 σ38 v2 (v2 + 1))) else none) else none)) else m_M_first_4 N n4 σ v1 (v2 + 1)) else none))

def m_M_first (N : Nat) (σ : SX) : Option (Int32 × SX) :=
  m_M_first_4 N N σ (-1) 0

set_option maxHeartbeats 4000000 in
set_option maxRecDepth 100000 in
theorem c_M_first (l : Launch) (dC : Nat → ClassId) (dI : Nat → Nat → Nat) (ad : Nat → Nat → Nat) (cs : Nat → ClassId) (sz N : Nat) (σ : SX) {r0 : Int32} {σ0 : SX} (hM : m_M_first N σ = some (r0, σ0)) : Met l y_M_first (wd y_M_first b_M_first 3 (some .int)) ({ frames := 2, cells := 0, slots := 0, locals := 48 }) (va_Pc [.ref (ad 0 0)] (preM dC dI ad cs sz σ)) (va_Qi (fun (r : Int32) (u : SX) => r = r0 ∧ u = σ0) (atM dC dI ad cs (va_A (wM ad cs σ) sz)) (va_A (wM ad cs σ) sz)) 0 0 (va_A (wM ad cs σ) sz) := by
  refine Met.ofW (cc := b_M_first) (maxL := 3) (ret := (some .int)) (by decide) rfl ?_
  intro p e s m args below meth c s₁ B hml hv
  obtain ⟨rfl, hsz, hP, hK, hD0, hN⟩ := hv
  have hx := B.exec
  have hb := B.bytes
  have hr := B.returns
  have hts := atoms_spec (ws := (wd y_M_first b_M_first 3 (some .int))) B.pre
  have htb : ∀ w ∈ tb, w.before _ s = true := fun w h => hts w (List.mem_cons_of_mem _ h)
  have hown : s.vm.findClass R_M = some m.cls := findClass_of_methodNamed B.named
  have hlocks := B.notSynchronized
  subst hsz
  have hD := hD0.self (sz := s.heap.size)
  generalize hAe : va_A (wM ad cs σ) s.heap.size = A at hD ⊢
  have hA : ∀ q : Nat, s.heap.size ≤ q → A q := fun q h => by rw [← hAe]; exact Or.inr h
  have hS : va_S A s.heap s.heap [] := va_S.rf
  have hP : va_P (dC, dI) classes (wM ad cs σ) s.heap := hP
  have hl := lv_entry ([.ref (ad 0 0)]) (n := 3) (Nat.le_of_ble_eq_true rfl)
  rw [lg_entry_eq]
  generalize (lg_sl ([.ref (ad 0 0)]) ++ List.replicate (3 - (lg_sl ([.ref (ad 0 0)])).length) Slot.unset).toArray = ls at hl ⊢
  have hl : lv_has ls 3 [(0, .ref (ad 0 0))] := hl
  rw [m_M_first] at hM
  refine W_loop (pc := 4) (fun n4 H locs ls st => ∃ (σ : SX) (v1 : Int32) (v2 : Int32), st = [] ∧ m_M_first_4 N n4 σ v1 v2 = some (r0, σ0) ∧ lv_has ls 3 [(0, .ref (ad 0 0)), (1, .int v1), (2, .int v2)] ∧ va_P (dC, dI) classes (wM ad cs σ) H ∧ va_D A (wM ad cs σ) ∧ va_S A s.heap H locs) ?_ ?_ ?_
  · rintro H locs ls st ⟨σ, v1, v2, -, hM, -⟩
    rw [m_M_first_4] at hM; cases hM
  · intro n4 K4 H locs ls st hI
    obtain ⟨σ, v1, v2, rfl, hM, hl, hP, hD, hS⟩ := hI
    rw [m_M_first_4] at hM
    refine lv_iload_n hx hb d_M_first_4 rfl (lv_at hl 2 rfl) ?_
    refine lv_aload_n hx hb d_M_first_5 rfl (lv_at hl 0 rfl) ?_
    refine va_get (D := (dC, dI)) (ci := 7) (v := .int ((σ 0).1 14)) (C := R_M) (T := F_M) (N := 33) hx hb htb in_M hown hK hP 0 (g_M) rfl 26 (by decide) (htb _ k_645) (fun _ h9 => h9) rfl d_M_first_6 ?_
    refine lv_icmp_ge (tgt := 56) hx hb d_M_first_9 (by decide) (fun h9 => ?_) (fun h9 => ?_)
    · rw [if_pos h9] at hM
      refine lv_iload_n hx hb d_M_first_56 rfl (lv_at hl 1 rfl) ?_
      have e9 := Prod.mk.inj (Option.some.inj hM)
      exact W.iret (v := v1) hx hb hr (fun t ht hW => ⟨⟨v1, σ, rfl, e9, by rw [ht]; exact hP, va_K.moved hW.alike hK, hD⟩, hS.F ht⟩) hS.2.2 d_M_first_57
    · rw [if_neg h9] at hM
      refine lv_aload_n hx hb d_M_first_12 rfl (lv_at hl 0 rfl) ?_
      refine va_get (D := (dC, dI)) (ci := 7) (v := .ref (ad 0 14)) (C := R_M) (T := F_M) (N := 33) hx hb htb in_M hown hK hP 0 (g_M) rfl 28 (by decide) (htb _ k_647) (fun _ h9 => h9) rfl d_M_first_13 ?_
      refine lv_iload_n hx hb d_M_first_16 rfl (lv_at hl 2 rfl) ?_
      have hg17 := gd_c hM
      have hM := gd_v hM
      refine va_zald hx hb hK hP 14 1 (g_M_a14) rfl (inb_in hg17) d_M_first_17 ?_
      refine lv_if_ne (tgt := 48) hx hb d_M_first_18 (by decide) (fun h18 => ?_) (fun h18 => ?_)
      · rw [if_neg h18] at hM
        refine lv_iload_n hx hb d_M_first_48 rfl (lv_at hl 1 rfl) ?_
        refine lv_istore_n hx hb d_M_first_49 rfl hl (by decide) (lv' := [(1, .int v1), (0, .ref (ad 0 0)), (2, .int v2)]) rfl (fun ls hl => ?_)
        refine lv_iinc (k := 2) (v := (v2 + 1)) hx hb d_M_first_50 hl rfl rfl (by decide) (lv' := [(2, .int (v2 + 1)), (1, .int v1), (0, .ref (ad 0 0))]) rfl (fun ls hl => ?_)
        refine lv_goto (tgt := 4) hx hb d_M_first_53 (by decide) ?_
        exact K4 _ _ _ _ ⟨σ, v1, (v2 + 1), rfl, hM, lv_sub hl [2, 1, 0] rfl, hP, hD, hS⟩
      · rw [if_pos h18] at hM
        refine lv_iload_n hx hb d_M_first_21 rfl (lv_at hl 1 rfl) ?_
        refine lv_if_lt (tgt := 44) hx hb d_M_first_22 (by decide) (fun h22 => ?_) (fun h22 => ?_)
        · rw [if_pos h22] at hM
          refine lv_iload_n hx hb d_M_first_44 rfl (lv_at hl 2 rfl) ?_
          refine lv_goto (tgt := 49) hx hb d_M_first_45 (by decide) ?_
          refine lv_istore_n hx hb d_M_first_49 rfl hl (by decide) (lv' := [(1, .int v2), (0, .ref (ad 0 0)), (2, .int v2)]) rfl (fun ls hl => ?_)
          refine lv_iinc (k := 2) (v := (v2 + 1)) hx hb d_M_first_50 hl rfl rfl (by decide) (lv' := [(2, .int (v2 + 1)), (1, .int v2), (0, .ref (ad 0 0))]) rfl (fun ls hl => ?_)
          refine lv_goto (tgt := 4) hx hb d_M_first_53 (by decide) ?_
          exact K4 _ _ _ _ ⟨σ, v2, (v2 + 1), rfl, hM, lv_sub hl [2, 1, 0] rfl, hP, hD, hS⟩
        · rw [if_neg h22] at hM
          refine lv_aload_n hx hb d_M_first_25 rfl (lv_at hl 0 rfl) ?_
          refine lv_aload_n hx hb d_M_first_26 rfl (lv_at hl 0 rfl) ?_
          refine va_get (D := (dC, dI)) (ci := 7) (v := .ref (ad 0 13)) (C := R_M) (T := F_M) (N := 33) hx hb htb in_M hown hK hP 0 (g_M) rfl 27 (by decide) (htb _ k_646) (fun _ h9 => h9) rfl d_M_first_27 ?_
          refine lv_iload_n hx hb d_M_first_30 rfl (lv_at hl 2 rfl) ?_
          have hg31 := gd_c hM
          have hM := gd_v hM
          refine va_iald hx hb hK hP 13 0 (g_M_a13) rfl (inb_in hg31) d_M_first_31 ?_
          refine lv_aload_n hx hb d_M_first_32 rfl (lv_at hl 0 rfl) ?_
          refine va_get (D := (dC, dI)) (ci := 7) (v := .ref (ad 0 13)) (C := R_M) (T := F_M) (N := 33) hx hb htb in_M hown hK hP 0 (g_M) rfl 27 (by decide) (htb _ k_646) (fun _ h9 => h9) rfl d_M_first_33 ?_
          refine lv_iload_n hx hb d_M_first_36 rfl (lv_at hl 1 rfl) ?_
          have hg37 := gd_c hM
          have hM := gd_v hM
          refine va_iald hx hb hK hP 13 0 (g_M_a13) rfl (inb_in hg37) d_M_first_37 ?_
          have hF1 := free_all hD hS hA
          obtain ⟨x38, y38, hq38, hM⟩ := bI_some hM
          refine va_calli (va_runV (As := [.int ((σ 0).2 13 v2.toNatClampNeg), .int ((σ 0).2 13 v1.toNatClampNeg)]) (rest := []) ⟨hx, hb, hml, hown, hts⟩ (c_M_comesFirst l dC dI ad cs H.size N σ ((σ 0).2 13 v2.toNatClampNeg) ((σ 0).2 13 v1.toNatClampNeg) hq38) (cwV 2 hts (goodV k_739 k_741 ks_M_comesFirst k_8 k_742) rfl rfl rfl ⟨rfl, by decide, by decide, by decide +kernel⟩ ⟨Nat.le_of_ble_eq_true rfl, Nat.le_of_ble_eq_true rfl⟩) ⟨blindM, va_recv hK hP rfl (g_M), payM hP hK hD hN⟩ rfl rfl hl.1 rfl (lv_room (Nat.le_of_ble_eq_true rfl)) d_M_first_38 ⟨Nat.zero_le _, Nat.zero_le _⟩) hS (fun q _ h => hF1 q h) hF1 (fun r38 σ38 t H locs ht hvm hpost hB hz1 hk1 hS => ?_)
          obtain ⟨e1, e2⟩ := hpost
          subst e1
          subst e2
          obtain ⟨hP1, hK1, hD1⟩ := hB
          rw [ht] at hP1
          have hP := hP1
          have hD := hD1.weaken (fun _ _ _ h => hF1 _ h)
          refine lv_if_eq (tgt := 48) hx hb d_M_first_41 (by decide) (fun h41 => ?_) (fun h41 => ?_)
          · rw [if_pos h41] at hM
            refine lv_iload_n hx hb d_M_first_48 rfl (lv_at hl 1 rfl) ?_
            refine lv_istore_n hx hb d_M_first_49 rfl hl (by decide) (lv' := [(1, .int v1), (0, .ref (ad 0 0)), (2, .int v2)]) rfl (fun ls hl => ?_)
            refine lv_iinc (k := 2) (v := (v2 + 1)) hx hb d_M_first_50 hl rfl rfl (by decide) (lv' := [(2, .int (v2 + 1)), (1, .int v1), (0, .ref (ad 0 0))]) rfl (fun ls hl => ?_)
            refine lv_goto (tgt := 4) hx hb d_M_first_53 (by decide) ?_
            exact K4 _ _ _ _ ⟨σ38, v1, (v2 + 1), rfl, hM, lv_sub hl [2, 1, 0] rfl, hP, hD, hS⟩
          · rw [if_neg h41] at hM
            refine lv_iload_n hx hb d_M_first_44 rfl (lv_at hl 2 rfl) ?_
            refine lv_goto (tgt := 49) hx hb d_M_first_45 (by decide) ?_
            refine lv_istore_n hx hb d_M_first_49 rfl hl (by decide) (lv' := [(1, .int v2), (0, .ref (ad 0 0)), (2, .int v2)]) rfl (fun ls hl => ?_)
            refine lv_iinc (k := 2) (v := (v2 + 1)) hx hb d_M_first_50 hl rfl rfl (by decide) (lv' := [(2, .int (v2 + 1)), (1, .int v2), (0, .ref (ad 0 0))]) rfl (fun ls hl => ?_)
            refine lv_goto (tgt := 4) hx hb d_M_first_53 (by decide) ?_
            exact K4 _ _ _ _ ⟨σ38, v2, (v2 + 1), rfl, hM, lv_sub hl [2, 1, 0] rfl, hP, hD, hS⟩
  intro K4
  refine lv_iconst (v := (-1)) hx hb d_M_first_0 (by decide) ?_
  refine lv_istore_n hx hb d_M_first_1 rfl hl (by decide) (lv' := [(1, .int (-1)), (0, .ref (ad 0 0))]) rfl (fun ls hl => ?_)
  refine lv_iconst (v := 0) hx hb d_M_first_2 (by decide) ?_
  refine lv_istore_n hx hb d_M_first_3 rfl hl (by decide) (lv' := [(2, .int 0), (1, .int (-1)), (0, .ref (ad 0 0))]) rfl (fun ls hl => ?_)
  exact K4 N _ _ _ _ ⟨σ, (-1), 0, rfl, hM, lv_sub hl [2, 1, 0] rfl, hP, hD, hS⟩

theorem d_M_isTape_0 : decode b_M_isTape 0 = .ok (.iload_n 0, 1) := by decide +kernel
theorem d_M_isTape_1 : decode b_M_isTape 1 = .ok (.ifCond .lt 12, 3) := by decide +kernel
theorem d_M_isTape_4 : decode b_M_isTape 4 = .ok (.iload_n 0, 1) := by decide +kernel
theorem d_M_isTape_5 : decode b_M_isTape 5 = .ok (.iconst 4, 1) := by decide +kernel
theorem d_M_isTape_6 : decode b_M_isTape 6 = .ok (.if_icmp .ge 7, 3) := by decide +kernel
theorem d_M_isTape_9 : decode b_M_isTape 9 = .ok (.iconst 1, 1) := by decide +kernel
theorem d_M_isTape_10 : decode b_M_isTape 10 = .ok (.goto 4, 3) := by decide +kernel
theorem d_M_isTape_13 : decode b_M_isTape 13 = .ok (.iconst 0, 1) := by decide +kernel
theorem d_M_isTape_14 : decode b_M_isTape 14 = .ok (.ireturn, 1) := by decide +kernel
def m_M_isTape (a0 : Int32) : Option Int32 :=
  (if a0 < 0 then some 0 else (if 4 ≤ a0 then some 0 else some 1))

set_option maxHeartbeats 4000000 in
set_option maxRecDepth 100000 in
theorem c_M_isTape (l : Launch) (sz : Nat) (a0 : Int32) {r0 : Int32} (hM : m_M_isTape a0 = some r0) : Met l y_M_isTape (wd y_M_isTape b_M_isTape 1 (some .boolean)) ({ frames := 0, cells := 0, slots := 0, locals := 0 }) (va_Pc [.int a0] (fun U => U.heap.size = sz)) (va_Qi (fun (r : Int32) (_ : Unit) => r = r0) (fun _ _ => True) (fun q => sz ≤ q)) 0 0 (fun q => sz ≤ q) := by
  refine Met.ofW (cc := b_M_isTape) (maxL := 1) (ret := (some .boolean)) (by decide) rfl ?_
  intro p e s m args below meth c s₁ B hml hv
  obtain ⟨rfl, hsz⟩ := hv
  have hx := B.exec
  have hb := B.bytes
  have hr := B.returns
  have hts := atoms_spec (ws := (wd y_M_isTape b_M_isTape 1 (some .boolean))) B.pre
  have htb : ∀ w ∈ tb, w.before _ s = true := fun w h => hts w (List.mem_cons_of_mem _ h)
  have hown : s.vm.findClass R_M = some m.cls := findClass_of_methodNamed B.named
  have hlocks := B.notSynchronized
  subst hsz
  have hS : va_S (fun q => s.heap.size ≤ q) s.heap s.heap [] := va_S.rf
  have hA : ∀ q : Nat, s.heap.size ≤ q → s.heap.size ≤ q := fun q h => h
  have hl := lv_entry ([.int a0]) (n := 1) (Nat.le_of_ble_eq_true rfl)
  rw [lg_entry_eq]
  generalize (lg_sl ([.int a0]) ++ List.replicate (1 - (lg_sl ([.int a0])).length) Slot.unset).toArray = ls at hl ⊢
  have hl : lv_has ls 1 [(0, .int a0)] := hl
  rw [m_M_isTape] at hM
  refine lv_iload_n hx hb d_M_isTape_0 rfl (lv_at hl 0 rfl) ?_
  refine lv_if_lt (tgt := 13) hx hb d_M_isTape_1 (by decide) (fun h1 => ?_) (fun h1 => ?_)
  · rw [if_pos h1] at hM
    refine lv_iconst (v := 0) hx hb d_M_isTape_13 (by decide) ?_
    have e9 := Option.some.inj hM
    exact W.zret (ty := .boolean) (v := 0) hx hb hr rfl (fun t ht hW => ⟨⟨0, (), rfl, e9, trivial⟩, hS.F ht⟩) hS.2.2 d_M_isTape_14
  · rw [if_neg h1] at hM
    refine lv_iload_n hx hb d_M_isTape_4 rfl (lv_at hl 0 rfl) ?_
    refine lv_iconst (v := 4) hx hb d_M_isTape_5 (by decide) ?_
    refine lv_icmp_ge (tgt := 13) hx hb d_M_isTape_6 (by decide) (fun h6 => ?_) (fun h6 => ?_)
    · rw [if_pos h6] at hM
      refine lv_iconst (v := 0) hx hb d_M_isTape_13 (by decide) ?_
      have e9 := Option.some.inj hM
      exact W.zret (ty := .boolean) (v := 0) hx hb hr rfl (fun t ht hW => ⟨⟨0, (), rfl, e9, trivial⟩, hS.F ht⟩) hS.2.2 d_M_isTape_14
    · rw [if_neg h6] at hM
      refine lv_iconst (v := 1) hx hb d_M_isTape_9 (by decide) ?_
      refine lv_goto (tgt := 14) hx hb d_M_isTape_10 (by decide) ?_
      have e9 := Option.some.inj hM
      exact W.zret (ty := .boolean) (v := 1) hx hb hr rfl (fun t ht hW => ⟨⟨1, (), rfl, e9, trivial⟩, hS.F ht⟩) hS.2.2 d_M_isTape_14

theorem d_M_phase_0 : decode b_M_phase 0 = .ok (.aload_n 0, 1) := by decide +kernel
theorem d_M_phase_1 : decode b_M_phase 1 = .ok (.iconst 0, 1) := by decide +kernel
theorem d_M_phase_2 : decode b_M_phase 2 = .ok (.putfield 70, 3) := by decide +kernel
theorem d_M_phase_5 : decode b_M_phase 5 = .ok (.aload_n 0, 1) := by decide +kernel
theorem d_M_phase_6 : decode b_M_phase 6 = .ok (.getfield 19, 3) := by decide +kernel
theorem d_M_phase_9 : decode b_M_phase 9 = .ok (.ifCond .eq 10, 3) := by decide +kernel
theorem d_M_phase_12 : decode b_M_phase 12 = .ok (.aload_n 0, 1) := by decide +kernel
theorem d_M_phase_13 : decode b_M_phase 13 = .ok (.getfield 73, 3) := by decide +kernel
theorem d_M_phase_16 : decode b_M_phase 16 = .ok (.goto 9, 3) := by decide +kernel
theorem d_M_phase_19 : decode b_M_phase 19 = .ok (.aload_n 0, 1) := by decide +kernel
theorem d_M_phase_20 : decode b_M_phase 20 = .ok (.getfield 73, 3) := by decide +kernel
theorem d_M_phase_23 : decode b_M_phase 23 = .ok (.iconst 4, 1) := by decide +kernel
theorem d_M_phase_24 : decode b_M_phase 24 = .ok (.iadd, 1) := by decide +kernel
theorem d_M_phase_25 : decode b_M_phase 25 = .ok (.ireturn, 1) := by decide +kernel
def m_M_phase (N : Nat) (σ : SX) : Option (Int32 × SX) :=
  (if (((w1 σ 0 0 0) 0).1 5) = 0 then some (((((w1 σ 0 0 0) 0).1 4) + 4), (w1 σ 0 0 0)) else some ((((w1 σ 0 0 0) 0).1 4), (w1 σ 0 0 0)))

set_option maxHeartbeats 4000000 in
set_option maxRecDepth 100000 in
theorem c_M_phase (l : Launch) (dC : Nat → ClassId) (dI : Nat → Nat → Nat) (ad : Nat → Nat → Nat) (cs : Nat → ClassId) (sz N : Nat) (σ : SX) {r0 : Int32} {σ0 : SX} (hM : m_M_phase N σ = some (r0, σ0)) : Met l y_M_phase (wd y_M_phase b_M_phase 1 (some .int)) ({ frames := 0, cells := 0, slots := 0, locals := 0 }) (va_Pc [.ref (ad 0 0)] (preM dC dI ad cs sz σ)) (va_Qi (fun (r : Int32) (u : SX) => r = r0 ∧ u = σ0) (atM dC dI ad cs (va_A (wM ad cs σ) sz)) (va_A (wM ad cs σ) sz)) 0 0 (va_A (wM ad cs σ) sz) := by
  refine Met.ofW (cc := b_M_phase) (maxL := 1) (ret := (some .int)) (by decide) rfl ?_
  intro p e s m args below meth c s₁ B hml hv
  obtain ⟨rfl, hsz, hP, hK, hD0, hN⟩ := hv
  have hx := B.exec
  have hb := B.bytes
  have hr := B.returns
  have hts := atoms_spec (ws := (wd y_M_phase b_M_phase 1 (some .int))) B.pre
  have htb : ∀ w ∈ tb, w.before _ s = true := fun w h => hts w (List.mem_cons_of_mem _ h)
  have hown : s.vm.findClass R_M = some m.cls := findClass_of_methodNamed B.named
  have hlocks := B.notSynchronized
  subst hsz
  have hD := hD0.self (sz := s.heap.size)
  generalize hAe : va_A (wM ad cs σ) s.heap.size = A at hD ⊢
  have hA : ∀ q : Nat, s.heap.size ≤ q → A q := fun q h => by rw [← hAe]; exact Or.inr h
  have hS : va_S A s.heap s.heap [] := va_S.rf
  have hP : va_P (dC, dI) classes (wM ad cs σ) s.heap := hP
  have hl := lv_entry ([.ref (ad 0 0)]) (n := 1) (Nat.le_of_ble_eq_true rfl)
  rw [lg_entry_eq]
  generalize (lg_sl ([.ref (ad 0 0)]) ++ List.replicate (1 - (lg_sl ([.ref (ad 0 0)])).length) Slot.unset).toArray = ls at hl ⊢
  have hl : lv_has ls 1 [(0, .ref (ad 0 0))] := hl
  rw [m_M_phase] at hM
  refine lv_aload_n hx hb d_M_phase_0 rfl (lv_at hl 0 rfl) ?_
  refine lv_iconst (v := 0) hx hb d_M_phase_1 (by decide) ?_
  refine va_put (D := (dC, dI)) (ci := 7) (v := .int 0) (ty := .int) (C := R_M) (T := F_M) (N := 33) hx hb htb in_M ft_M ft_M_ok n_M hown hK hP hD hS 0 (g_M) rfl 0 (by decide) (htb _ k_619) (fun _ h9 => h9) rfl (by decide +kernel) rfl rfl (Nat.le_of_ble_eq_true rfl) d_M_phase_2 (fun H locs hP hD hS => ?_)
  have hP := P_eq (s_M_0) hP
  have hD := D_eq (s_M_0) hD
  refine lv_aload_n hx hb d_M_phase_5 rfl (lv_at hl 0 rfl) ?_
  refine va_get (D := (dC, dI)) (ci := 7) (v := .int (((w1 σ 0 0 0) 0).1 5)) (C := R_M) (T := F_M) (N := 33) hx hb htb in_M hown hK hP 0 (g_M) rfl 8 (by decide) (htb _ k_627) (fun _ h9 => h9) rfl d_M_phase_6 ?_
  refine lv_if_eq (tgt := 19) hx hb d_M_phase_9 (by decide) (fun h9 => ?_) (fun h9 => ?_)
  · rw [if_pos h9] at hM
    refine lv_aload_n hx hb d_M_phase_19 rfl (lv_at hl 0 rfl) ?_
    refine va_get (D := (dC, dI)) (ci := 7) (v := .int (((w1 σ 0 0 0) 0).1 4)) (C := R_M) (T := F_M) (N := 33) hx hb htb in_M hown hK hP 0 (g_M) rfl 7 (by decide) (htb _ k_626) (fun _ h9 => h9) rfl d_M_phase_20 ?_
    refine lv_iconst (v := 4) hx hb d_M_phase_23 (by decide) ?_
    refine lv_iadd hx hb d_M_phase_24 ?_
    have e9 := Prod.mk.inj (Option.some.inj hM)
    exact W.iret (v := ((((w1 σ 0 0 0) 0).1 4) + 4)) hx hb hr (fun t ht hW => ⟨⟨((((w1 σ 0 0 0) 0).1 4) + 4), (w1 σ 0 0 0), rfl, e9, by rw [ht]; exact hP, va_K.moved hW.alike hK, hD⟩, hS.F ht⟩) hS.2.2 d_M_phase_25
  · rw [if_neg h9] at hM
    refine lv_aload_n hx hb d_M_phase_12 rfl (lv_at hl 0 rfl) ?_
    refine va_get (D := (dC, dI)) (ci := 7) (v := .int (((w1 σ 0 0 0) 0).1 4)) (C := R_M) (T := F_M) (N := 33) hx hb htb in_M hown hK hP 0 (g_M) rfl 7 (by decide) (htb _ k_626) (fun _ h9 => h9) rfl d_M_phase_13 ?_
    refine lv_goto (tgt := 25) hx hb d_M_phase_16 (by decide) ?_
    have e9 := Prod.mk.inj (Option.some.inj hM)
    exact W.iret (v := (((w1 σ 0 0 0) 0).1 4)) hx hb hr (fun t ht hW => ⟨⟨(((w1 σ 0 0 0) 0).1 4), (w1 σ 0 0 0), rfl, e9, by rw [ht]; exact hP, va_K.moved hW.alike hK, hD⟩, hS.F ht⟩) hS.2.2 d_M_phase_25

theorem d_M_level_0 : decode b_M_level 0 = .ok (.aload_n 0, 1) := by decide +kernel
theorem d_M_level_1 : decode b_M_level 1 = .ok (.iconst 0, 1) := by decide +kernel
theorem d_M_level_2 : decode b_M_level 2 = .ok (.putfield 70, 3) := by decide +kernel
theorem d_M_level_5 : decode b_M_level 5 = .ok (.aload_n 0, 1) := by decide +kernel
theorem d_M_level_6 : decode b_M_level 6 = .ok (.getfield 105, 3) := by decide +kernel
theorem d_M_level_9 : decode b_M_level 9 = .ok (.ireturn, 1) := by decide +kernel
def m_M_level (N : Nat) (σ : SX) : Option (Int32 × SX) :=
  some ((((w1 σ 0 0 0) 0).1 12), (w1 σ 0 0 0))

set_option maxHeartbeats 4000000 in
set_option maxRecDepth 100000 in
theorem c_M_level (l : Launch) (dC : Nat → ClassId) (dI : Nat → Nat → Nat) (ad : Nat → Nat → Nat) (cs : Nat → ClassId) (sz N : Nat) (σ : SX) {r0 : Int32} {σ0 : SX} (hM : m_M_level N σ = some (r0, σ0)) : Met l y_M_level (wd y_M_level b_M_level 1 (some .int)) ({ frames := 0, cells := 0, slots := 0, locals := 0 }) (va_Pc [.ref (ad 0 0)] (preM dC dI ad cs sz σ)) (va_Qi (fun (r : Int32) (u : SX) => r = r0 ∧ u = σ0) (atM dC dI ad cs (va_A (wM ad cs σ) sz)) (va_A (wM ad cs σ) sz)) 0 0 (va_A (wM ad cs σ) sz) := by
  refine Met.ofW (cc := b_M_level) (maxL := 1) (ret := (some .int)) (by decide) rfl ?_
  intro p e s m args below meth c s₁ B hml hv
  obtain ⟨rfl, hsz, hP, hK, hD0, hN⟩ := hv
  have hx := B.exec
  have hb := B.bytes
  have hr := B.returns
  have hts := atoms_spec (ws := (wd y_M_level b_M_level 1 (some .int))) B.pre
  have htb : ∀ w ∈ tb, w.before _ s = true := fun w h => hts w (List.mem_cons_of_mem _ h)
  have hown : s.vm.findClass R_M = some m.cls := findClass_of_methodNamed B.named
  have hlocks := B.notSynchronized
  subst hsz
  have hD := hD0.self (sz := s.heap.size)
  generalize hAe : va_A (wM ad cs σ) s.heap.size = A at hD ⊢
  have hA : ∀ q : Nat, s.heap.size ≤ q → A q := fun q h => by rw [← hAe]; exact Or.inr h
  have hS : va_S A s.heap s.heap [] := va_S.rf
  have hP : va_P (dC, dI) classes (wM ad cs σ) s.heap := hP
  have hl := lv_entry ([.ref (ad 0 0)]) (n := 1) (Nat.le_of_ble_eq_true rfl)
  rw [lg_entry_eq]
  generalize (lg_sl ([.ref (ad 0 0)]) ++ List.replicate (1 - (lg_sl ([.ref (ad 0 0)])).length) Slot.unset).toArray = ls at hl ⊢
  have hl : lv_has ls 1 [(0, .ref (ad 0 0))] := hl
  rw [m_M_level] at hM
  refine lv_aload_n hx hb d_M_level_0 rfl (lv_at hl 0 rfl) ?_
  refine lv_iconst (v := 0) hx hb d_M_level_1 (by decide) ?_
  refine va_put (D := (dC, dI)) (ci := 7) (v := .int 0) (ty := .int) (C := R_M) (T := F_M) (N := 33) hx hb htb in_M ft_M ft_M_ok n_M hown hK hP hD hS 0 (g_M) rfl 0 (by decide) (htb _ k_619) (fun _ h9 => h9) rfl (by decide +kernel) rfl rfl (Nat.le_of_ble_eq_true rfl) d_M_level_2 (fun H locs hP hD hS => ?_)
  have hP := P_eq (s_M_0) hP
  have hD := D_eq (s_M_0) hD
  refine lv_aload_n hx hb d_M_level_5 rfl (lv_at hl 0 rfl) ?_
  refine va_get (D := (dC, dI)) (ci := 7) (v := .int (((w1 σ 0 0 0) 0).1 12)) (C := R_M) (T := F_M) (N := 33) hx hb htb in_M hown hK hP 0 (g_M) rfl 19 (by decide) (htb _ k_638) (fun _ h9 => h9) rfl d_M_level_6 ?_
  have e9 := Prod.mk.inj (Option.some.inj hM)
  exact W.iret (v := (((w1 σ 0 0 0) 0).1 12)) hx hb hr (fun t ht hW => ⟨⟨(((w1 σ 0 0 0) 0).1 12), (w1 σ 0 0 0), rfl, e9, by rw [ht]; exact hP, va_K.moved hW.alike hK, hD⟩, hS.F ht⟩) hS.2.2 d_M_level_9

theorem d_M_runs_0 : decode b_M_runs 0 = .ok (.aload_n 0, 1) := by decide +kernel
theorem d_M_runs_1 : decode b_M_runs 1 = .ok (.iconst 0, 1) := by decide +kernel
theorem d_M_runs_2 : decode b_M_runs 2 = .ok (.putfield 70, 3) := by decide +kernel
theorem d_M_runs_5 : decode b_M_runs 5 = .ok (.iload_n 1, 1) := by decide +kernel
theorem d_M_runs_6 : decode b_M_runs 6 = .ok (.invokestatic 175, 3) := by decide +kernel
theorem d_M_runs_9 : decode b_M_runs 9 = .ok (.ifCond .eq 12, 3) := by decide +kernel
theorem d_M_runs_12 : decode b_M_runs 12 = .ok (.aload_n 0, 1) := by decide +kernel
theorem d_M_runs_13 : decode b_M_runs 13 = .ok (.getfield 46, 3) := by decide +kernel
theorem d_M_runs_16 : decode b_M_runs 16 = .ok (.iload_n 1, 1) := by decide +kernel
theorem d_M_runs_17 : decode b_M_runs 17 = .ok (.iaload, 1) := by decide +kernel
theorem d_M_runs_18 : decode b_M_runs 18 = .ok (.goto 4, 3) := by decide +kernel
theorem d_M_runs_21 : decode b_M_runs 21 = .ok (.iconst (-1), 1) := by decide +kernel
theorem d_M_runs_22 : decode b_M_runs 22 = .ok (.ireturn, 1) := by decide +kernel
def m_M_runs (N : Nat) (σ : SX) (a1 : Int32) : Option (Int32 × SX) :=
  (bP (m_M_isTape a1) fun r6 => (if r6 = 0 then some ((-1), (w1 σ 0 0 0)) else (if inb a1 4 = true then some ((((w1 σ 0 0 0) 0).2 10 a1.toNatClampNeg), (w1 σ 0 0 0)) else none)))

set_option maxHeartbeats 4000000 in
set_option maxRecDepth 100000 in
theorem c_M_runs (l : Launch) (dC : Nat → ClassId) (dI : Nat → Nat → Nat) (ad : Nat → Nat → Nat) (cs : Nat → ClassId) (sz N : Nat) (σ : SX) (a1 : Int32) {r0 : Int32} {σ0 : SX} (hM : m_M_runs N σ a1 = some (r0, σ0)) : Met l y_M_runs (wd y_M_runs b_M_runs 2 (some .int)) ({ frames := 1, cells := 0, slots := 0, locals := 20 }) (va_Pc [.ref (ad 0 0), .int a1] (preM dC dI ad cs sz σ)) (va_Qi (fun (r : Int32) (u : SX) => r = r0 ∧ u = σ0) (atM dC dI ad cs (va_A (wM ad cs σ) sz)) (va_A (wM ad cs σ) sz)) 0 0 (va_A (wM ad cs σ) sz) := by
  refine Met.ofW (cc := b_M_runs) (maxL := 2) (ret := (some .int)) (by decide) rfl ?_
  intro p e s m args below meth c s₁ B hml hv
  obtain ⟨rfl, hsz, hP, hK, hD0, hN⟩ := hv
  have hx := B.exec
  have hb := B.bytes
  have hr := B.returns
  have hts := atoms_spec (ws := (wd y_M_runs b_M_runs 2 (some .int))) B.pre
  have htb : ∀ w ∈ tb, w.before _ s = true := fun w h => hts w (List.mem_cons_of_mem _ h)
  have hown : s.vm.findClass R_M = some m.cls := findClass_of_methodNamed B.named
  have hlocks := B.notSynchronized
  subst hsz
  have hD := hD0.self (sz := s.heap.size)
  generalize hAe : va_A (wM ad cs σ) s.heap.size = A at hD ⊢
  have hA : ∀ q : Nat, s.heap.size ≤ q → A q := fun q h => by rw [← hAe]; exact Or.inr h
  have hS : va_S A s.heap s.heap [] := va_S.rf
  have hP : va_P (dC, dI) classes (wM ad cs σ) s.heap := hP
  have hl := lv_entry ([.ref (ad 0 0), .int a1]) (n := 2) (Nat.le_of_ble_eq_true rfl)
  rw [lg_entry_eq]
  generalize (lg_sl ([.ref (ad 0 0), .int a1]) ++ List.replicate (2 - (lg_sl ([.ref (ad 0 0), .int a1])).length) Slot.unset).toArray = ls at hl ⊢
  have hl : lv_has ls 2 [(0, .ref (ad 0 0)), (1, .int a1)] := hl
  rw [m_M_runs] at hM
  refine lv_aload_n hx hb d_M_runs_0 rfl (lv_at hl 0 rfl) ?_
  refine lv_iconst (v := 0) hx hb d_M_runs_1 (by decide) ?_
  refine va_put (D := (dC, dI)) (ci := 7) (v := .int 0) (ty := .int) (C := R_M) (T := F_M) (N := 33) hx hb htb in_M ft_M ft_M_ok n_M hown hK hP hD hS 0 (g_M) rfl 0 (by decide) (htb _ k_619) (fun _ h9 => h9) rfl (by decide +kernel) rfl rfl (Nat.le_of_ble_eq_true rfl) d_M_runs_2 (fun H locs hP hD hS => ?_)
  have hP := P_eq (s_M_0) hP
  have hD := D_eq (s_M_0) hD
  refine lv_iload_n hx hb d_M_runs_5 rfl (lv_at hl 1 rfl) ?_
  obtain ⟨x6, hq6, hM⟩ := bP_some hM
  refine va_calli (va_runS (As := [.int a1]) (rest := []) ⟨hx, hb, hml, hown, hts⟩ (c_M_isTape l H.size a1 hq6) (cwS 1 hts (goodS k_827 k_828 k_8 k_829) rfl rfl rfl ⟨rfl, by decide, by decide, by decide +kernel⟩ ⟨Nat.le_of_ble_eq_true rfl, Nat.le_of_ble_eq_true rfl⟩) ⟨blindS, payS⟩ rfl rfl hl.1 rfl (lv_room (Nat.le_of_ble_eq_true rfl)) d_M_runs_6 ⟨Nat.zero_le _, Nat.zero_le _⟩) hS (fun q h0 h => absurd h0 (Nat.not_lt.mpr h)) (fun q h => hA q (Nat.le_trans hS.1 h)) (fun r6 u t H locs ht hvm hpost hB hz1 hk1 hS => ?_)
  subst hpost
  have hP := keepP hP hk1
  refine lv_if_eq (tgt := 21) hx hb d_M_runs_9 (by decide) (fun h9 => ?_) (fun h9 => ?_)
  · rw [if_pos h9] at hM
    refine lv_iconst (v := (-1)) hx hb d_M_runs_21 (by decide) ?_
    have e9 := Prod.mk.inj (Option.some.inj hM)
    exact W.iret (v := (-1)) hx hb hr (fun t ht hW => ⟨⟨(-1), (w1 σ 0 0 0), rfl, e9, by rw [ht]; exact hP, va_K.moved hW.alike hK, hD⟩, hS.F ht⟩) hS.2.2 d_M_runs_22
  · rw [if_neg h9] at hM
    refine lv_aload_n hx hb d_M_runs_12 rfl (lv_at hl 0 rfl) ?_
    refine va_get (D := (dC, dI)) (ci := 7) (v := .ref (ad 0 10)) (C := R_M) (T := F_M) (N := 33) hx hb htb in_M hown hK hP 0 (g_M) rfl 23 (by decide) (htb _ k_642) (fun _ h9 => h9) rfl d_M_runs_13 ?_
    refine lv_iload_n hx hb d_M_runs_16 rfl (lv_at hl 1 rfl) ?_
    have hg17 := gd_c hM
    have hM := gd_v hM
    refine va_iald hx hb hK hP 10 0 (g_M_a10) rfl (inb_in hg17) d_M_runs_17 ?_
    refine lv_goto (tgt := 22) hx hb d_M_runs_18 (by decide) ?_
    have e9 := Prod.mk.inj (Option.some.inj hM)
    exact W.iret (v := (((w1 σ 0 0 0) 0).2 10 a1.toNatClampNeg)) hx hb hr (fun t ht hW => ⟨⟨(((w1 σ 0 0 0) 0).2 10 a1.toNatClampNeg), (w1 σ 0 0 0), rfl, e9, by rw [ht]; exact hP, va_K.moved hW.alike hK, hD⟩, hS.F ht⟩) hS.2.2 d_M_runs_22
