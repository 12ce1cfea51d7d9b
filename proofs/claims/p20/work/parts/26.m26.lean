theorem d_M_at_0 : decode b_M_at 0 = .ok (.aload_n 0, 1) := by decide +kernel
theorem d_M_at_1 : decode b_M_at 1 = .ok (.iconst 0, 1) := by decide +kernel
theorem d_M_at_2 : decode b_M_at 2 = .ok (.putfield 70, 3) := by decide +kernel
theorem d_M_at_5 : decode b_M_at 5 = .ok (.iload_n 1, 1) := by decide +kernel
theorem d_M_at_6 : decode b_M_at 6 = .ok (.invokestatic 175, 3) := by decide +kernel
theorem d_M_at_9 : decode b_M_at 9 = .ok (.ifCond .eq 37, 3) := by decide +kernel
theorem d_M_at_12 : decode b_M_at 12 = .ok (.iload_n 2, 1) := by decide +kernel
theorem d_M_at_13 : decode b_M_at 13 = .ok (.ifCond .lt 33, 3) := by decide +kernel
theorem d_M_at_16 : decode b_M_at 16 = .ok (.iload_n 2, 1) := by decide +kernel
theorem d_M_at_17 : decode b_M_at 17 = .ok (.aload_n 0, 1) := by decide +kernel
theorem d_M_at_18 : decode b_M_at 18 = .ok (.getfield 46, 3) := by decide +kernel
theorem d_M_at_21 : decode b_M_at 21 = .ok (.iload_n 1, 1) := by decide +kernel
theorem d_M_at_22 : decode b_M_at 22 = .ok (.iaload, 1) := by decide +kernel
theorem d_M_at_23 : decode b_M_at 23 = .ok (.if_icmp .ge 23, 3) := by decide +kernel
theorem d_M_at_26 : decode b_M_at 26 = .ok (.iload_n 3, 1) := by decide +kernel
theorem d_M_at_27 : decode b_M_at 27 = .ok (.ifCond .lt 19, 3) := by decide +kernel
theorem d_M_at_30 : decode b_M_at 30 = .ok (.iload_n 3, 1) := by decide +kernel
theorem d_M_at_31 : decode b_M_at 31 = .ok (.aload_n 0, 1) := by decide +kernel
theorem d_M_at_32 : decode b_M_at 32 = .ok (.getfield 43, 3) := by decide +kernel
theorem d_M_at_35 : decode b_M_at 35 = .ok (.sipush 150, 3) := by decide +kernel
theorem d_M_at_38 : decode b_M_at 38 = .ok (.iload_n 1, 1) := by decide +kernel
theorem d_M_at_39 : decode b_M_at 39 = .ok (.imul, 1) := by decide +kernel
theorem d_M_at_40 : decode b_M_at 40 = .ok (.iload_n 2, 1) := by decide +kernel
theorem d_M_at_41 : decode b_M_at 41 = .ok (.iadd, 1) := by decide +kernel
theorem d_M_at_42 : decode b_M_at 42 = .ok (.iaload, 1) := by decide +kernel
theorem d_M_at_43 : decode b_M_at 43 = .ok (.if_icmp .lt 5, 3) := by decide +kernel
theorem d_M_at_46 : decode b_M_at 46 = .ok (.iconst (-1), 1) := by decide +kernel
theorem d_M_at_47 : decode b_M_at 47 = .ok (.ireturn, 1) := by decide +kernel
theorem d_M_at_48 : decode b_M_at 48 = .ok (.sipush 150, 3) := by decide +kernel
theorem d_M_at_51 : decode b_M_at 51 = .ok (.iload_n 1, 1) := by decide +kernel
theorem d_M_at_52 : decode b_M_at 52 = .ok (.imul, 1) := by decide +kernel
theorem d_M_at_53 : decode b_M_at 53 = .ok (.istore 4, 2) := by decide +kernel
theorem d_M_at_55 : decode b_M_at 55 = .ok (.iconst 0, 1) := by decide +kernel
theorem d_M_at_56 : decode b_M_at 56 = .ok (.istore 5, 2) := by decide +kernel
theorem d_M_at_58 : decode b_M_at 58 = .ok (.iload 5, 2) := by decide +kernel
theorem d_M_at_60 : decode b_M_at 60 = .ok (.iload_n 2, 1) := by decide +kernel
theorem d_M_at_61 : decode b_M_at 61 = .ok (.if_icmp .ge 27, 3) := by decide +kernel
theorem d_M_at_64 : decode b_M_at 64 = .ok (.iload 4, 2) := by decide +kernel
theorem d_M_at_66 : decode b_M_at 66 = .ok (.aload_n 0, 1) := by decide +kernel
theorem d_M_at_67 : decode b_M_at 67 = .ok (.getfield 43, 3) := by decide +kernel
theorem d_M_at_70 : decode b_M_at 70 = .ok (.sipush 150, 3) := by decide +kernel
theorem d_M_at_73 : decode b_M_at 73 = .ok (.iload_n 1, 1) := by decide +kernel
theorem d_M_at_74 : decode b_M_at 74 = .ok (.imul, 1) := by decide +kernel
theorem d_M_at_75 : decode b_M_at 75 = .ok (.iload 5, 2) := by decide +kernel
theorem d_M_at_77 : decode b_M_at 77 = .ok (.iadd, 1) := by decide +kernel
theorem d_M_at_78 : decode b_M_at 78 = .ok (.iaload, 1) := by decide +kernel
theorem d_M_at_79 : decode b_M_at 79 = .ok (.iadd, 1) := by decide +kernel
theorem d_M_at_80 : decode b_M_at 80 = .ok (.istore 4, 2) := by decide +kernel
theorem d_M_at_82 : decode b_M_at 82 = .ok (.iinc 5 1, 3) := by decide +kernel
theorem d_M_at_85 : decode b_M_at 85 = .ok (.goto (-27), 3) := by decide +kernel
theorem d_M_at_88 : decode b_M_at 88 = .ok (.aload_n 0, 1) := by decide +kernel
theorem d_M_at_89 : decode b_M_at 89 = .ok (.getfield 40, 3) := by decide +kernel
theorem d_M_at_92 : decode b_M_at 92 = .ok (.iload 4, 2) := by decide +kernel
theorem d_M_at_94 : decode b_M_at 94 = .ok (.iload_n 3, 1) := by decide +kernel
theorem d_M_at_95 : decode b_M_at 95 = .ok (.iadd, 1) := by decide +kernel
theorem d_M_at_96 : decode b_M_at 96 = .ok (.iaload, 1) := by decide +kernel
theorem d_M_at_97 : decode b_M_at 97 = .ok (.ireturn, 1) := by decide +kernel
def m_M_at_58 (N : Nat) : Nat → SX → Int32 → Int32 → Int32 → Int32 → Int32 → Option (Int32 × SX)
  | 0, _, _, _, _, _, _ => none
  | n58 + 1, σ, v1, v2, v3, v4, v5 =>
    (if v2 ≤ v5 then (if inb (v4 + v3) 600 = true then some (((σ 0).2 8 (v4 + v3).toNatClampNeg), σ) else none) else (if inb ((150 * v1) + v5) 600 = true then m_M_at_58 N n58 σ v1 v2 v3 (v4 + ((σ 0).2 9 ((150 * v1) + v5).toNatClampNeg)) (v5 + 1) else none))

def m_M_at (N : Nat) (σ : SX) (a1 : Int32) (a2 : Int32) (a3 : Int32) : Option (Int32 × SX) :=
  (bP (m_M_isTape a1) fun r6 => (if r6 = 0 then some ((-1), (w1 σ 0 0 0)) else (if a2 < 0 then some ((-1), (w1 σ 0 0 0)) else (if inb a1 4 = true then (if (((w1 σ 0 0 0) 0).2 10 a1.toNatClampNeg) ≤ a2 then some ((-1), (w1 σ 0 0 0)) else (if a3 < 0 then some ((-1), (w1 σ 0 0 0)) else (if inb ((150 * a1) + a2) 600 = true then (if a3 < (((w1 σ 0 0 0) 0).2 9 ((150 * a1) + a2).toNatClampNeg) then m_M_at_58 N N (w1 σ 0 0 0) a1 a2 a3 (150 * a1) 0 else some ((-1), (w1 σ 0 0 0))) else none))) else none))))

set_option maxHeartbeats 4000000 in
set_option maxRecDepth 100000 in
theorem c_M_at (l : Launch) (dC : Nat → ClassId) (dI : Nat → Nat → Nat) (ad : Nat → Nat → Nat) (cs : Nat → ClassId) (sz N : Nat) (σ : SX) (a1 : Int32) (a2 : Int32) (a3 : Int32) {r0 : Int32} {σ0 : SX} (hM : m_M_at N σ a1 a2 a3 = some (r0, σ0)) : Met l y_M_at (wd y_M_at b_M_at 6 (some .int)) ({ frames := 1, cells := 0, slots := 0, locals := 20 }) (va_Pc [.ref (ad 0 0), .int a1, .int a2, .int a3] (preM dC dI ad cs sz σ)) (va_Qi (fun (r : Int32) (u : SX) => r = r0 ∧ u = σ0) (atM dC dI ad cs (va_A (wM ad cs σ) sz)) (va_A (wM ad cs σ) sz)) 0 0 (va_A (wM ad cs σ) sz) := by
  refine Met.ofW (cc := b_M_at) (maxL := 6) (ret := (some .int)) (by decide) rfl ?_
  intro p e s m args below meth c s₁ B hml hv
  obtain ⟨rfl, hsz, hP, hK, hD0, hN⟩ := hv
  have hx := B.exec
  have hb := B.bytes
  have hr := B.returns
  have hts := atoms_spec (ws := (wd y_M_at b_M_at 6 (some .int))) B.pre
  have htb : ∀ w ∈ tb, w.before _ s = true := fun w h => hts w (List.mem_cons_of_mem _ h)
  have hown : s.vm.findClass R_M = some m.cls := findClass_of_methodNamed B.named
  have hlocks := B.notSynchronized
  subst hsz
  have hD := hD0.self (sz := s.heap.size)
  generalize hAe : va_A (wM ad cs σ) s.heap.size = A at hD ⊢
  have hA : ∀ q : Nat, s.heap.size ≤ q → A q := fun q h => by rw [← hAe]; exact Or.inr h
  have hS : va_S A s.heap s.heap [] := va_S.rf
  have hP : va_P (dC, dI) classes (wM ad cs σ) s.heap := hP
  have hl := lv_entry ([.ref (ad 0 0), .int a1, .int a2, .int a3]) (n := 6) (Nat.le_of_ble_eq_true rfl)
  rw [lg_entry_eq]
  generalize (lg_sl ([.ref (ad 0 0), .int a1, .int a2, .int a3]) ++ List.replicate (6 - (lg_sl ([.ref (ad 0 0), .int a1, .int a2, .int a3])).length) Slot.unset).toArray = ls at hl ⊢
  have hl : lv_has ls 6 [(0, .ref (ad 0 0)), (1, .int a1), (2, .int a2), (3, .int a3)] := hl
  rw [m_M_at] at hM
  refine W_loop (pc := 58) (fun n58 H locs ls st => ∃ (σ : SX) (v1 : Int32) (v2 : Int32) (v3 : Int32) (v4 : Int32) (v5 : Int32), st = [] ∧ m_M_at_58 N n58 σ v1 v2 v3 v4 v5 = some (r0, σ0) ∧ lv_has ls 6 [(0, .ref (ad 0 0)), (1, .int v1), (2, .int v2), (3, .int v3), (4, .int v4), (5, .int v5)] ∧ va_P (dC, dI) classes (wM ad cs σ) H ∧ va_D A (wM ad cs σ) ∧ va_S A s.heap H locs) ?_ ?_ ?_
  · rintro H locs ls st ⟨σ, v1, v2, v3, v4, v5, -, hM, -⟩
    rw [m_M_at_58] at hM; cases hM
  · intro n58 K58 H locs ls st hI
    obtain ⟨σ, v1, v2, v3, v4, v5, rfl, hM, hl, hP, hD, hS⟩ := hI
    rw [m_M_at_58] at hM
    refine lv_iload hx hb d_M_at_58 (lv_at hl 5 rfl) ?_
    refine lv_iload_n hx hb d_M_at_60 rfl (lv_at hl 2 rfl) ?_
    refine lv_icmp_ge (tgt := 88) hx hb d_M_at_61 (by decide) (fun h61 => ?_) (fun h61 => ?_)
    · rw [if_pos h61] at hM
      refine lv_aload_n hx hb d_M_at_88 rfl (lv_at hl 0 rfl) ?_
      refine va_get (D := (dC, dI)) (ci := 7) (v := .ref (ad 0 8)) (C := R_M) (T := F_M) (N := 33) hx hb htb in_M hown hK hP 0 (g_M) rfl 21 (by decide) (htb _ k_640) (fun _ h9 => h9) rfl d_M_at_89 ?_
      refine lv_iload hx hb d_M_at_92 (lv_at hl 4 rfl) ?_
      refine lv_iload_n hx hb d_M_at_94 rfl (lv_at hl 3 rfl) ?_
      refine lv_iadd hx hb d_M_at_95 ?_
      have hg96 := gd_c hM
      have hM := gd_v hM
      refine va_iald hx hb hK hP 8 0 (g_M_a8) rfl (inb_in hg96) d_M_at_96 ?_
      have e9 := Prod.mk.inj (Option.some.inj hM)
      exact W.iret (v := ((σ 0).2 8 (v4 + v3).toNatClampNeg)) hx hb hr (fun t ht hW => ⟨⟨((σ 0).2 8 (v4 + v3).toNatClampNeg), σ, rfl, e9, by rw [ht]; exact hP, va_K.moved hW.alike hK, hD⟩, hS.F ht⟩) hS.2.2 d_M_at_97
    · rw [if_neg h61] at hM
      refine lv_iload hx hb d_M_at_64 (lv_at hl 4 rfl) ?_
      refine lv_aload_n hx hb d_M_at_66 rfl (lv_at hl 0 rfl) ?_
      refine va_get (D := (dC, dI)) (ci := 7) (v := .ref (ad 0 9)) (C := R_M) (T := F_M) (N := 33) hx hb htb in_M hown hK hP 0 (g_M) rfl 22 (by decide) (htb _ k_641) (fun _ h9 => h9) rfl d_M_at_67 ?_
      refine lv_sipush (v := 150) hx hb d_M_at_70 (by decide) ?_
      refine lv_iload_n hx hb d_M_at_73 rfl (lv_at hl 1 rfl) ?_
      refine lv_imul hx hb d_M_at_74 ?_
      refine lv_iload hx hb d_M_at_75 (lv_at hl 5 rfl) ?_
      refine lv_iadd hx hb d_M_at_77 ?_
      have hg78 := gd_c hM
      have hM := gd_v hM
      refine va_iald hx hb hK hP 9 0 (g_M_a9) rfl (inb_in hg78) d_M_at_78 ?_
      refine lv_iadd hx hb d_M_at_79 ?_
      refine lv_istore hx hb d_M_at_80 hl (by decide) (lv' := [(4, .int (v4 + ((σ 0).2 9 ((150 * v1) + v5).toNatClampNeg))), (0, .ref (ad 0 0)), (1, .int v1), (2, .int v2), (3, .int v3), (5, .int v5)]) rfl (fun ls hl => ?_)
      refine lv_iinc (k := 5) (v := (v5 + 1)) hx hb d_M_at_82 hl rfl rfl (by decide) (lv' := [(5, .int (v5 + 1)), (4, .int (v4 + ((σ 0).2 9 ((150 * v1) + v5).toNatClampNeg))), (0, .ref (ad 0 0)), (1, .int v1), (2, .int v2), (3, .int v3)]) rfl (fun ls hl => ?_)
      refine lv_goto (tgt := 58) hx hb d_M_at_85 (by decide) ?_
      exact K58 _ _ _ _ ⟨σ, v1, v2, v3, (v4 + ((σ 0).2 9 ((150 * v1) + v5).toNatClampNeg)), (v5 + 1), rfl, hM, lv_sub hl [2, 3, 4, 5, 1, 0] rfl, hP, hD, hS⟩
  intro K58
  refine lv_aload_n hx hb d_M_at_0 rfl (lv_at hl 0 rfl) ?_
  refine lv_iconst (v := 0) hx hb d_M_at_1 (by decide) ?_
  refine va_put (D := (dC, dI)) (ci := 7) (v := .int 0) (ty := .int) (C := R_M) (T := F_M) (N := 33) hx hb htb in_M ft_M ft_M_ok n_M hown hK hP hD hS 0 (g_M) rfl 0 (by decide) (htb _ k_619) (fun _ h9 => h9) rfl (by decide +kernel) rfl rfl (Nat.le_of_ble_eq_true rfl) d_M_at_2 (fun H locs hP hD hS => ?_)
  have hP := P_eq (s_M_0) hP
  have hD := D_eq (s_M_0) hD
  refine lv_iload_n hx hb d_M_at_5 rfl (lv_at hl 1 rfl) ?_
  obtain ⟨x6, hq6, hM⟩ := bP_some hM
  refine va_calli (va_runS (As := [.int a1]) (rest := []) ⟨hx, hb, hml, hown, hts⟩ (c_M_isTape l _ a1 hq6) (cwS 1 hts (goodS k_823 k_824 k_8 k_825) rfl rfl rfl ⟨rfl, by decide, by decide, by decide +kernel⟩ ⟨Nat.le_of_ble_eq_true rfl, Nat.le_of_ble_eq_true rfl⟩) ⟨blindS, payS⟩ rfl rfl hl.1 rfl (lv_room (Nat.le_of_ble_eq_true rfl)) d_M_at_6 ⟨Nat.zero_le _, Nat.zero_le _⟩) hS (fun q h0 h => absurd h0 (Nat.not_lt.mpr h)) (fun q h => hA q (Nat.le_trans hS.1 h)) (fun r6 u t H locs ht hvm hpost hB hz1 hk1 hS => ?_)
  subst hpost
  have hP := keepP hP hk1
  refine lv_if_eq (tgt := 46) hx hb d_M_at_9 (by decide) (fun h9 => ?_) (fun h9 => ?_)
  · rw [if_pos h9] at hM
    refine lv_iconst (v := (-1)) hx hb d_M_at_46 (by decide) ?_
    have e9 := Prod.mk.inj (Option.some.inj hM)
    exact W.iret (v := (-1)) hx hb hr (fun t ht hW => ⟨⟨(-1), (w1 σ 0 0 0), rfl, e9, by rw [ht]; exact hP, va_K.moved hW.alike hK, hD⟩, hS.F ht⟩) hS.2.2 d_M_at_47
  · rw [if_neg h9] at hM
    refine lv_iload_n hx hb d_M_at_12 rfl (lv_at hl 2 rfl) ?_
    refine lv_if_lt (tgt := 46) hx hb d_M_at_13 (by decide) (fun h13 => ?_) (fun h13 => ?_)
    · rw [if_pos h13] at hM
      refine lv_iconst (v := (-1)) hx hb d_M_at_46 (by decide) ?_
      have e9 := Prod.mk.inj (Option.some.inj hM)
      exact W.iret (v := (-1)) hx hb hr (fun t ht hW => ⟨⟨(-1), (w1 σ 0 0 0), rfl, e9, by rw [ht]; exact hP, va_K.moved hW.alike hK, hD⟩, hS.F ht⟩) hS.2.2 d_M_at_47
    · rw [if_neg h13] at hM
      refine lv_iload_n hx hb d_M_at_16 rfl (lv_at hl 2 rfl) ?_
      refine lv_aload_n hx hb d_M_at_17 rfl (lv_at hl 0 rfl) ?_
      refine va_get (D := (dC, dI)) (ci := 7) (v := .ref (ad 0 10)) (C := R_M) (T := F_M) (N := 33) hx hb htb in_M hown hK hP 0 (g_M) rfl 23 (by decide) (htb _ k_642) (fun _ h9 => h9) rfl d_M_at_18 ?_
      refine lv_iload_n hx hb d_M_at_21 rfl (lv_at hl 1 rfl) ?_
      have hg22 := gd_c hM
      have hM := gd_v hM
      refine va_iald hx hb hK hP 10 0 (g_M_a10) rfl (inb_in hg22) d_M_at_22 ?_
      refine lv_icmp_ge (tgt := 46) hx hb d_M_at_23 (by decide) (fun h23 => ?_) (fun h23 => ?_)
      · rw [if_pos h23] at hM
        refine lv_iconst (v := (-1)) hx hb d_M_at_46 (by decide) ?_
        have e9 := Prod.mk.inj (Option.some.inj hM)
        exact W.iret (v := (-1)) hx hb hr (fun t ht hW => ⟨⟨(-1), (w1 σ 0 0 0), rfl, e9, by rw [ht]; exact hP, va_K.moved hW.alike hK, hD⟩, hS.F ht⟩) hS.2.2 d_M_at_47
      · rw [if_neg h23] at hM
        refine lv_iload_n hx hb d_M_at_26 rfl (lv_at hl 3 rfl) ?_
        refine lv_if_lt (tgt := 46) hx hb d_M_at_27 (by decide) (fun h27 => ?_) (fun h27 => ?_)
        · rw [if_pos h27] at hM
          refine lv_iconst (v := (-1)) hx hb d_M_at_46 (by decide) ?_
          have e9 := Prod.mk.inj (Option.some.inj hM)
          exact W.iret (v := (-1)) hx hb hr (fun t ht hW => ⟨⟨(-1), (w1 σ 0 0 0), rfl, e9, by rw [ht]; exact hP, va_K.moved hW.alike hK, hD⟩, hS.F ht⟩) hS.2.2 d_M_at_47
        · rw [if_neg h27] at hM
          refine lv_iload_n hx hb d_M_at_30 rfl (lv_at hl 3 rfl) ?_
          refine lv_aload_n hx hb d_M_at_31 rfl (lv_at hl 0 rfl) ?_
          refine va_get (D := (dC, dI)) (ci := 7) (v := .ref (ad 0 9)) (C := R_M) (T := F_M) (N := 33) hx hb htb in_M hown hK hP 0 (g_M) rfl 22 (by decide) (htb _ k_641) (fun _ h9 => h9) rfl d_M_at_32 ?_
          refine lv_sipush (v := 150) hx hb d_M_at_35 (by decide) ?_
          refine lv_iload_n hx hb d_M_at_38 rfl (lv_at hl 1 rfl) ?_
          refine lv_imul hx hb d_M_at_39 ?_
          refine lv_iload_n hx hb d_M_at_40 rfl (lv_at hl 2 rfl) ?_
          refine lv_iadd hx hb d_M_at_41 ?_
          have hg42 := gd_c hM
          have hM := gd_v hM
          refine va_iald hx hb hK hP 9 0 (g_M_a9) rfl (inb_in hg42) d_M_at_42 ?_
          refine lv_icmp_lt (tgt := 48) hx hb d_M_at_43 (by decide) (fun h43 => ?_) (fun h43 => ?_)
          · rw [if_pos h43] at hM
            refine lv_sipush (v := 150) hx hb d_M_at_48 (by decide) ?_
            refine lv_iload_n hx hb d_M_at_51 rfl (lv_at hl 1 rfl) ?_
            refine lv_imul hx hb d_M_at_52 ?_
            refine lv_istore hx hb d_M_at_53 hl (by decide) (lv' := [(4, .int (150 * a1)), (0, .ref (ad 0 0)), (1, .int a1), (2, .int a2), (3, .int a3)]) rfl (fun ls hl => ?_)
            refine lv_iconst (v := 0) hx hb d_M_at_55 (by decide) ?_
            refine lv_istore hx hb d_M_at_56 hl (by decide) (lv' := [(5, .int 0), (4, .int (150 * a1)), (0, .ref (ad 0 0)), (1, .int a1), (2, .int a2), (3, .int a3)]) rfl (fun ls hl => ?_)
            exact K58 N _ _ _ _ ⟨(w1 σ 0 0 0), a1, a2, a3, (150 * a1), 0, rfl, hM, lv_sub hl [2, 3, 4, 5, 1, 0] rfl, hP, hD, hS⟩
          · rw [if_neg h43] at hM
            refine lv_iconst (v := (-1)) hx hb d_M_at_46 (by decide) ?_
            have e9 := Prod.mk.inj (Option.some.inj hM)
            exact W.iret (v := (-1)) hx hb hr (fun t ht hW => ⟨⟨(-1), (w1 σ 0 0 0), rfl, e9, by rw [ht]; exact hP, va_K.moved hW.alike hK, hD⟩, hS.F ht⟩) hS.2.2 d_M_at_47

theorem d_M_memory_0 : decode b_M_memory 0 = .ok (.aload_n 0, 1) := by decide +kernel
theorem d_M_memory_1 : decode b_M_memory 1 = .ok (.iconst 0, 1) := by decide +kernel
theorem d_M_memory_2 : decode b_M_memory 2 = .ok (.putfield 70, 3) := by decide +kernel
theorem d_M_memory_5 : decode b_M_memory 5 = .ok (.iconst 0, 1) := by decide +kernel
theorem d_M_memory_6 : decode b_M_memory 6 = .ok (.istore_n 2, 1) := by decide +kernel
theorem d_M_memory_7 : decode b_M_memory 7 = .ok (.iconst 0, 1) := by decide +kernel
theorem d_M_memory_8 : decode b_M_memory 8 = .ok (.istore_n 3, 1) := by decide +kernel
theorem d_M_memory_9 : decode b_M_memory 9 = .ok (.iload_n 3, 1) := by decide +kernel
theorem d_M_memory_10 : decode b_M_memory 10 = .ok (.aload_n 0, 1) := by decide +kernel
theorem d_M_memory_11 : decode b_M_memory 11 = .ok (.getfield 96, 3) := by decide +kernel
theorem d_M_memory_14 : decode b_M_memory 14 = .ok (.if_icmp .ge 29, 3) := by decide +kernel
theorem d_M_memory_17 : decode b_M_memory 17 = .ok (.iload_n 2, 1) := by decide +kernel
theorem d_M_memory_18 : decode b_M_memory 18 = .ok (.ifCond .ne 13, 3) := by decide +kernel
theorem d_M_memory_21 : decode b_M_memory 21 = .ok (.aload_n 0, 1) := by decide +kernel
theorem d_M_memory_22 : decode b_M_memory 22 = .ok (.getfield 30, 3) := by decide +kernel
theorem d_M_memory_25 : decode b_M_memory 25 = .ok (.iload_n 3, 1) := by decide +kernel
theorem d_M_memory_26 : decode b_M_memory 26 = .ok (.iaload, 1) := by decide +kernel
theorem d_M_memory_27 : decode b_M_memory 27 = .ok (.iload_n 1, 1) := by decide +kernel
theorem d_M_memory_28 : decode b_M_memory 28 = .ok (.if_icmp .ne 7, 3) := by decide +kernel
theorem d_M_memory_31 : decode b_M_memory 31 = .ok (.iconst 1, 1) := by decide +kernel
theorem d_M_memory_32 : decode b_M_memory 32 = .ok (.goto 4, 3) := by decide +kernel
theorem d_M_memory_35 : decode b_M_memory 35 = .ok (.iconst 0, 1) := by decide +kernel
theorem d_M_memory_36 : decode b_M_memory 36 = .ok (.istore_n 2, 1) := by decide +kernel
theorem d_M_memory_37 : decode b_M_memory 37 = .ok (.iinc 3 1, 3) := by decide +kernel
theorem d_M_memory_40 : decode b_M_memory 40 = .ok (.goto (-31), 3) := by decide +kernel
theorem d_M_memory_43 : decode b_M_memory 43 = .ok (.iload_n 2, 1) := by decide +kernel
theorem d_M_memory_44 : decode b_M_memory 44 = .ok (.ireturn, 1) := by decide +kernel
def m_M_memory_9 (N : Nat) : Nat → SX → Int32 → Int32 → Int32 → Option (Int32 × SX)
  | 0, _, _, _, _ => none
  | n9 + 1, σ, v1, v2, v3 =>
    (if ((σ 0).1 9) ≤ v3 then (if isB v2 = true then some (v2, σ) else none) else (if v2 = 0 then (if inb v3 8 = true then (if ((σ 0).2 5 v3.toNatClampNeg) = v1 then m_M_memory_9 N n9 σ v1 1 (v3 + 1) else m_M_memory_9 N n9 σ v1 0 (v3 + 1)) else none) else m_M_memory_9 N n9 σ v1 1 (v3 + 1)))

def m_M_memory (N : Nat) (σ : SX) (a1 : Int32) : Option (Int32 × SX) :=
  m_M_memory_9 N N (w1 σ 0 0 0) a1 0 0

set_option maxHeartbeats 4000000 in
set_option maxRecDepth 100000 in
theorem c_M_memory (l : Launch) (dC : Nat → ClassId) (dI : Nat → Nat → Nat) (ad : Nat → Nat → Nat) (cs : Nat → ClassId) (sz N : Nat) (σ : SX) (a1 : Int32) {r0 : Int32} {σ0 : SX} (hM : m_M_memory N σ a1 = some (r0, σ0)) : Met l y_M_memory (wd y_M_memory b_M_memory 4 (some .boolean)) ({ frames := 0, cells := 0, slots := 0, locals := 0 }) (va_Pc [.ref (ad 0 0), .int a1] (preM dC dI ad cs sz σ)) (va_Qi (fun (r : Int32) (u : SX) => r = r0 ∧ u = σ0) (atM dC dI ad cs (va_A (wM ad cs σ) sz)) (va_A (wM ad cs σ) sz)) 0 0 (va_A (wM ad cs σ) sz) := by
  refine Met.ofW (cc := b_M_memory) (maxL := 4) (ret := (some .boolean)) (by decide) rfl ?_
  intro p e s m args below meth c s₁ B hml hv
  obtain ⟨rfl, hsz, hP, hK, hD0, hN⟩ := hv
  have hx := B.exec
  have hb := B.bytes
  have hr := B.returns
  have hts := atoms_spec (ws := (wd y_M_memory b_M_memory 4 (some .boolean))) B.pre
  have htb : ∀ w ∈ tb, w.before _ s = true := fun w h => hts w (List.mem_cons_of_mem _ h)
  have hown : s.vm.findClass R_M = some m.cls := findClass_of_methodNamed B.named
  have hlocks := B.notSynchronized
  subst hsz
  have hD := hD0.self (sz := s.heap.size)
  generalize hAe : va_A (wM ad cs σ) s.heap.size = A at hD ⊢
  have hA : ∀ q : Nat, s.heap.size ≤ q → A q := fun q h => by rw [← hAe]; exact Or.inr h
  have hS : va_S A s.heap s.heap [] := va_S.rf
  have hP : va_P (dC, dI) classes (wM ad cs σ) s.heap := hP
  have hl := lv_entry ([.ref (ad 0 0), .int a1]) (n := 4) (Nat.le_of_ble_eq_true rfl)
  rw [lg_entry_eq]
  generalize (lg_sl ([.ref (ad 0 0), .int a1]) ++ List.replicate (4 - (lg_sl ([.ref (ad 0 0), .int a1])).length) Slot.unset).toArray = ls at hl ⊢
  have hl : lv_has ls 4 [(0, .ref (ad 0 0)), (1, .int a1)] := hl
  rw [m_M_memory] at hM
  refine W_loop (pc := 9) (fun n9 H locs ls st => ∃ (σ : SX) (v1 : Int32) (v2 : Int32) (v3 : Int32), st = [] ∧ m_M_memory_9 N n9 σ v1 v2 v3 = some (r0, σ0) ∧ lv_has ls 4 [(0, .ref (ad 0 0)), (1, .int v1), (2, .int v2), (3, .int v3)] ∧ va_P (dC, dI) classes (wM ad cs σ) H ∧ va_D A (wM ad cs σ) ∧ va_S A s.heap H locs) ?_ ?_ ?_
  · rintro H locs ls st ⟨σ, v1, v2, v3, -, hM, -⟩
    rw [m_M_memory_9] at hM; cases hM
  · intro n9 K9 H locs ls st hI
    obtain ⟨σ, v1, v2, v3, rfl, hM, hl, hP, hD, hS⟩ := hI
    rw [m_M_memory_9] at hM
    refine lv_iload_n hx hb d_M_memory_9 rfl (lv_at hl 3 rfl) ?_
    refine lv_aload_n hx hb d_M_memory_10 rfl (lv_at hl 0 rfl) ?_
    refine va_get (D := (dC, dI)) (ci := 7) (v := .int ((σ 0).1 9)) (C := R_M) (T := F_M) (N := 33) hx hb htb in_M hown hK hP 0 (g_M) rfl 13 (by decide) (htb _ k_632) (fun _ h9 => h9) rfl d_M_memory_11 ?_
    refine lv_icmp_ge (tgt := 43) hx hb d_M_memory_14 (by decide) (fun h14 => ?_) (fun h14 => ?_)
    · rw [if_pos h14] at hM
      refine lv_iload_n hx hb d_M_memory_43 rfl (lv_at hl 2 rfl) ?_
      have hz44 := gd_c hM
      have hM := gd_v hM
      have e9 := Prod.mk.inj (Option.some.inj hM)
      exact W.zret (ty := .boolean) (v := v2) hx hb hr (isB_n hz44) (fun t ht hW => ⟨⟨v2, σ, rfl, e9, by rw [ht]; exact hP, va_K.moved hW.alike hK, hD⟩, hS.F ht⟩) hS.2.2 d_M_memory_44
    · rw [if_neg h14] at hM
      refine lv_iload_n hx hb d_M_memory_17 rfl (lv_at hl 2 rfl) ?_
      refine lv_if_ne (tgt := 31) hx hb d_M_memory_18 (by decide) (fun h18 => ?_) (fun h18 => ?_)
      · rw [if_neg h18] at hM
        refine lv_iconst (v := 1) hx hb d_M_memory_31 (by decide) ?_
        refine lv_goto (tgt := 36) hx hb d_M_memory_32 (by decide) ?_
        refine lv_istore_n hx hb d_M_memory_36 rfl hl (by decide) (lv' := [(2, .int 1), (0, .ref (ad 0 0)), (1, .int v1), (3, .int v3)]) rfl (fun ls hl => ?_)
        refine lv_iinc (k := 3) (v := (v3 + 1)) hx hb d_M_memory_37 hl rfl rfl (by decide) (lv' := [(3, .int (v3 + 1)), (2, .int 1), (0, .ref (ad 0 0)), (1, .int v1)]) rfl (fun ls hl => ?_)
        refine lv_goto (tgt := 9) hx hb d_M_memory_40 (by decide) ?_
        exact K9 _ _ _ _ ⟨σ, v1, 1, (v3 + 1), rfl, hM, lv_sub hl [2, 3, 1, 0] rfl, hP, hD, hS⟩
      · rw [if_pos h18] at hM
        refine lv_aload_n hx hb d_M_memory_21 rfl (lv_at hl 0 rfl) ?_
        refine va_get (D := (dC, dI)) (ci := 7) (v := .ref (ad 0 5)) (C := R_M) (T := F_M) (N := 33) hx hb htb in_M hown hK hP 0 (g_M) rfl 14 (by decide) (htb _ k_633) (fun _ h9 => h9) rfl d_M_memory_22 ?_
        refine lv_iload_n hx hb d_M_memory_25 rfl (lv_at hl 3 rfl) ?_
        have hg26 := gd_c hM
        have hM := gd_v hM
        refine va_iald hx hb hK hP 5 0 (g_M_a5) rfl (inb_in hg26) d_M_memory_26 ?_
        refine lv_iload_n hx hb d_M_memory_27 rfl (lv_at hl 1 rfl) ?_
        refine lv_icmp_ne (tgt := 35) hx hb d_M_memory_28 (by decide) (fun h28 => ?_) (fun h28 => ?_)
        · rw [if_neg h28] at hM
          refine lv_iconst (v := 0) hx hb d_M_memory_35 (by decide) ?_
          refine lv_istore_n hx hb d_M_memory_36 rfl hl (by decide) (lv' := [(2, .int 0), (0, .ref (ad 0 0)), (1, .int v1), (3, .int v3)]) rfl (fun ls hl => ?_)
          refine lv_iinc (k := 3) (v := (v3 + 1)) hx hb d_M_memory_37 hl rfl rfl (by decide) (lv' := [(3, .int (v3 + 1)), (2, .int 0), (0, .ref (ad 0 0)), (1, .int v1)]) rfl (fun ls hl => ?_)
          refine lv_goto (tgt := 9) hx hb d_M_memory_40 (by decide) ?_
          exact K9 _ _ _ _ ⟨σ, v1, 0, (v3 + 1), rfl, hM, lv_sub hl [2, 3, 1, 0] rfl, hP, hD, hS⟩
        · rw [if_pos h28] at hM
          refine lv_iconst (v := 1) hx hb d_M_memory_31 (by decide) ?_
          refine lv_goto (tgt := 36) hx hb d_M_memory_32 (by decide) ?_
          refine lv_istore_n hx hb d_M_memory_36 rfl hl (by decide) (lv' := [(2, .int 1), (0, .ref (ad 0 0)), (1, .int v1), (3, .int v3)]) rfl (fun ls hl => ?_)
          refine lv_iinc (k := 3) (v := (v3 + 1)) hx hb d_M_memory_37 hl rfl rfl (by decide) (lv' := [(3, .int (v3 + 1)), (2, .int 1), (0, .ref (ad 0 0)), (1, .int v1)]) rfl (fun ls hl => ?_)
          refine lv_goto (tgt := 9) hx hb d_M_memory_40 (by decide) ?_
          exact K9 _ _ _ _ ⟨σ, v1, 1, (v3 + 1), rfl, hM, lv_sub hl [2, 3, 1, 0] rfl, hP, hD, hS⟩
  intro K9
  refine lv_aload_n hx hb d_M_memory_0 rfl (lv_at hl 0 rfl) ?_
  refine lv_iconst (v := 0) hx hb d_M_memory_1 (by decide) ?_
  refine va_put (D := (dC, dI)) (ci := 7) (v := .int 0) (ty := .int) (C := R_M) (T := F_M) (N := 33) hx hb htb in_M ft_M ft_M_ok n_M hown hK hP hD hS 0 (g_M) rfl 0 (by decide) (htb _ k_619) (fun _ h9 => h9) rfl (by decide +kernel) rfl rfl (Nat.le_of_ble_eq_true rfl) d_M_memory_2 (fun H locs hP hD hS => ?_)
  have hP := P_eq (s_M_0) hP
  have hD := D_eq (s_M_0) hD
  refine lv_iconst (v := 0) hx hb d_M_memory_5 (by decide) ?_
  refine lv_istore_n hx hb d_M_memory_6 rfl hl (by decide) (lv' := [(2, .int 0), (0, .ref (ad 0 0)), (1, .int a1)]) rfl (fun ls hl => ?_)
  refine lv_iconst (v := 0) hx hb d_M_memory_7 (by decide) ?_
  refine lv_istore_n hx hb d_M_memory_8 rfl hl (by decide) (lv' := [(3, .int 0), (2, .int 0), (0, .ref (ad 0 0)), (1, .int a1)]) rfl (fun ls hl => ?_)
  exact K9 N _ _ _ _ ⟨(w1 σ 0 0 0), a1, 0, 0, rfl, hM, lv_sub hl [2, 3, 1, 0] rfl, hP, hD, hS⟩

theorem d_M_written_0 : decode b_M_written 0 = .ok (.aload_n 0, 1) := by decide +kernel
theorem d_M_written_1 : decode b_M_written 1 = .ok (.iconst 0, 1) := by decide +kernel
theorem d_M_written_2 : decode b_M_written 2 = .ok (.putfield 70, 3) := by decide +kernel
theorem d_M_written_5 : decode b_M_written 5 = .ok (.aload_n 0, 1) := by decide +kernel
theorem d_M_written_6 : decode b_M_written 6 = .ok (.getfield 114, 3) := by decide +kernel
theorem d_M_written_9 : decode b_M_written 9 = .ok (.ireturn, 1) := by decide +kernel
def m_M_written (N : Nat) (σ : SX) : Option (Int32 × SX) :=
  some ((((w1 σ 0 0 0) 0).1 7), (w1 σ 0 0 0))

set_option maxHeartbeats 4000000 in
set_option maxRecDepth 100000 in
theorem c_M_written (l : Launch) (dC : Nat → ClassId) (dI : Nat → Nat → Nat) (ad : Nat → Nat → Nat) (cs : Nat → ClassId) (sz N : Nat) (σ : SX) {r0 : Int32} {σ0 : SX} (hM : m_M_written N σ = some (r0, σ0)) : Met l y_M_written (wd y_M_written b_M_written 1 (some .int)) ({ frames := 0, cells := 0, slots := 0, locals := 0 }) (va_Pc [.ref (ad 0 0)] (preM dC dI ad cs sz σ)) (va_Qi (fun (r : Int32) (u : SX) => r = r0 ∧ u = σ0) (atM dC dI ad cs (va_A (wM ad cs σ) sz)) (va_A (wM ad cs σ) sz)) 0 0 (va_A (wM ad cs σ) sz) := by
  refine Met.ofW (cc := b_M_written) (maxL := 1) (ret := (some .int)) (by decide) rfl ?_
  intro p e s m args below meth c s₁ B hml hv
  obtain ⟨rfl, hsz, hP, hK, hD0, hN⟩ := hv
  have hx := B.exec
  have hb := B.bytes
  have hr := B.returns
  have hts := atoms_spec (ws := (wd y_M_written b_M_written 1 (some .int))) B.pre
  have htb : ∀ w ∈ tb, w.before _ s = true := fun w h => hts w (List.mem_cons_of_mem _ h)
  have hown : s.vm.findClass R_M = some m.cls := findClass_of_methodNamed B.named
  have hlocks := B.notSynchronized
  subst hsz
  have hD := hD0.self (sz := s.heap.size)
  generalize hAe : va_A (wM ad cs σ) s.heap.size = A at hD ⊢
  have hA : ∀ q : Nat, s.heap.size ≤ q → A q := fun q h => by rw [← hAe]; exact Or.inr h
  have hS : va_S A s.heap s.heap [] := va_S.rf
  have hP : va_P (dC, dI) classes (wM ad cs σ) s.heap := hP
  have hl := lv_entry ([.ref (ad 0 0)]) (n := 1) (Nat.le_of_ble_eq_true rfl)
  rw [lg_entry_eq]
  generalize (lg_sl ([.ref (ad 0 0)]) ++ List.replicate (1 - (lg_sl ([.ref (ad 0 0)])).length) Slot.unset).toArray = ls at hl ⊢
  have hl : lv_has ls 1 [(0, .ref (ad 0 0))] := hl
  rw [m_M_written] at hM
  refine lv_aload_n hx hb d_M_written_0 rfl (lv_at hl 0 rfl) ?_
  refine lv_iconst (v := 0) hx hb d_M_written_1 (by decide) ?_
  refine va_put (D := (dC, dI)) (ci := 7) (v := .int 0) (ty := .int) (C := R_M) (T := F_M) (N := 33) hx hb htb in_M ft_M ft_M_ok n_M hown hK hP hD hS 0 (g_M) rfl 0 (by decide) (htb _ k_619) (fun _ h9 => h9) rfl (by decide +kernel) rfl rfl (Nat.le_of_ble_eq_true rfl) d_M_written_2 (fun H locs hP hD hS => ?_)
  have hP := P_eq (s_M_0) hP
  have hD := D_eq (s_M_0) hD
  refine lv_aload_n hx hb d_M_written_5 rfl (lv_at hl 0 rfl) ?_
  refine va_get (D := (dC, dI)) (ci := 7) (v := .int (((w1 σ 0 0 0) 0).1 7)) (C := R_M) (T := F_M) (N := 33) hx hb htb in_M hown hK hP 0 (g_M) rfl 10 (by decide) (htb _ k_629) (fun _ h9 => h9) rfl d_M_written_6 ?_
  have e9 := Prod.mk.inj (Option.some.inj hM)
  exact W.iret (v := (((w1 σ 0 0 0) 0).1 7)) hx hb hr (fun t ht hW => ⟨⟨(((w1 σ 0 0 0) 0).1 7), (w1 σ 0 0 0), rfl, e9, by rw [ht]; exact hP, va_K.moved hW.alike hK, hD⟩, hS.F ht⟩) hS.2.2 d_M_written_9

theorem d_M_broken_0 : decode b_M_broken 0 = .ok (.aload_n 0, 1) := by decide +kernel
theorem d_M_broken_1 : decode b_M_broken 1 = .ok (.iconst 0, 1) := by decide +kernel
theorem d_M_broken_2 : decode b_M_broken 2 = .ok (.putfield 70, 3) := by decide +kernel
theorem d_M_broken_5 : decode b_M_broken 5 = .ok (.aload_n 0, 1) := by decide +kernel
theorem d_M_broken_6 : decode b_M_broken 6 = .ok (.getfield 117, 3) := by decide +kernel
theorem d_M_broken_9 : decode b_M_broken 9 = .ok (.ireturn, 1) := by decide +kernel
def m_M_broken (N : Nat) (σ : SX) : Option (Int32 × SX) :=
  some ((((w1 σ 0 0 0) 0).1 8), (w1 σ 0 0 0))

set_option maxHeartbeats 4000000 in
set_option maxRecDepth 100000 in
theorem c_M_broken (l : Launch) (dC : Nat → ClassId) (dI : Nat → Nat → Nat) (ad : Nat → Nat → Nat) (cs : Nat → ClassId) (sz N : Nat) (σ : SX) {r0 : Int32} {σ0 : SX} (hM : m_M_broken N σ = some (r0, σ0)) : Met l y_M_broken (wd y_M_broken b_M_broken 1 (some .int)) ({ frames := 0, cells := 0, slots := 0, locals := 0 }) (va_Pc [.ref (ad 0 0)] (preM dC dI ad cs sz σ)) (va_Qi (fun (r : Int32) (u : SX) => r = r0 ∧ u = σ0) (atM dC dI ad cs (va_A (wM ad cs σ) sz)) (va_A (wM ad cs σ) sz)) 0 0 (va_A (wM ad cs σ) sz) := by
  refine Met.ofW (cc := b_M_broken) (maxL := 1) (ret := (some .int)) (by decide) rfl ?_
  intro p e s m args below meth c s₁ B hml hv
  obtain ⟨rfl, hsz, hP, hK, hD0, hN⟩ := hv
  have hx := B.exec
  have hb := B.bytes
  have hr := B.returns
  have hts := atoms_spec (ws := (wd y_M_broken b_M_broken 1 (some .int))) B.pre
  have htb : ∀ w ∈ tb, w.before _ s = true := fun w h => hts w (List.mem_cons_of_mem _ h)
  have hown : s.vm.findClass R_M = some m.cls := findClass_of_methodNamed B.named
  have hlocks := B.notSynchronized
  subst hsz
  have hD := hD0.self (sz := s.heap.size)
  generalize hAe : va_A (wM ad cs σ) s.heap.size = A at hD ⊢
  have hA : ∀ q : Nat, s.heap.size ≤ q → A q := fun q h => by rw [← hAe]; exact Or.inr h
  have hS : va_S A s.heap s.heap [] := va_S.rf
  have hP : va_P (dC, dI) classes (wM ad cs σ) s.heap := hP
  have hl := lv_entry ([.ref (ad 0 0)]) (n := 1) (Nat.le_of_ble_eq_true rfl)
  rw [lg_entry_eq]
  generalize (lg_sl ([.ref (ad 0 0)]) ++ List.replicate (1 - (lg_sl ([.ref (ad 0 0)])).length) Slot.unset).toArray = ls at hl ⊢
  have hl : lv_has ls 1 [(0, .ref (ad 0 0))] := hl
  rw [m_M_broken] at hM
  refine lv_aload_n hx hb d_M_broken_0 rfl (lv_at hl 0 rfl) ?_
  refine lv_iconst (v := 0) hx hb d_M_broken_1 (by decide) ?_
  refine va_put (D := (dC, dI)) (ci := 7) (v := .int 0) (ty := .int) (C := R_M) (T := F_M) (N := 33) hx hb htb in_M ft_M ft_M_ok n_M hown hK hP hD hS 0 (g_M) rfl 0 (by decide) (htb _ k_619) (fun _ h9 => h9) rfl (by decide +kernel) rfl rfl (Nat.le_of_ble_eq_true rfl) d_M_broken_2 (fun H locs hP hD hS => ?_)
  have hP := P_eq (s_M_0) hP
  have hD := D_eq (s_M_0) hD
  refine lv_aload_n hx hb d_M_broken_5 rfl (lv_at hl 0 rfl) ?_
  refine va_get (D := (dC, dI)) (ci := 7) (v := .int (((w1 σ 0 0 0) 0).1 8)) (C := R_M) (T := F_M) (N := 33) hx hb htb in_M hown hK hP 0 (g_M) rfl 11 (by decide) (htb _ k_630) (fun _ h9 => h9) rfl d_M_broken_6 ?_
  have e9 := Prod.mk.inj (Option.some.inj hM)
  exact W.iret (v := (((w1 σ 0 0 0) 0).1 8)) hx hb hr (fun t ht hW => ⟨⟨(((w1 σ 0 0 0) 0).1 8), (w1 σ 0 0 0), rfl, e9, by rw [ht]; exact hP, va_K.moved hW.alike hK, hD⟩, hS.F ht⟩) hS.2.2 d_M_broken_9

theorem d_M_sorted_0 : decode b_M_sorted 0 = .ok (.aload_n 0, 1) := by decide +kernel
theorem d_M_sorted_1 : decode b_M_sorted 1 = .ok (.iconst 0, 1) := by decide +kernel
theorem d_M_sorted_2 : decode b_M_sorted 2 = .ok (.putfield 70, 3) := by decide +kernel
theorem d_M_sorted_5 : decode b_M_sorted 5 = .ok (.aload_n 0, 1) := by decide +kernel
theorem d_M_sorted_6 : decode b_M_sorted 6 = .ok (.getfield 73, 3) := by decide +kernel
theorem d_M_sorted_9 : decode b_M_sorted 9 = .ok (.iconst 3, 1) := by decide +kernel
theorem d_M_sorted_10 : decode b_M_sorted 10 = .ok (.if_icmp .ne 25, 3) := by decide +kernel
theorem d_M_sorted_13 : decode b_M_sorted 13 = .ok (.aload_n 0, 1) := by decide +kernel
theorem d_M_sorted_14 : decode b_M_sorted 14 = .ok (.getfield 76, 3) := by decide +kernel
theorem d_M_sorted_17 : decode b_M_sorted 17 = .ok (.ifCond .le 18, 3) := by decide +kernel
theorem d_M_sorted_20 : decode b_M_sorted 20 = .ok (.aload_n 0, 1) := by decide +kernel
theorem d_M_sorted_21 : decode b_M_sorted 21 = .ok (.aload_n 0, 1) := by decide +kernel
theorem d_M_sorted_22 : decode b_M_sorted 22 = .ok (.getfield 52, 3) := by decide +kernel
theorem d_M_sorted_25 : decode b_M_sorted 25 = .ok (.iconst 0, 1) := by decide +kernel
theorem d_M_sorted_26 : decode b_M_sorted 26 = .ok (.iaload, 1) := by decide +kernel
theorem d_M_sorted_27 : decode b_M_sorted 27 = .ok (.iconst 0, 1) := by decide +kernel
theorem d_M_sorted_28 : decode b_M_sorted 28 = .ok (.iload_n 1, 1) := by decide +kernel
theorem d_M_sorted_29 : decode b_M_sorted 29 = .ok (.invokevirtual 178, 3) := by decide +kernel
theorem d_M_sorted_32 : decode b_M_sorted 32 = .ok (.goto 4, 3) := by decide +kernel
theorem d_M_sorted_35 : decode b_M_sorted 35 = .ok (.iconst (-1), 1) := by decide +kernel
theorem d_M_sorted_36 : decode b_M_sorted 36 = .ok (.ireturn, 1) := by decide +kernel
def m_M_sorted (N : Nat) (σ : SX) (a1 : Int32) : Option (Int32 × SX) :=
  (if (((w1 σ 0 0 0) 0).1 4) = 3 then (if (((w1 σ 0 0 0) 0).1 2) ≤ 0 then some ((-1), (w1 σ 0 0 0)) else (bI (m_M_at N (w1 σ 0 0 0) (((w1 σ 0 0 0) 0).2 12 (0 : Int32).toNatClampNeg) 0 a1) fun r29 σ29 => some (r29, σ29))) else some ((-1), (w1 σ 0 0 0)))

set_option maxHeartbeats 4000000 in
set_option maxRecDepth 100000 in
theorem c_M_sorted (l : Launch) (dC : Nat → ClassId) (dI : Nat → Nat → Nat) (ad : Nat → Nat → Nat) (cs : Nat → ClassId) (sz N : Nat) (σ : SX) (a1 : Int32) {r0 : Int32} {σ0 : SX} (hM : m_M_sorted N σ a1 = some (r0, σ0)) : Met l y_M_sorted (wd y_M_sorted b_M_sorted 2 (some .int)) ({ frames := 2, cells := 0, slots := 0, locals := 45 }) (va_Pc [.ref (ad 0 0), .int a1] (preM dC dI ad cs sz σ)) (va_Qi (fun (r : Int32) (u : SX) => r = r0 ∧ u = σ0) (atM dC dI ad cs (va_A (wM ad cs σ) sz)) (va_A (wM ad cs σ) sz)) 0 0 (va_A (wM ad cs σ) sz) := by
  refine Met.ofW (cc := b_M_sorted) (maxL := 2) (ret := (some .int)) (by decide) rfl ?_
  intro p e s m args below meth c s₁ B hml hv
  obtain ⟨rfl, hsz, hP, hK, hD0, hN⟩ := hv
  have hx := B.exec
  have hb := B.bytes
  have hr := B.returns
  have hts := atoms_spec (ws := (wd y_M_sorted b_M_sorted 2 (some .int))) B.pre
  have htb : ∀ w ∈ tb, w.before _ s = true := fun w h => hts w (List.mem_cons_of_mem _ h)
  have hown : s.vm.findClass R_M = some m.cls := findClass_of_methodNamed B.named
  have hlocks := B.notSynchronized
  subst hsz
  have hD := hD0.self (sz := s.heap.size)
  generalize hAe : va_A (wM ad cs σ) s.heap.size = A at hD ⊢
  have hA : ∀ q : Nat, s.heap.size ≤ q → A q := fun q h => by rw [← hAe]; exact Or.inr h
  have hS : va_S A s.heap s.heap [] := va_S.rf
  have hP : va_P (dC, dI) classes (wM ad cs σ) s.heap := hP
  have hl := lv_entry ([.ref (ad 0 0), .int a1]) (n := 2) (Nat.le_of_ble_eq_true rfl)
  rw [lg_entry_eq]
  generalize (lg_sl ([.ref (ad 0 0), .int a1]) ++ List.replicate (2 - (lg_sl ([.ref (ad 0 0), .int a1])).length) Slot.unset).toArray = ls at hl ⊢
  have hl : lv_has ls 2 [(0, .ref (ad 0 0)), (1, .int a1)] := hl
  rw [m_M_sorted] at hM
  refine lv_aload_n hx hb d_M_sorted_0 rfl (lv_at hl 0 rfl) ?_
  refine lv_iconst (v := 0) hx hb d_M_sorted_1 (by decide) ?_
  refine va_put (D := (dC, dI)) (ci := 7) (v := .int 0) (ty := .int) (C := R_M) (T := F_M) (N := 33) hx hb htb in_M ft_M ft_M_ok n_M hown hK hP hD hS 0 (g_M) rfl 0 (by decide) (htb _ k_619) (fun _ h9 => h9) rfl (by decide +kernel) rfl rfl (Nat.le_of_ble_eq_true rfl) d_M_sorted_2 (fun H locs hP hD hS => ?_)
  have hP := P_eq (s_M_0) hP
  have hD := D_eq (s_M_0) hD
  refine lv_aload_n hx hb d_M_sorted_5 rfl (lv_at hl 0 rfl) ?_
  refine va_get (D := (dC, dI)) (ci := 7) (v := .int (((w1 σ 0 0 0) 0).1 4)) (C := R_M) (T := F_M) (N := 33) hx hb htb in_M hown hK hP 0 (g_M) rfl 7 (by decide) (htb _ k_626) (fun _ h9 => h9) rfl d_M_sorted_6 ?_
  refine lv_iconst (v := 3) hx hb d_M_sorted_9 (by decide) ?_
  refine lv_icmp_ne (tgt := 35) hx hb d_M_sorted_10 (by decide) (fun h10 => ?_) (fun h10 => ?_)
  · rw [if_neg h10] at hM
    refine lv_iconst (v := (-1)) hx hb d_M_sorted_35 (by decide) ?_
    have e9 := Prod.mk.inj (Option.some.inj hM)
    exact W.iret (v := (-1)) hx hb hr (fun t ht hW => ⟨⟨(-1), (w1 σ 0 0 0), rfl, e9, by rw [ht]; exact hP, va_K.moved hW.alike hK, hD⟩, hS.F ht⟩) hS.2.2 d_M_sorted_36
  · rw [if_pos h10] at hM
    refine lv_aload_n hx hb d_M_sorted_13 rfl (lv_at hl 0 rfl) ?_
    refine va_get (D := (dC, dI)) (ci := 7) (v := .int (((w1 σ 0 0 0) 0).1 2)) (C := R_M) (T := F_M) (N := 33) hx hb htb in_M hown hK hP 0 (g_M) rfl 2 (by decide) (htb _ k_621) (fun _ h9 => h9) rfl d_M_sorted_14 ?_
    refine lv_if_le (tgt := 35) hx hb d_M_sorted_17 (by decide) (fun h17 => ?_) (fun h17 => ?_)
    · rw [if_pos h17] at hM
      refine lv_iconst (v := (-1)) hx hb d_M_sorted_35 (by decide) ?_
      have e9 := Prod.mk.inj (Option.some.inj hM)
      exact W.iret (v := (-1)) hx hb hr (fun t ht hW => ⟨⟨(-1), (w1 σ 0 0 0), rfl, e9, by rw [ht]; exact hP, va_K.moved hW.alike hK, hD⟩, hS.F ht⟩) hS.2.2 d_M_sorted_36
    · rw [if_neg h17] at hM
      refine lv_aload_n hx hb d_M_sorted_20 rfl (lv_at hl 0 rfl) ?_
      refine lv_aload_n hx hb d_M_sorted_21 rfl (lv_at hl 0 rfl) ?_
      refine va_get (D := (dC, dI)) (ci := 7) (v := .ref (ad 0 12)) (C := R_M) (T := F_M) (N := 33) hx hb htb in_M hown hK hP 0 (g_M) rfl 25 (by decide) (htb _ k_644) (fun _ h9 => h9) rfl d_M_sorted_22 ?_
      refine lv_iconst (v := 0) hx hb d_M_sorted_25 (by decide) ?_
      refine va_iald hx hb hK hP 12 0 (g_M_a12) rfl (inb_in (by decide)) d_M_sorted_26 ?_
      refine lv_iconst (v := 0) hx hb d_M_sorted_27 (by decide) ?_
      refine lv_iload_n hx hb d_M_sorted_28 rfl (lv_at hl 1 rfl) ?_
      have hF1 := free_all hD hS hA
      obtain ⟨x29, y29, hq29, hM⟩ := bI_some hM
      refine va_calli (va_runV (As := [.int (((w1 σ 0 0 0) 0).2 12 (0 : Int32).toNatClampNeg), .int 0, .int a1]) (rest := []) ⟨hx, hb, hml, hown, hts⟩ (c_M_at l dC dI ad cs _ N (w1 σ 0 0 0) (((w1 σ 0 0 0) 0).2 12 (0 : Int32).toNatClampNeg) 0 a1 hq29) (cwV 3 hts (goodV k_878 k_859 k_860 k_8 k_861) rfl rfl rfl ⟨rfl, by decide, by decide, by decide +kernel⟩ ⟨Nat.le_of_ble_eq_true rfl, Nat.le_of_ble_eq_true rfl⟩) ⟨blindM, va_recv hK hP rfl (g_M), payM hP hK hD hN⟩ rfl rfl hl.1 rfl (lv_room (Nat.le_of_ble_eq_true rfl)) d_M_sorted_29 ⟨Nat.zero_le _, Nat.zero_le _⟩) hS (fun q _ h => hF1 q h) hF1 (fun r29 σ29 t H locs ht hvm hpost hB hz1 hk1 hS => ?_)
      obtain ⟨e1, e2⟩ := hpost
      subst e1
      subst e2
      obtain ⟨hP1, hK1, hD1⟩ := hB
      rw [ht] at hP1
      have hP := hP1
      have hD := hD1.weaken (fun _ _ _ h => hF1 _ h)
      refine lv_goto (tgt := 36) hx hb d_M_sorted_32 (by decide) ?_
      have e9 := Prod.mk.inj (Option.some.inj hM)
      exact W.iret (v := r29) hx hb hr (fun t ht hW => ⟨⟨r29, σ29, rfl, e9, by rw [ht]; exact hP, va_K.moved hW.alike hK, hD⟩, hS.F ht⟩) hS.2.2 d_M_sorted_36
