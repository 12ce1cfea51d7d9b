theorem d_M_turn_0 : decode b_M_turn 0 = .ok (.aload_n 0, 1) := by decide +kernel
theorem d_M_turn_1 : decode b_M_turn 1 = .ok (.getfield 52, 3) := by decide +kernel
theorem d_M_turn_4 : decode b_M_turn 4 = .ok (.iconst 2, 1) := by decide +kernel
theorem d_M_turn_5 : decode b_M_turn 5 = .ok (.iaload, 1) := by decide +kernel
theorem d_M_turn_6 : decode b_M_turn 6 = .ok (.istore_n 1, 1) := by decide +kernel
theorem d_M_turn_7 : decode b_M_turn 7 = .ok (.aload_n 0, 1) := by decide +kernel
theorem d_M_turn_8 : decode b_M_turn 8 = .ok (.getfield 46, 3) := by decide +kernel
theorem d_M_turn_11 : decode b_M_turn 11 = .ok (.iload_n 1, 1) := by decide +kernel
theorem d_M_turn_12 : decode b_M_turn 12 = .ok (.iaload, 1) := by decide +kernel
theorem d_M_turn_13 : decode b_M_turn 13 = .ok (.ifCond .gt 12, 3) := by decide +kernel
theorem d_M_turn_16 : decode b_M_turn 16 = .ok (.aload_n 0, 1) := by decide +kernel
theorem d_M_turn_17 : decode b_M_turn 17 = .ok (.getfield 49, 3) := by decide +kernel
theorem d_M_turn_20 : decode b_M_turn 20 = .ok (.iload_n 1, 1) := by decide +kernel
theorem d_M_turn_21 : decode b_M_turn 21 = .ok (.iaload, 1) := by decide +kernel
theorem d_M_turn_22 : decode b_M_turn 22 = .ok (.ifCond .le 4, 3) := by decide +kernel
theorem d_M_turn_25 : decode b_M_turn 25 = .ok (.return_, 1) := by decide +kernel
theorem d_M_turn_26 : decode b_M_turn 26 = .ok (.aload_n 0, 1) := by decide +kernel
theorem d_M_turn_27 : decode b_M_turn 27 = .ok (.aload_n 0, 1) := by decide +kernel
theorem d_M_turn_28 : decode b_M_turn 28 = .ok (.getfield 105, 3) := by decide +kernel
theorem d_M_turn_31 : decode b_M_turn 31 = .ok (.iconst 1, 1) := by decide +kernel
theorem d_M_turn_32 : decode b_M_turn 32 = .ok (.isub, 1) := by decide +kernel
theorem d_M_turn_33 : decode b_M_turn 33 = .ok (.putfield 105, 3) := by decide +kernel
theorem d_M_turn_36 : decode b_M_turn 36 = .ok (.aload_n 0, 1) := by decide +kernel
theorem d_M_turn_37 : decode b_M_turn 37 = .ok (.getfield 52, 3) := by decide +kernel
theorem d_M_turn_40 : decode b_M_turn 40 = .ok (.iconst 2, 1) := by decide +kernel
theorem d_M_turn_41 : decode b_M_turn 41 = .ok (.aload_n 0, 1) := by decide +kernel
theorem d_M_turn_42 : decode b_M_turn 42 = .ok (.getfield 52, 3) := by decide +kernel
theorem d_M_turn_45 : decode b_M_turn 45 = .ok (.iconst 1, 1) := by decide +kernel
theorem d_M_turn_46 : decode b_M_turn 46 = .ok (.iaload, 1) := by decide +kernel
theorem d_M_turn_47 : decode b_M_turn 47 = .ok (.iastore, 1) := by decide +kernel
theorem d_M_turn_48 : decode b_M_turn 48 = .ok (.aload_n 0, 1) := by decide +kernel
theorem d_M_turn_49 : decode b_M_turn 49 = .ok (.getfield 52, 3) := by decide +kernel
theorem d_M_turn_52 : decode b_M_turn 52 = .ok (.iconst 1, 1) := by decide +kernel
theorem d_M_turn_53 : decode b_M_turn 53 = .ok (.aload_n 0, 1) := by decide +kernel
theorem d_M_turn_54 : decode b_M_turn 54 = .ok (.getfield 52, 3) := by decide +kernel
theorem d_M_turn_57 : decode b_M_turn 57 = .ok (.iconst 0, 1) := by decide +kernel
theorem d_M_turn_58 : decode b_M_turn 58 = .ok (.iaload, 1) := by decide +kernel
theorem d_M_turn_59 : decode b_M_turn 59 = .ok (.iastore, 1) := by decide +kernel
theorem d_M_turn_60 : decode b_M_turn 60 = .ok (.aload_n 0, 1) := by decide +kernel
theorem d_M_turn_61 : decode b_M_turn 61 = .ok (.getfield 52, 3) := by decide +kernel
theorem d_M_turn_64 : decode b_M_turn 64 = .ok (.iconst 0, 1) := by decide +kernel
theorem d_M_turn_65 : decode b_M_turn 65 = .ok (.aload_n 0, 1) := by decide +kernel
theorem d_M_turn_66 : decode b_M_turn 66 = .ok (.getfield 52, 3) := by decide +kernel
theorem d_M_turn_69 : decode b_M_turn 69 = .ok (.iconst 3, 1) := by decide +kernel
theorem d_M_turn_70 : decode b_M_turn 70 = .ok (.iaload, 1) := by decide +kernel
theorem d_M_turn_71 : decode b_M_turn 71 = .ok (.iastore, 1) := by decide +kernel
theorem d_M_turn_72 : decode b_M_turn 72 = .ok (.aload_n 0, 1) := by decide +kernel
theorem d_M_turn_73 : decode b_M_turn 73 = .ok (.getfield 52, 3) := by decide +kernel
theorem d_M_turn_76 : decode b_M_turn 76 = .ok (.iconst 3, 1) := by decide +kernel
theorem d_M_turn_77 : decode b_M_turn 77 = .ok (.iload_n 1, 1) := by decide +kernel
theorem d_M_turn_78 : decode b_M_turn 78 = .ok (.iastore, 1) := by decide +kernel
theorem d_M_turn_79 : decode b_M_turn 79 = .ok (.aload_n 0, 1) := by decide +kernel
theorem d_M_turn_80 : decode b_M_turn 80 = .ok (.aload_n 0, 1) := by decide +kernel
theorem d_M_turn_81 : decode b_M_turn 81 = .ok (.getfield 105, 3) := by decide +kernel
theorem d_M_turn_84 : decode b_M_turn 84 = .ok (.ifCond .ne 7, 3) := by decide +kernel
theorem d_M_turn_87 : decode b_M_turn 87 = .ok (.iconst 3, 1) := by decide +kernel
theorem d_M_turn_88 : decode b_M_turn 88 = .ok (.goto 4, 3) := by decide +kernel
theorem d_M_turn_91 : decode b_M_turn 91 = .ok (.iconst 2, 1) := by decide +kernel
theorem d_M_turn_92 : decode b_M_turn 92 = .ok (.putfield 73, 3) := by decide +kernel
theorem d_M_turn_95 : decode b_M_turn 95 = .ok (.return_, 1) := by decide +kernel
def m_M_turn (N : Nat) (σ : SX) : Option (SX) :=
  (if inb ((σ 0).2 12 (2 : Int32).toNatClampNeg) 4 = true then (if 0 < ((σ 0).2 10 ((σ 0).2 12 (2 : Int32).toNatClampNeg).toNatClampNeg) then some σ else (if inb ((σ 0).2 12 (2 : Int32).toNatClampNeg) 4 = true then (if ((σ 0).2 11 ((σ 0).2 12 (2 : Int32).toNatClampNeg).toNatClampNeg) ≤ 0 then (if (((w3 (w3 (w3 (w3 (w1 σ 0 12 (((σ 0).1 12) - 1)) 0 12 2 (((w1 σ 0 12 (((σ 0).1 12) - 1)) 0).2 12 (1 : Int32).toNatClampNeg)) 0 12 1 (((w3 (w1 σ 0 12 (((σ 0).1 12) - 1)) 0 12 2 (((w1 σ 0 12 (((σ 0).1 12) - 1)) 0).2 12 (1 : Int32).toNatClampNeg)) 0).2 12 (0 : Int32).toNatClampNeg)) 0 12 0 (((w3 (w3 (w1 σ 0 12 (((σ 0).1 12) - 1)) 0 12 2 (((w1 σ 0 12 (((σ 0).1 12) - 1)) 0).2 12 (1 : Int32).toNatClampNeg)) 0 12 1 (((w3 (w1 σ 0 12 (((σ 0).1 12) - 1)) 0 12 2 (((w1 σ 0 12 (((σ 0).1 12) - 1)) 0).2 12 (1 : Int32).toNatClampNeg)) 0).2 12 (0 : Int32).toNatClampNeg)) 0).2 12 (3 : Int32).toNatClampNeg)) 0 12 3 ((σ 0).2 12 (2 : Int32).toNatClampNeg)) 0).1 12) = 0 then some (w1 (w3 (w3 (w3 (w3 (w1 σ 0 12 (((σ 0).1 12) - 1)) 0 12 2 (((w1 σ 0 12 (((σ 0).1 12) - 1)) 0).2 12 (1 : Int32).toNatClampNeg)) 0 12 1 (((w3 (w1 σ 0 12 (((σ 0).1 12) - 1)) 0 12 2 (((w1 σ 0 12 (((σ 0).1 12) - 1)) 0).2 12 (1 : Int32).toNatClampNeg)) 0).2 12 (0 : Int32).toNatClampNeg)) 0 12 0 (((w3 (w3 (w1 σ 0 12 (((σ 0).1 12) - 1)) 0 12 2 (((w1 σ 0 12 (((σ 0).1 12) - 1)) 0).2 12 (1 : Int32).toNatClampNeg)) 0 12 1 (((w3 (w1 σ 0 12 (((σ 0).1 12) - 1)) 0 12 2 (((w1 σ 0 12 (((σ 0).1 12) - 1)) 0).2 12 (1 : Int32).toNatClampNeg)) 0).2 12 (0 : Int32).toNatClampNeg)) 0).2 12 (3 : Int32).toNatClampNeg)) 0 12 3 ((σ 0).2 12 (2 : Int32).toNatClampNeg)) 0 4 3) else some (w1 (w3 (w3 (w3 (w3 (w1 σ 0 12 (((σ 0).1 12) - 1)) 0 12 2 (((w1 σ 0 12 (((σ 0).1 12) - 1)) 0).2 12 (1 : Int32).toNatClampNeg)) 0 12 1 (((w3 (w1 σ 0 12 (((σ 0).1 12) - 1)) 0 12 2 (((w1 σ 0 12 (((σ 0).1 12) - 1)) 0).2 12 (1 : Int32).toNatClampNeg)) 0).2 12 (0 : Int32).toNatClampNeg)) 0 12 0 (((w3 (w3 (w1 σ 0 12 (((σ 0).1 12) - 1)) 0 12 2 (((w1 σ 0 12 (((σ 0).1 12) - 1)) 0).2 12 (1 : Int32).toNatClampNeg)) 0 12 1 (((w3 (w1 σ 0 12 (((σ 0).1 12) - 1)) 0 12 2 (((w1 σ 0 12 (((σ 0).1 12) - 1)) 0).2 12 (1 : Int32).toNatClampNeg)) 0).2 12 (0 : Int32).toNatClampNeg)) 0).2 12 (3 : Int32).toNatClampNeg)) 0 12 3 ((σ 0).2 12 (2 : Int32).toNatClampNeg)) 0 4 2)) else some σ) else none)) else none)

set_option maxHeartbeats 4000000 in
set_option maxRecDepth 100000 in
theorem c_M_turn (l : Launch) (dC : Nat → ClassId) (dI : Nat → Nat → Nat) (ad : Nat → Nat → Nat) (cs : Nat → ClassId) (sz N : Nat) (σ : SX) {σ0 : SX} (hM : m_M_turn N σ = some σ0) : Met l y_M_turn (wd y_M_turn b_M_turn 2 none) ({ frames := 0, cells := 0, slots := 0, locals := 0 }) (va_Pc [.ref (ad 0 0)] (preM dC dI ad cs sz σ)) (va_Qv (fun (u : SX) => u = σ0) (atM dC dI ad cs (va_A (wM ad cs σ) sz)) (va_A (wM ad cs σ) sz)) 0 0 (va_A (wM ad cs σ) sz) := by
  refine Met.ofW (cc := b_M_turn) (maxL := 2) (ret := none) (by decide) rfl ?_
  intro p e s m args below meth c s₁ B hml hv
  obtain ⟨rfl, hsz, hP, hK, hD0, hN⟩ := hv
  have hx := B.exec
  have hb := B.bytes
  have hr := B.returns
  have hts := atoms_spec (ws := (wd y_M_turn b_M_turn 2 none)) B.pre
  have htb : ∀ w ∈ tb, w.before _ s = true := fun w h => hts w (List.mem_cons_of_mem _ h)
  have hown : s.vm.findClass R_M = some m.cls := findClass_of_methodNamed B.named
  have hlocks := B.notSynchronized
  subst hsz
  have hD := hD0.self (sz := s.heap.size)
  generalize hAe : va_A (wM ad cs σ) s.heap.size = A at hD ⊢
  have hA : ∀ q : Nat, s.heap.size ≤ q → A q := fun q h => by rw [← hAe]; exact Or.inr h
  have hS : va_S A s.heap s.heap [] := va_S.rf
  have hP : va_P (dC, dI) classes (wM ad cs σ) s.heap := hP
  have hl := lv_entry ([.ref (ad 0 0)]) (n := 2) (Nat.le_of_ble_eq_true rfl)
  rw [lg_entry_eq]
  generalize (lg_sl ([.ref (ad 0 0)]) ++ List.replicate (2 - (lg_sl ([.ref (ad 0 0)])).length) Slot.unset).toArray = ls at hl ⊢
  have hl : lv_has ls 2 [(0, .ref (ad 0 0))] := hl
  rw [m_M_turn] at hM
  refine lv_aload_n hx hb d_M_turn_0 rfl (lv_at hl 0 rfl) ?_
  refine va_get (D := (dC, dI)) (ci := 7) (v := .ref (ad 0 12)) (C := R_M) (T := F_M) (N := 33) hx hb htb in_M hown hK hP 0 (g_M) rfl 25 (by decide) (htb _ k_644) (fun _ h9 => h9) rfl d_M_turn_1 ?_
  refine lv_iconst (v := 2) hx hb d_M_turn_4 (by decide) ?_
  refine va_iald hx hb hK hP 12 0 (g_M_a12) rfl (inb_in (by decide)) d_M_turn_5 ?_
  refine lv_istore_n hx hb d_M_turn_6 rfl hl (by decide) (lv' := [(1, .int ((σ 0).2 12 (2 : Int32).toNatClampNeg)), (0, .ref (ad 0 0))]) rfl (fun ls hl => ?_)
  refine lv_aload_n hx hb d_M_turn_7 rfl (lv_at hl 1 rfl) ?_
  refine va_get (D := (dC, dI)) (ci := 7) (v := .ref (ad 0 10)) (C := R_M) (T := F_M) (N := 33) hx hb htb in_M hown hK hP 0 (g_M) rfl 23 (by decide) (htb _ k_642) (fun _ h9 => h9) rfl d_M_turn_8 ?_
  refine lv_iload_n hx hb d_M_turn_11 rfl (lv_at hl 0 rfl) ?_
  have hg12 := gd_c hM
  have hM := gd_v hM
  refine va_iald hx hb hK hP 10 0 (g_M_a10) rfl (inb_in hg12) d_M_turn_12 ?_
  refine lv_if_gt (tgt := 25) hx hb d_M_turn_13 (by decide) (fun h13 => ?_) (fun h13 => ?_)
  · rw [if_pos h13] at hM
    have e9 := Option.some.inj hM
    exact W.vret hx hb hr (fun t ht hW => ⟨⟨σ, rfl, e9, by rw [ht]; exact hP, va_K.moved hW.alike hK, hD⟩, hS.F ht⟩) hS.2.2 d_M_turn_25
  · rw [if_neg h13] at hM
    refine lv_aload_n hx hb d_M_turn_16 rfl (lv_at hl 1 rfl) ?_
    refine va_get (D := (dC, dI)) (ci := 7) (v := .ref (ad 0 11)) (C := R_M) (T := F_M) (N := 33) hx hb htb in_M hown hK hP 0 (g_M) rfl 24 (by decide) (htb _ k_643) (fun _ h9 => h9) rfl d_M_turn_17 ?_
    refine lv_iload_n hx hb d_M_turn_20 rfl (lv_at hl 0 rfl) ?_
    have hg21 := gd_c hM
    have hM := gd_v hM
    refine va_iald hx hb hK hP 11 0 (g_M_a11) rfl (inb_in hg21) d_M_turn_21 ?_
    refine lv_if_le (tgt := 26) hx hb d_M_turn_22 (by decide) (fun h22 => ?_) (fun h22 => ?_)
    · rw [if_pos h22] at hM
      refine lv_aload_n hx hb d_M_turn_26 rfl (lv_at hl 1 rfl) ?_
      refine lv_aload_n hx hb d_M_turn_27 rfl (lv_at hl 1 rfl) ?_
      refine va_get (D := (dC, dI)) (ci := 7) (v := .int ((σ 0).1 12)) (C := R_M) (T := F_M) (N := 33) hx hb htb in_M hown hK hP 0 (g_M) rfl 19 (by decide) (htb _ k_638) (fun _ h9 => h9) rfl d_M_turn_28 ?_
      refine lv_iconst (v := 1) hx hb d_M_turn_31 (by decide) ?_
      refine lv_isub hx hb d_M_turn_32 ?_
      refine va_put (D := (dC, dI)) (ci := 7) (v := .int (((σ 0).1 12) - 1)) (ty := .int) (C := R_M) (T := F_M) (N := 33) hx hb htb in_M ft_M ft_M_ok n_M hown hK hP hD hS 0 (g_M) rfl 19 (by decide) (htb _ k_638) (fun _ h9 => h9) rfl (by decide +kernel) rfl rfl (Nat.le_of_ble_eq_true rfl) d_M_turn_33 (fun H locs hP hD hS => ?_)
      have hP := P_eq (s_M_12) hP
      have hD := D_eq (s_M_12) hD
      refine lv_aload_n hx hb d_M_turn_36 rfl (lv_at hl 1 rfl) ?_
      refine va_get (D := (dC, dI)) (ci := 7) (v := .ref (ad 0 12)) (C := R_M) (T := F_M) (N := 33) hx hb htb in_M hown hK hP 0 (g_M) rfl 25 (by decide) (htb _ k_644) (fun _ h9 => h9) rfl d_M_turn_37 ?_
      refine lv_iconst (v := 2) hx hb d_M_turn_40 (by decide) ?_
      refine lv_aload_n hx hb d_M_turn_41 rfl (lv_at hl 1 rfl) ?_
      refine va_get (D := (dC, dI)) (ci := 7) (v := .ref (ad 0 12)) (C := R_M) (T := F_M) (N := 33) hx hb htb in_M hown hK hP 0 (g_M) rfl 25 (by decide) (htb _ k_644) (fun _ h9 => h9) rfl d_M_turn_42 ?_
      refine lv_iconst (v := 1) hx hb d_M_turn_45 (by decide) ?_
      refine va_iald hx hb hK hP 12 0 (g_M_a12) rfl (inb_in (by decide)) d_M_turn_46 ?_
      refine va_iast (i := 2) (x := (((w1 σ 0 12 (((σ 0).1 12) - 1)) 0).2 12 (1 : Int32).toNatClampNeg)) hx hb hK hP hD hS 12 0 (g_M_a12) rfl (inb_in (by decide)) d_M_turn_47 (fun H locs hP hD hS => ?_)
      have hP := P_eq (t_M_12) hP
      have hD := D_eq (t_M_12) hD
      refine lv_aload_n hx hb d_M_turn_48 rfl (lv_at hl 1 rfl) ?_
      refine va_get (D := (dC, dI)) (ci := 7) (v := .ref (ad 0 12)) (C := R_M) (T := F_M) (N := 33) hx hb htb in_M hown hK hP 0 (g_M) rfl 25 (by decide) (htb _ k_644) (fun _ h9 => h9) rfl d_M_turn_49 ?_
      refine lv_iconst (v := 1) hx hb d_M_turn_52 (by decide) ?_
      refine lv_aload_n hx hb d_M_turn_53 rfl (lv_at hl 1 rfl) ?_
      refine va_get (D := (dC, dI)) (ci := 7) (v := .ref (ad 0 12)) (C := R_M) (T := F_M) (N := 33) hx hb htb in_M hown hK hP 0 (g_M) rfl 25 (by decide) (htb _ k_644) (fun _ h9 => h9) rfl d_M_turn_54 ?_
      refine lv_iconst (v := 0) hx hb d_M_turn_57 (by decide) ?_
      refine va_iald hx hb hK hP 12 0 (g_M_a12) rfl (inb_in (by decide)) d_M_turn_58 ?_
      refine va_iast (i := 1) (x := (((w3 (w1 σ 0 12 (((σ 0).1 12) - 1)) 0 12 2 (((w1 σ 0 12 (((σ 0).1 12) - 1)) 0).2 12 (1 : Int32).toNatClampNeg)) 0).2 12 (0 : Int32).toNatClampNeg)) hx hb hK hP hD hS 12 0 (g_M_a12) rfl (inb_in (by decide)) d_M_turn_59 (fun H locs hP hD hS => ?_)
      have hP := P_eq (t_M_12) hP
      have hD := D_eq (t_M_12) hD
      refine lv_aload_n hx hb d_M_turn_60 rfl (lv_at hl 1 rfl) ?_
      refine va_get (D := (dC, dI)) (ci := 7) (v := .ref (ad 0 12)) (C := R_M) (T := F_M) (N := 33) hx hb htb in_M hown hK hP 0 (g_M) rfl 25 (by decide) (htb _ k_644) (fun _ h9 => h9) rfl d_M_turn_61 ?_
      refine lv_iconst (v := 0) hx hb d_M_turn_64 (by decide) ?_
      refine lv_aload_n hx hb d_M_turn_65 rfl (lv_at hl 1 rfl) ?_
      refine va_get (D := (dC, dI)) (ci := 7) (v := .ref (ad 0 12)) (C := R_M) (T := F_M) (N := 33) hx hb htb in_M hown hK hP 0 (g_M) rfl 25 (by decide) (htb _ k_644) (fun _ h9 => h9) rfl d_M_turn_66 ?_
      refine lv_iconst (v := 3) hx hb d_M_turn_69 (by decide) ?_
      refine va_iald hx hb hK hP 12 0 (g_M_a12) rfl (inb_in (by decide)) d_M_turn_70 ?_
      refine va_iast (i := 0) (x := (((w3 (w3 (w1 σ 0 12 (((σ 0).1 12) - 1)) 0 12 2 (((w1 σ 0 12 (((σ 0).1 12) - 1)) 0).2 12 (1 : Int32).toNatClampNeg)) 0 12 1 (((w3 (w1 σ 0 12 (((σ 0).1 12) - 1)) 0 12 2 (((w1 σ 0 12 (((σ 0).1 12) - 1)) 0).2 12 (1 : Int32).toNatClampNeg)) 0).2 12 (0 : Int32).toNatClampNeg)) 0).2 12 (3 : Int32).toNatClampNeg)) hx hb hK hP hD hS 12 0 (g_M_a12) rfl (inb_in (by decide)) d_M_turn_71 (fun H locs hP hD hS => ?_)
      have hP := P_eq (t_M_12) hP
      have hD := D_eq (t_M_12) hD
      refine lv_aload_n hx hb d_M_turn_72 rfl (lv_at hl 1 rfl) ?_
      refine va_get (D := (dC, dI)) (ci := 7) (v := .ref (ad 0 12)) (C := R_M) (T := F_M) (N := 33) hx hb htb in_M hown hK hP 0 (g_M) rfl 25 (by decide) (htb _ k_644) (fun _ h9 => h9) rfl d_M_turn_73 ?_
      refine lv_iconst (v := 3) hx hb d_M_turn_76 (by decide) ?_
      refine lv_iload_n hx hb d_M_turn_77 rfl (lv_at hl 0 rfl) ?_
      refine va_iast (i := 3) (x := ((σ 0).2 12 (2 : Int32).toNatClampNeg)) hx hb hK hP hD hS 12 0 (g_M_a12) rfl (inb_in (by decide)) d_M_turn_78 (fun H locs hP hD hS => ?_)
      have hP := P_eq (t_M_12) hP
      have hD := D_eq (t_M_12) hD
      refine lv_aload_n hx hb d_M_turn_79 rfl (lv_at hl 1 rfl) ?_
      refine lv_aload_n hx hb d_M_turn_80 rfl (lv_at hl 1 rfl) ?_
      refine va_get (D := (dC, dI)) (ci := 7) (v := .int (((w3 (w3 (w3 (w3 (w1 σ 0 12 (((σ 0).1 12) - 1)) 0 12 2 (((w1 σ 0 12 (((σ 0).1 12) - 1)) 0).2 12 (1 : Int32).toNatClampNeg)) 0 12 1 (((w3 (w1 σ 0 12 (((σ 0).1 12) - 1)) 0 12 2 (((w1 σ 0 12 (((σ 0).1 12) - 1)) 0).2 12 (1 : Int32).toNatClampNeg)) 0).2 12 (0 : Int32).toNatClampNeg)) 0 12 0 (((w3 (w3 (w1 σ 0 12 (((σ 0).1 12) - 1)) 0 12 2 (((w1 σ 0 12 (((σ 0).1 12) - 1)) 0).2 12 (1 : Int32).toNatClampNeg)) 0 12 1 (((w3 (w1 σ 0 12 (((σ 0).1 12) - 1)) 0 12 2 (((w1 σ 0 12 (((σ 0).1 12) - 1)) 0).2 12 (1 : Int32).toNatClampNeg)) 0).2 12 (0 : Int32).toNatClampNeg)) 0).2 12 (3 : Int32).toNatClampNeg)) 0 12 3 ((σ 0).2 12 (2 : Int32).toNatClampNeg)) 0).1 12)) (C := R_M) (T := F_M) (N := 33) hx hb htb in_M hown hK hP 0 (g_M) rfl 19 (by decide) (htb _ k_638) (fun _ h9 => h9) rfl d_M_turn_81 ?_
      refine lv_if_ne (tgt := 91) hx hb d_M_turn_84 (by decide) (fun h84 => ?_) (fun h84 => ?_)
      · rw [if_neg h84] at hM
        refine lv_iconst (v := 2) hx hb d_M_turn_91 (by decide) ?_
        refine va_put (D := (dC, dI)) (ci := 7) (v := .int 2) (ty := .int) (C := R_M) (T := F_M) (N := 33) hx hb htb in_M ft_M ft_M_ok n_M hown hK hP hD hS 0 (g_M) rfl 7 (by decide) (htb _ k_626) (fun _ h9 => h9) rfl (by decide +kernel) rfl rfl (Nat.le_of_ble_eq_true rfl) d_M_turn_92 (fun H locs hP hD hS => ?_)
        have hP := P_eq (s_M_4) hP
        have hD := D_eq (s_M_4) hD
        have e9 := Option.some.inj hM
        exact W.vret hx hb hr (fun t ht hW => ⟨⟨(w1 (w3 (w3 (w3 (w3 (w1 σ 0 12 (((σ 0).1 12) - 1)) 0 12 2 (((w1 σ 0 12 (((σ 0).1 12) - 1)) 0).2 12 (1 : Int32).toNatClampNeg)) 0 12 1 (((w3 (w1 σ 0 12 (((σ 0).1 12) - 1)) 0 12 2 (((w1 σ 0 12 (((σ 0).1 12) - 1)) 0).2 12 (1 : Int32).toNatClampNeg)) 0).2 12 (0 : Int32).toNatClampNeg)) 0 12 0 (((w3 (w3 (w1 σ 0 12 (((σ 0).1 12) - 1)) 0 12 2 (((w1 σ 0 12 (((σ 0).1 12) - 1)) 0).2 12 (1 : Int32).toNatClampNeg)) 0 12 1 (((w3 (w1 σ 0 12 (((σ 0).1 12) - 1)) 0 12 2 (((w1 σ 0 12 (((σ 0).1 12) - 1)) 0).2 12 (1 : Int32).toNatClampNeg)) 0).2 12 (0 : Int32).toNatClampNeg)) 0).2 12 (3 : Int32).toNatClampNeg)) 0 12 3 ((σ 0).2 12 (2 : Int32).toNatClampNeg)) 0 4 2), rfl, e9, by rw [ht]; exact hP, va_K.moved hW.alike hK, hD⟩, hS.F ht⟩) hS.2.2 d_M_turn_95
      · rw [if_pos h84] at hM
        refine lv_iconst (v := 3) hx hb d_M_turn_87 (by decide) ?_
        refine lv_goto (tgt := 92) hx hb d_M_turn_88 (by decide) ?_
        refine va_put (D := (dC, dI)) (ci := 7) (v := .int 3) (ty := .int) (C := R_M) (T := F_M) (N := 33) hx hb htb in_M ft_M ft_M_ok n_M hown hK hP hD hS 0 (g_M) rfl 7 (by decide) (htb _ k_626) (fun _ h9 => h9) rfl (by decide +kernel) rfl rfl (Nat.le_of_ble_eq_true rfl) d_M_turn_92 (fun H locs hP hD hS => ?_)
        have hP := P_eq (s_M_4) hP
        have hD := D_eq (s_M_4) hD
        have e9 := Option.some.inj hM
        exact W.vret hx hb hr (fun t ht hW => ⟨⟨(w1 (w3 (w3 (w3 (w3 (w1 σ 0 12 (((σ 0).1 12) - 1)) 0 12 2 (((w1 σ 0 12 (((σ 0).1 12) - 1)) 0).2 12 (1 : Int32).toNatClampNeg)) 0 12 1 (((w3 (w1 σ 0 12 (((σ 0).1 12) - 1)) 0 12 2 (((w1 σ 0 12 (((σ 0).1 12) - 1)) 0).2 12 (1 : Int32).toNatClampNeg)) 0).2 12 (0 : Int32).toNatClampNeg)) 0 12 0 (((w3 (w3 (w1 σ 0 12 (((σ 0).1 12) - 1)) 0 12 2 (((w1 σ 0 12 (((σ 0).1 12) - 1)) 0).2 12 (1 : Int32).toNatClampNeg)) 0 12 1 (((w3 (w1 σ 0 12 (((σ 0).1 12) - 1)) 0 12 2 (((w1 σ 0 12 (((σ 0).1 12) - 1)) 0).2 12 (1 : Int32).toNatClampNeg)) 0).2 12 (0 : Int32).toNatClampNeg)) 0).2 12 (3 : Int32).toNatClampNeg)) 0 12 3 ((σ 0).2 12 (2 : Int32).toNatClampNeg)) 0 4 3), rfl, e9, by rw [ht]; exact hP, va_K.moved hW.alike hK, hD⟩, hS.F ht⟩) hS.2.2 d_M_turn_95
    · rw [if_neg h22] at hM
      have e9 := Option.some.inj hM
      exact W.vret hx hb hr (fun t ht hW => ⟨⟨σ, rfl, e9, by rw [ht]; exact hP, va_K.moved hW.alike hK, hD⟩, hS.F ht⟩) hS.2.2 d_M_turn_25

theorem d_M_merge_0 : decode b_M_merge 0 = .ok (.aload_n 0, 1) := by decide +kernel
theorem d_M_merge_1 : decode b_M_merge 1 = .ok (.getfield 49, 3) := by decide +kernel
theorem d_M_merge_4 : decode b_M_merge 4 = .ok (.aload_n 0, 1) := by decide +kernel
theorem d_M_merge_5 : decode b_M_merge 5 = .ok (.getfield 52, 3) := by decide +kernel
theorem d_M_merge_8 : decode b_M_merge 8 = .ok (.iconst 0, 1) := by decide +kernel
theorem d_M_merge_9 : decode b_M_merge 9 = .ok (.iaload, 1) := by decide +kernel
theorem d_M_merge_10 : decode b_M_merge 10 = .ok (.iaload, 1) := by decide +kernel
theorem d_M_merge_11 : decode b_M_merge 11 = .ok (.ifCond .le 35, 3) := by decide +kernel
theorem d_M_merge_14 : decode b_M_merge 14 = .ok (.aload_n 0, 1) := by decide +kernel
theorem d_M_merge_15 : decode b_M_merge 15 = .ok (.getfield 49, 3) := by decide +kernel
theorem d_M_merge_18 : decode b_M_merge 18 = .ok (.aload_n 0, 1) := by decide +kernel
theorem d_M_merge_19 : decode b_M_merge 19 = .ok (.getfield 52, 3) := by decide +kernel
theorem d_M_merge_22 : decode b_M_merge 22 = .ok (.iconst 1, 1) := by decide +kernel
theorem d_M_merge_23 : decode b_M_merge 23 = .ok (.iaload, 1) := by decide +kernel
theorem d_M_merge_24 : decode b_M_merge 24 = .ok (.iaload, 1) := by decide +kernel
theorem d_M_merge_25 : decode b_M_merge 25 = .ok (.ifCond .le 21, 3) := by decide +kernel
theorem d_M_merge_28 : decode b_M_merge 28 = .ok (.aload_n 0, 1) := by decide +kernel
theorem d_M_merge_29 : decode b_M_merge 29 = .ok (.getfield 49, 3) := by decide +kernel
theorem d_M_merge_32 : decode b_M_merge 32 = .ok (.aload_n 0, 1) := by decide +kernel
theorem d_M_merge_33 : decode b_M_merge 33 = .ok (.getfield 52, 3) := by decide +kernel
theorem d_M_merge_36 : decode b_M_merge 36 = .ok (.iconst 2, 1) := by decide +kernel
theorem d_M_merge_37 : decode b_M_merge 37 = .ok (.iaload, 1) := by decide +kernel
theorem d_M_merge_38 : decode b_M_merge 38 = .ok (.iaload, 1) := by decide +kernel
theorem d_M_merge_39 : decode b_M_merge 39 = .ok (.ifCond .le 7, 3) := by decide +kernel
theorem d_M_merge_42 : decode b_M_merge 42 = .ok (.iconst 1, 1) := by decide +kernel
theorem d_M_merge_43 : decode b_M_merge 43 = .ok (.goto 4, 3) := by decide +kernel
theorem d_M_merge_46 : decode b_M_merge 46 = .ok (.iconst 0, 1) := by decide +kernel
theorem d_M_merge_47 : decode b_M_merge 47 = .ok (.istore_n 1, 1) := by decide +kernel
theorem d_M_merge_48 : decode b_M_merge 48 = .ok (.iload_n 1, 1) := by decide +kernel
theorem d_M_merge_49 : decode b_M_merge 49 = .ok (.ifCond .ne 19, 3) := by decide +kernel
theorem d_M_merge_52 : decode b_M_merge 52 = .ok (.aload_n 0, 1) := by decide +kernel
theorem d_M_merge_53 : decode b_M_merge 53 = .ok (.invokevirtual 157, 3) := by decide +kernel
theorem d_M_merge_56 : decode b_M_merge 56 = .ok (.ifCond .eq 10, 3) := by decide +kernel
theorem d_M_merge_59 : decode b_M_merge 59 = .ok (.aload_n 0, 1) := by decide +kernel
theorem d_M_merge_60 : decode b_M_merge 60 = .ok (.invokevirtual 160, 3) := by decide +kernel
theorem d_M_merge_63 : decode b_M_merge 63 = .ok (.ifCond .ne 5, 3) := by decide +kernel
theorem d_M_merge_66 : decode b_M_merge 66 = .ok (.iconst 0, 1) := by decide +kernel
theorem d_M_merge_67 : decode b_M_merge 67 = .ok (.ireturn, 1) := by decide +kernel
theorem d_M_merge_68 : decode b_M_merge 68 = .ok (.iconst 0, 1) := by decide +kernel
theorem d_M_merge_69 : decode b_M_merge 69 = .ok (.istore_n 2, 1) := by decide +kernel
theorem d_M_merge_70 : decode b_M_merge 70 = .ok (.iload_n 2, 1) := by decide +kernel
theorem d_M_merge_71 : decode b_M_merge 71 = .ok (.iconst 3, 1) := by decide +kernel
theorem d_M_merge_72 : decode b_M_merge 72 = .ok (.if_icmp .ge 47, 3) := by decide +kernel
theorem d_M_merge_75 : decode b_M_merge 75 = .ok (.aload_n 0, 1) := by decide +kernel
theorem d_M_merge_76 : decode b_M_merge 76 = .ok (.getfield 52, 3) := by decide +kernel
theorem d_M_merge_79 : decode b_M_merge 79 = .ok (.iload_n 2, 1) := by decide +kernel
theorem d_M_merge_80 : decode b_M_merge 80 = .ok (.iaload, 1) := by decide +kernel
theorem d_M_merge_81 : decode b_M_merge 81 = .ok (.istore_n 3, 1) := by decide +kernel
theorem d_M_merge_82 : decode b_M_merge 82 = .ok (.aload_n 0, 1) := by decide +kernel
theorem d_M_merge_83 : decode b_M_merge 83 = .ok (.getfield 49, 3) := by decide +kernel
theorem d_M_merge_86 : decode b_M_merge 86 = .ok (.iload_n 3, 1) := by decide +kernel
theorem d_M_merge_87 : decode b_M_merge 87 = .ok (.iaload, 1) := by decide +kernel
theorem d_M_merge_88 : decode b_M_merge 88 = .ok (.ifCond .le 20, 3) := by decide +kernel
theorem d_M_merge_91 : decode b_M_merge 91 = .ok (.aload_n 0, 1) := by decide +kernel
theorem d_M_merge_92 : decode b_M_merge 92 = .ok (.getfield 49, 3) := by decide +kernel
theorem d_M_merge_95 : decode b_M_merge 95 = .ok (.iload_n 3, 1) := by decide +kernel
theorem d_M_merge_96 : decode b_M_merge 96 = .ok (.aload_n 0, 1) := by decide +kernel
theorem d_M_merge_97 : decode b_M_merge 97 = .ok (.getfield 49, 3) := by decide +kernel
theorem d_M_merge_100 : decode b_M_merge 100 = .ok (.iload_n 3, 1) := by decide +kernel
theorem d_M_merge_101 : decode b_M_merge 101 = .ok (.iaload, 1) := by decide +kernel
theorem d_M_merge_102 : decode b_M_merge 102 = .ok (.iconst 1, 1) := by decide +kernel
theorem d_M_merge_103 : decode b_M_merge 103 = .ok (.isub, 1) := by decide +kernel
theorem d_M_merge_104 : decode b_M_merge 104 = .ok (.iastore, 1) := by decide +kernel
theorem d_M_merge_105 : decode b_M_merge 105 = .ok (.goto 8, 3) := by decide +kernel
theorem d_M_merge_108 : decode b_M_merge 108 = .ok (.aload_n 0, 1) := by decide +kernel
theorem d_M_merge_109 : decode b_M_merge 109 = .ok (.iload_n 3, 1) := by decide +kernel
theorem d_M_merge_110 : decode b_M_merge 110 = .ok (.invokevirtual 163, 3) := by decide +kernel
theorem d_M_merge_113 : decode b_M_merge 113 = .ok (.iinc 2 1, 3) := by decide +kernel
theorem d_M_merge_116 : decode b_M_merge 116 = .ok (.goto (-46), 3) := by decide +kernel
theorem d_M_merge_119 : decode b_M_merge 119 = .ok (.iload_n 1, 1) := by decide +kernel
theorem d_M_merge_120 : decode b_M_merge 120 = .ok (.ifCond .eq 30, 3) := by decide +kernel
theorem d_M_merge_123 : decode b_M_merge 123 = .ok (.aload_n 0, 1) := by decide +kernel
theorem d_M_merge_124 : decode b_M_merge 124 = .ok (.getfield 49, 3) := by decide +kernel
theorem d_M_merge_127 : decode b_M_merge 127 = .ok (.aload_n 0, 1) := by decide +kernel
theorem d_M_merge_128 : decode b_M_merge 128 = .ok (.getfield 52, 3) := by decide +kernel
theorem d_M_merge_131 : decode b_M_merge 131 = .ok (.iconst 3, 1) := by decide +kernel
theorem d_M_merge_132 : decode b_M_merge 132 = .ok (.iaload, 1) := by decide +kernel
theorem d_M_merge_133 : decode b_M_merge 133 = .ok (.aload_n 0, 1) := by decide +kernel
theorem d_M_merge_134 : decode b_M_merge 134 = .ok (.getfield 49, 3) := by decide +kernel
theorem d_M_merge_137 : decode b_M_merge 137 = .ok (.aload_n 0, 1) := by decide +kernel
theorem d_M_merge_138 : decode b_M_merge 138 = .ok (.getfield 52, 3) := by decide +kernel
theorem d_M_merge_141 : decode b_M_merge 141 = .ok (.iconst 3, 1) := by decide +kernel
theorem d_M_merge_142 : decode b_M_merge 142 = .ok (.iaload, 1) := by decide +kernel
theorem d_M_merge_143 : decode b_M_merge 143 = .ok (.iaload, 1) := by decide +kernel
theorem d_M_merge_144 : decode b_M_merge 144 = .ok (.iconst 1, 1) := by decide +kernel
theorem d_M_merge_145 : decode b_M_merge 145 = .ok (.iadd, 1) := by decide +kernel
theorem d_M_merge_146 : decode b_M_merge 146 = .ok (.iastore, 1) := by decide +kernel
theorem d_M_merge_147 : decode b_M_merge 147 = .ok (.goto 13, 3) := by decide +kernel
theorem d_M_merge_150 : decode b_M_merge 150 = .ok (.aload_n 0, 1) := by decide +kernel
theorem d_M_merge_151 : decode b_M_merge 151 = .ok (.aload_n 0, 1) := by decide +kernel
theorem d_M_merge_152 : decode b_M_merge 152 = .ok (.getfield 52, 3) := by decide +kernel
theorem d_M_merge_155 : decode b_M_merge 155 = .ok (.iconst 3, 1) := by decide +kernel
theorem d_M_merge_156 : decode b_M_merge 156 = .ok (.iaload, 1) := by decide +kernel
theorem d_M_merge_157 : decode b_M_merge 157 = .ok (.invokevirtual 153, 3) := by decide +kernel
theorem d_M_merge_160 : decode b_M_merge 160 = .ok (.aload_n 0, 1) := by decide +kernel
theorem d_M_merge_161 : decode b_M_merge 161 = .ok (.invokevirtual 166, 3) := by decide +kernel
theorem d_M_merge_164 : decode b_M_merge 164 = .ok (.iconst 1, 1) := by decide +kernel
theorem d_M_merge_165 : decode b_M_merge 165 = .ok (.ireturn, 1) := by decide +kernel
def m_M_merge_70 (N : Nat) : Nat → SX → Int32 → Int32 → Option (Int32 × SX)
  | 0, _, _, _ => none
  | n70 + 1, σ, v1, v2 =>
    (if 3 ≤ v2 then (if v1 = 0 then (bV (m_M_append N σ ((σ 0).2 12 (3 : Int32).toNatClampNeg)) fun σ157 => (bV (m_M_turn N σ157) fun σ161 => some (1, σ161))) else (if inb ((σ 0).2 12 (3 : Int32).toNatClampNeg) 4 = true then (if inb ((σ 0).2 12 (3 : Int32).toNatClampNeg) 4 = true then (bV (m_M_turn N (w3 σ 0 11 ((σ 0).2 12 (3 : Int32).toNatClampNeg) (((σ 0).2 11 ((σ 0).2 12 (3 : Int32).toNatClampNeg).toNatClampNeg) + 1))) fun σ161 => some (1, σ161)) else none) else none)) else (if inb v2 4 = true then (if inb ((σ 0).2 12 v2.toNatClampNeg) 4 = true then (if ((σ 0).2 11 ((σ 0).2 12 v2.toNatClampNeg).toNatClampNeg) ≤ 0 then (bV (m_M_takeOff N σ ((σ 0).2 12 v2.toNatClampNeg)) fun σ110 => m_M_merge_70 N n70 σ110 v1 (v2 + 1)) else (if inb ((σ 0).2 12 v2.toNatClampNeg) 4 = true then (if inb ((σ 0).2 12 v2.toNatClampNeg) 4 = true then m_M_merge_70 N n70 (w3 σ 0 11 ((σ 0).2 12 v2.toNatClampNeg) (((σ 0).2 11 ((σ 0).2 12 v2.toNatClampNeg).toNatClampNeg) - 1)) v1 (v2 + 1) else none) else none)) else none) else none))

def m_M_merge_68 (N : Nat) (σ : SX) (v1 : Int32) : Option (Int32 × SX) :=
    m_M_merge_70 N N σ v1 0

def m_M_merge_47 (N : Nat) (σ : SX) (s0 : Int32) : Option (Int32 × SX) :=
    (if s0 = 0 then (bI (m_M_isReadable N σ) fun r53 σ53 => (if r53 = 0 then some (0, σ53) else (bI (m_M_mergeRuns N σ53) fun r60 σ60 => (if r60 = 0 then some (0, σ60) else m_M_merge_68 N σ60 s0)))) else m_M_merge_68 N σ s0)

def m_M_merge_46 (N : Nat) (σ : SX) : Option (Int32 × SX) :=
    m_M_merge_47 N σ 0

def m_M_merge (N : Nat) (σ : SX) : Option (Int32 × SX) :=
  (if inb ((σ 0).2 12 (0 : Int32).toNatClampNeg) 4 = true then (if ((σ 0).2 11 ((σ 0).2 12 (0 : Int32).toNatClampNeg).toNatClampNeg) ≤ 0 then m_M_merge_46 N σ else (if inb ((σ 0).2 12 (1 : Int32).toNatClampNeg) 4 = true then (if ((σ 0).2 11 ((σ 0).2 12 (1 : Int32).toNatClampNeg).toNatClampNeg) ≤ 0 then m_M_merge_46 N σ else (if inb ((σ 0).2 12 (2 : Int32).toNatClampNeg) 4 = true then (if ((σ 0).2 11 ((σ 0).2 12 (2 : Int32).toNatClampNeg).toNatClampNeg) ≤ 0 then m_M_merge_46 N σ else m_M_merge_47 N σ 1) else none)) else none)) else none)

set_option maxHeartbeats 4000000 in
set_option maxRecDepth 100000 in
theorem c_M_merge (l : Launch) (dC : Nat → ClassId) (dI : Nat → Nat → Nat) (ad : Nat → Nat → Nat) (cs : Nat → ClassId) (sz N : Nat) (σ : SX) {r0 : Int32} {σ0 : SX} (hM : m_M_merge N σ = some (r0, σ0)) : Met l y_M_merge (wd y_M_merge b_M_merge 4 (some .boolean)) ({ frames := 3, cells := 0, slots := 0, locals := 74 }) (va_Pc [.ref (ad 0 0)] (preM dC dI ad cs sz σ)) (va_Qi (fun (r : Int32) (u : SX) => r = r0 ∧ u = σ0) (atM dC dI ad cs (va_A (wM ad cs σ) sz)) (va_A (wM ad cs σ) sz)) 0 0 (va_A (wM ad cs σ) sz) := by
  refine Met.ofW (cc := b_M_merge) (maxL := 4) (ret := (some .boolean)) (by decide) rfl ?_
  intro p e s m args below meth c s₁ B hml hv
  obtain ⟨rfl, hsz, hP, hK, hD0, hN⟩ := hv
  have hx := B.exec
  have hb := B.bytes
  have hr := B.returns
  have hts := atoms_spec (ws := (wd y_M_merge b_M_merge 4 (some .boolean))) B.pre
  have htb : ∀ w ∈ tb, w.before _ s = true := fun w h => hts w (List.mem_cons_of_mem _ h)
  have hown : s.vm.findClass R_M = some m.cls := findClass_of_methodNamed B.named
  have hlocks := B.notSynchronized
  subst hsz
  have hD := hD0.self (sz := s.heap.size)
  generalize hAe : va_A (wM ad cs σ) s.heap.size = A at hD ⊢
  have hA : ∀ q : Nat, s.heap.size ≤ q → A q := fun q h => by rw [← hAe]; exact Or.inr h
  have hS : va_S A s.heap s.heap [] := va_S.rf
  have hP : va_P (dC, dI) classes (wM ad cs σ) s.heap := hP
  have hl := lv_entry ([.ref (ad 0 0)]) (n := 4) (Nat.le_of_ble_eq_true rfl)
  rw [lg_entry_eq]
  generalize (lg_sl ([.ref (ad 0 0)]) ++ List.replicate (4 - (lg_sl ([.ref (ad 0 0)])).length) Slot.unset).toArray = ls at hl ⊢
  have hl : lv_has ls 4 [(0, .ref (ad 0 0))] := hl
  rw [m_M_merge] at hM
  refine W_loop (pc := 70) (fun n70 H locs ls st => ∃ (σ : SX) (v1 : Int32) (v2 : Int32), st = [] ∧ m_M_merge_70 N n70 σ v1 v2 = some (r0, σ0) ∧ lv_has ls 4 [(0, .ref (ad 0 0)), (1, .int v1), (2, .int v2)] ∧ va_P (dC, dI) classes (wM ad cs σ) H ∧ va_D A (wM ad cs σ) ∧ va_S A s.heap H locs) ?_ ?_ ?_
  · rintro H locs ls st ⟨σ, v1, v2, -, hM, -⟩
    rw [m_M_merge_70] at hM; cases hM
  · intro n70 K70 H locs ls st hI
    obtain ⟨σ, v1, v2, rfl, hM, hl, hP, hD, hS⟩ := hI
    rw [m_M_merge_70] at hM
    refine lv_iload_n hx hb d_M_merge_70 rfl (lv_at hl 2 rfl) ?_
    refine lv_iconst (v := 3) hx hb d_M_merge_71 (by decide) ?_
    refine lv_icmp_ge (tgt := 119) hx hb d_M_merge_72 (by decide) (fun h72 => ?_) (fun h72 => ?_)
    · rw [if_pos h72] at hM
      refine lv_iload_n hx hb d_M_merge_119 rfl (lv_at hl 1 rfl) ?_
      refine lv_if_eq (tgt := 150) hx hb d_M_merge_120 (by decide) (fun h120 => ?_) (fun h120 => ?_)
      · rw [if_pos h120] at hM
        refine lv_aload_n hx hb d_M_merge_150 rfl (lv_at hl 0 rfl) ?_
        refine lv_aload_n hx hb d_M_merge_151 rfl (lv_at hl 0 rfl) ?_
        refine va_get (D := (dC, dI)) (ci := 7) (v := .ref (ad 0 12)) (C := R_M) (T := F_M) (N := 33) hx hb htb in_M hown hK hP 0 (g_M) rfl 25 (by decide) (htb _ k_644) (fun _ h9 => h9) rfl d_M_merge_152 ?_
        refine lv_iconst (v := 3) hx hb d_M_merge_155 (by decide) ?_
        refine va_iald hx hb hK hP 12 0 (g_M_a12) rfl (inb_in (by decide)) d_M_merge_156 ?_
        have hF1 := free_all hD hS hA
        obtain ⟨y157, hq157, hM⟩ := bV_some hM
        refine va_callv (va_runV (As := [.int ((σ 0).2 12 (3 : Int32).toNatClampNeg)]) (rest := []) ⟨hx, hb, hml, hown, hts⟩ (c_M_append l dC dI ad cs _ N σ ((σ 0).2 12 (3 : Int32).toNatClampNeg) hq157) (cwV 1 hts (goodV k_791 k_793 ks_M_append k_8 k_794) rfl rfl rfl ⟨rfl, by decide, by decide, by decide +kernel⟩ ⟨Nat.le_of_ble_eq_true rfl, Nat.le_of_ble_eq_true rfl⟩) ⟨blindM, va_recv hK hP rfl (g_M), payM hP hK hD hN⟩ rfl rfl hl.1 rfl (lv_room (Nat.le_of_ble_eq_true rfl)) d_M_merge_157 ⟨Nat.zero_le _, Nat.zero_le _⟩) hS (fun q _ h => hF1 q h) hF1 (fun σ157 t H locs ht hvm hpost hB hz1 hk1 hS => ?_)
        subst hpost
        obtain ⟨hP1, hK1, hD1⟩ := hB
        rw [ht] at hP1
        have hP := hP1
        have hD := hD1.weaken (fun _ _ _ h => hF1 _ h)
        refine lv_aload_n hx hb d_M_merge_160 rfl (lv_at hl 0 rfl) ?_
        have hF1 := free_all hD hS hA
        obtain ⟨y161, hq161, hM⟩ := bV_some hM
        refine va_callv (va_runV (As := []) (rest := []) ⟨hx, hb, hml, hown, hts⟩ (c_M_turn l dC dI ad cs _ N σ157 hq161) (cwV 0 hts (goodV k_815 k_817 ks_M_turn k_8 k_818) rfl rfl rfl ⟨rfl, by decide, by decide, by decide +kernel⟩ ⟨Nat.le_of_ble_eq_true rfl, Nat.le_of_ble_eq_true rfl⟩) ⟨blindM, va_recv hK hP rfl (g_M), payM hP hK hD hN⟩ rfl rfl hl.1 rfl (lv_room (Nat.le_of_ble_eq_true rfl)) d_M_merge_161 ⟨Nat.zero_le _, Nat.zero_le _⟩) hS (fun q _ h => hF1 q h) hF1 (fun σ161 t H locs ht hvm hpost hB hz1 hk1 hS => ?_)
        subst hpost
        obtain ⟨hP1, hK1, hD1⟩ := hB
        rw [ht] at hP1
        have hP := hP1
        have hD := hD1.weaken (fun _ _ _ h => hF1 _ h)
        refine lv_iconst (v := 1) hx hb d_M_merge_164 (by decide) ?_
        have e9 := Prod.mk.inj (Option.some.inj hM)
        exact W.zret (ty := .boolean) (v := 1) hx hb hr rfl (fun t ht hW => ⟨⟨1, σ161, rfl, e9, by rw [ht]; exact hP, va_K.moved hW.alike hK, hD⟩, hS.F ht⟩) hS.2.2 d_M_merge_165
      · rw [if_neg h120] at hM
        refine lv_aload_n hx hb d_M_merge_123 rfl (lv_at hl 0 rfl) ?_
        refine va_get (D := (dC, dI)) (ci := 7) (v := .ref (ad 0 11)) (C := R_M) (T := F_M) (N := 33) hx hb htb in_M hown hK hP 0 (g_M) rfl 24 (by decide) (htb _ k_643) (fun _ h9 => h9) rfl d_M_merge_124 ?_
        refine lv_aload_n hx hb d_M_merge_127 rfl (lv_at hl 0 rfl) ?_
        refine va_get (D := (dC, dI)) (ci := 7) (v := .ref (ad 0 12)) (C := R_M) (T := F_M) (N := 33) hx hb htb in_M hown hK hP 0 (g_M) rfl 25 (by decide) (htb _ k_644) (fun _ h9 => h9) rfl d_M_merge_128 ?_
        refine lv_iconst (v := 3) hx hb d_M_merge_131 (by decide) ?_
        refine va_iald hx hb hK hP 12 0 (g_M_a12) rfl (inb_in (by decide)) d_M_merge_132 ?_
        refine lv_aload_n hx hb d_M_merge_133 rfl (lv_at hl 0 rfl) ?_
        refine va_get (D := (dC, dI)) (ci := 7) (v := .ref (ad 0 11)) (C := R_M) (T := F_M) (N := 33) hx hb htb in_M hown hK hP 0 (g_M) rfl 24 (by decide) (htb _ k_643) (fun _ h9 => h9) rfl d_M_merge_134 ?_
        refine lv_aload_n hx hb d_M_merge_137 rfl (lv_at hl 0 rfl) ?_
        refine va_get (D := (dC, dI)) (ci := 7) (v := .ref (ad 0 12)) (C := R_M) (T := F_M) (N := 33) hx hb htb in_M hown hK hP 0 (g_M) rfl 25 (by decide) (htb _ k_644) (fun _ h9 => h9) rfl d_M_merge_138 ?_
        refine lv_iconst (v := 3) hx hb d_M_merge_141 (by decide) ?_
        refine va_iald hx hb hK hP 12 0 (g_M_a12) rfl (inb_in (by decide)) d_M_merge_142 ?_
        have hg143 := gd_c hM
        have hM := gd_v hM
        refine va_iald hx hb hK hP 11 0 (g_M_a11) rfl (inb_in hg143) d_M_merge_143 ?_
        refine lv_iconst (v := 1) hx hb d_M_merge_144 (by decide) ?_
        refine lv_iadd hx hb d_M_merge_145 ?_
        have hg146 := gd_c hM
        have hM := gd_v hM
        refine va_iast (i := ((σ 0).2 12 (3 : Int32).toNatClampNeg)) (x := (((σ 0).2 11 ((σ 0).2 12 (3 : Int32).toNatClampNeg).toNatClampNeg) + 1)) hx hb hK hP hD hS 11 0 (g_M_a11) rfl (inb_in hg146) d_M_merge_146 (fun H locs hP hD hS => ?_)
        have hP := P_eq (t_M_11) hP
        have hD := D_eq (t_M_11) hD
        refine lv_goto (tgt := 160) hx hb d_M_merge_147 (by decide) ?_
        refine lv_aload_n hx hb d_M_merge_160 rfl (lv_at hl 0 rfl) ?_
        have hF1 := free_all hD hS hA
        obtain ⟨y161, hq161, hM⟩ := bV_some hM
        refine va_callv (va_runV (As := []) (rest := []) ⟨hx, hb, hml, hown, hts⟩ (c_M_turn l dC dI ad cs _ N (w3 σ 0 11 ((σ 0).2 12 (3 : Int32).toNatClampNeg) (((σ 0).2 11 ((σ 0).2 12 (3 : Int32).toNatClampNeg).toNatClampNeg) + 1)) hq161) (cwV 0 hts (goodV k_815 k_817 ks_M_turn k_8 k_818) rfl rfl rfl ⟨rfl, by decide, by decide, by decide +kernel⟩ ⟨Nat.le_of_ble_eq_true rfl, Nat.le_of_ble_eq_true rfl⟩) ⟨blindM, va_recv hK hP rfl (g_M), payM hP hK hD hN⟩ rfl rfl hl.1 rfl (lv_room (Nat.le_of_ble_eq_true rfl)) d_M_merge_161 ⟨Nat.zero_le _, Nat.zero_le _⟩) hS (fun q _ h => hF1 q h) hF1 (fun σ161 t H locs ht hvm hpost hB hz1 hk1 hS => ?_)
        subst hpost
        obtain ⟨hP1, hK1, hD1⟩ := hB
        rw [ht] at hP1
        have hP := hP1
        have hD := hD1.weaken (fun _ _ _ h => hF1 _ h)
        refine lv_iconst (v := 1) hx hb d_M_merge_164 (by decide) ?_
        have e9 := Prod.mk.inj (Option.some.inj hM)
        exact W.zret (ty := .boolean) (v := 1) hx hb hr rfl (fun t ht hW => ⟨⟨1, σ161, rfl, e9, by rw [ht]; exact hP, va_K.moved hW.alike hK, hD⟩, hS.F ht⟩) hS.2.2 d_M_merge_165
    · rw [if_neg h72] at hM
      refine lv_aload_n hx hb d_M_merge_75 rfl (lv_at hl 0 rfl) ?_
      refine va_get (D := (dC, dI)) (ci := 7) (v := .ref (ad 0 12)) (C := R_M) (T := F_M) (N := 33) hx hb htb in_M hown hK hP 0 (g_M) rfl 25 (by decide) (htb _ k_644) (fun _ h9 => h9) rfl d_M_merge_76 ?_
      refine lv_iload_n hx hb d_M_merge_79 rfl (lv_at hl 2 rfl) ?_
      have hg80 := gd_c hM
      have hM := gd_v hM
      refine va_iald hx hb hK hP 12 0 (g_M_a12) rfl (inb_in hg80) d_M_merge_80 ?_
      refine lv_istore_n hx hb d_M_merge_81 rfl hl (by decide) (lv' := [(3, .int ((σ 0).2 12 v2.toNatClampNeg)), (0, .ref (ad 0 0)), (1, .int v1), (2, .int v2)]) rfl (fun ls hl => ?_)
      refine lv_aload_n hx hb d_M_merge_82 rfl (lv_at hl 1 rfl) ?_
      refine va_get (D := (dC, dI)) (ci := 7) (v := .ref (ad 0 11)) (C := R_M) (T := F_M) (N := 33) hx hb htb in_M hown hK hP 0 (g_M) rfl 24 (by decide) (htb _ k_643) (fun _ h9 => h9) rfl d_M_merge_83 ?_
      refine lv_iload_n hx hb d_M_merge_86 rfl (lv_at hl 0 rfl) ?_
      have hg87 := gd_c hM
      have hM := gd_v hM
      refine va_iald hx hb hK hP 11 0 (g_M_a11) rfl (inb_in hg87) d_M_merge_87 ?_
      refine lv_if_le (tgt := 108) hx hb d_M_merge_88 (by decide) (fun h88 => ?_) (fun h88 => ?_)
      · rw [if_pos h88] at hM
        refine lv_aload_n hx hb d_M_merge_108 rfl (lv_at hl 1 rfl) ?_
        refine lv_iload_n hx hb d_M_merge_109 rfl (lv_at hl 0 rfl) ?_
        have hF1 := free_all hD hS hA
        obtain ⟨y110, hq110, hM⟩ := bV_some hM
        refine va_callv (va_runV (As := [.int ((σ 0).2 12 v2.toNatClampNeg)]) (rest := []) ⟨hx, hb, hml, hown, hts⟩ (c_M_takeOff l dC dI ad cs _ N σ ((σ 0).2 12 v2.toNatClampNeg) hq110) (cwV 1 hts (goodV k_811 k_813 ks_M_takeOff k_8 k_814) rfl rfl rfl ⟨rfl, by decide, by decide, by decide +kernel⟩ ⟨Nat.le_of_ble_eq_true rfl, Nat.le_of_ble_eq_true rfl⟩) ⟨blindM, va_recv hK hP rfl (g_M), payM hP hK hD hN⟩ rfl rfl hl.1 rfl (lv_room (Nat.le_of_ble_eq_true rfl)) d_M_merge_110 ⟨Nat.zero_le _, Nat.zero_le _⟩) hS (fun q _ h => hF1 q h) hF1 (fun σ110 t H locs ht hvm hpost hB hz1 hk1 hS => ?_)
        subst hpost
        obtain ⟨hP1, hK1, hD1⟩ := hB
        rw [ht] at hP1
        have hP := hP1
        have hD := hD1.weaken (fun _ _ _ h => hF1 _ h)
        refine lv_iinc (k := 3) (v := (v2 + 1)) hx hb d_M_merge_113 hl rfl rfl (by decide) (lv' := [(2, .int (v2 + 1)), (3, .int ((σ 0).2 12 v2.toNatClampNeg)), (0, .ref (ad 0 0)), (1, .int v1)]) rfl (fun ls hl => ?_)
        refine lv_goto (tgt := 70) hx hb d_M_merge_116 (by decide) ?_
        exact K70 _ _ _ _ ⟨σ110, v1, (v2 + 1), rfl, hM, lv_sub hl [2, 3, 0] rfl, hP, hD, hS⟩
      · rw [if_neg h88] at hM
        refine lv_aload_n hx hb d_M_merge_91 rfl (lv_at hl 1 rfl) ?_
        refine va_get (D := (dC, dI)) (ci := 7) (v := .ref (ad 0 11)) (C := R_M) (T := F_M) (N := 33) hx hb htb in_M hown hK hP 0 (g_M) rfl 24 (by decide) (htb _ k_643) (fun _ h9 => h9) rfl d_M_merge_92 ?_
        refine lv_iload_n hx hb d_M_merge_95 rfl (lv_at hl 0 rfl) ?_
        refine lv_aload_n hx hb d_M_merge_96 rfl (lv_at hl 1 rfl) ?_
        refine va_get (D := (dC, dI)) (ci := 7) (v := .ref (ad 0 11)) (C := R_M) (T := F_M) (N := 33) hx hb htb in_M hown hK hP 0 (g_M) rfl 24 (by decide) (htb _ k_643) (fun _ h9 => h9) rfl d_M_merge_97 ?_
        refine lv_iload_n hx hb d_M_merge_100 rfl (lv_at hl 0 rfl) ?_
        have hg101 := gd_c hM
        have hM := gd_v hM
        refine va_iald hx hb hK hP 11 0 (g_M_a11) rfl (inb_in hg101) d_M_merge_101 ?_
        refine lv_iconst (v := 1) hx hb d_M_merge_102 (by decide) ?_
        refine lv_isub hx hb d_M_merge_103 ?_
        have hg104 := gd_c hM
        have hM := gd_v hM
        refine va_iast (i := ((σ 0).2 12 v2.toNatClampNeg)) (x := (((σ 0).2 11 ((σ 0).2 12 v2.toNatClampNeg).toNatClampNeg) - 1)) hx hb hK hP hD hS 11 0 (g_M_a11) rfl (inb_in hg104) d_M_merge_104 (fun H locs hP hD hS => ?_)
        have hP := P_eq (t_M_11) hP
        have hD := D_eq (t_M_11) hD
        refine lv_goto (tgt := 113) hx hb d_M_merge_105 (by decide) ?_
        refine lv_iinc (k := 3) (v := (v2 + 1)) hx hb d_M_merge_113 hl rfl rfl (by decide) (lv' := [(2, .int (v2 + 1)), (3, .int ((σ 0).2 12 v2.toNatClampNeg)), (0, .ref (ad 0 0)), (1, .int v1)]) rfl (fun ls hl => ?_)
        refine lv_goto (tgt := 70) hx hb d_M_merge_116 (by decide) ?_
        exact K70 _ _ _ _ ⟨(w3 σ 0 11 ((σ 0).2 12 v2.toNatClampNeg) (((σ 0).2 11 ((σ 0).2 12 v2.toNatClampNeg).toNatClampNeg) - 1)), v1, (v2 + 1), rfl, hM, lv_sub hl [2, 3, 0] rfl, hP, hD, hS⟩
  intro K70
  refine W_cut (pc := 68) (fun H locs ls st => ∃ (σ : SX) (v1 : Int32), st = [] ∧ m_M_merge_68 N σ v1 = some (r0, σ0) ∧ lv_has ls 4 [(0, .ref (ad 0 0)), (1, .int v1)] ∧ va_P (dC, dI) classes (wM ad cs σ) H ∧ va_D A (wM ad cs σ) ∧ va_S A s.heap H locs) ?_ ?_
  · intro H locs ls st hI
    obtain ⟨σ, v1, rfl, hM, hl, hP, hD, hS⟩ := hI
    rw [m_M_merge_68] at hM
    refine lv_iconst (v := 0) hx hb d_M_merge_68 (by decide) ?_
    refine lv_istore_n hx hb d_M_merge_69 rfl hl (by decide) (lv' := [(2, .int 0), (0, .ref (ad 0 0)), (1, .int v1)]) rfl (fun ls hl => ?_)
    exact K70 N _ _ _ _ ⟨σ, v1, 0, rfl, hM, lv_sub hl [1, 2, 0] rfl, hP, hD, hS⟩
  intro K68
  refine W_cut (pc := 47) (fun H locs ls st => ∃ (σ : SX) (s0 : Int32), st = [.int s0] ∧ m_M_merge_47 N σ s0 = some (r0, σ0) ∧ lv_has ls 4 [(0, .ref (ad 0 0))] ∧ va_P (dC, dI) classes (wM ad cs σ) H ∧ va_D A (wM ad cs σ) ∧ va_S A s.heap H locs) ?_ ?_
  · intro H locs ls st hI
    obtain ⟨σ, s0, rfl, hM, hl, hP, hD, hS⟩ := hI
    rw [m_M_merge_47] at hM
    refine lv_istore_n hx hb d_M_merge_47 rfl hl (by decide) (lv' := [(1, .int s0), (0, .ref (ad 0 0))]) rfl (fun ls hl => ?_)
    refine lv_iload_n hx hb d_M_merge_48 rfl (lv_at hl 0 rfl) ?_
    refine lv_if_ne (tgt := 68) hx hb d_M_merge_49 (by decide) (fun h49 => ?_) (fun h49 => ?_)
    · rw [if_neg h49] at hM
      exact K68 _ _ _ _ ⟨σ, s0, rfl, hM, lv_sub hl [1, 0] rfl, hP, hD, hS⟩
    · rw [if_pos h49] at hM
      refine lv_aload_n hx hb d_M_merge_52 rfl (lv_at hl 1 rfl) ?_
      have hF1 := free_all hD hS hA
      obtain ⟨x53, y53, hq53, hM⟩ := bI_some hM
      refine va_calli (va_runV (As := []) (rest := []) ⟨hx, hb, hml, hown, hts⟩ (c_M_isReadable l dC dI ad cs _ N σ hq53) (cwV 0 hts (goodV k_803 k_805 ks_M_isReadable k_8 k_806) rfl rfl rfl ⟨rfl, by decide, by decide, by decide +kernel⟩ ⟨Nat.le_of_ble_eq_true rfl, Nat.le_of_ble_eq_true rfl⟩) ⟨blindM, va_recv hK hP rfl (g_M), payM hP hK hD hN⟩ rfl rfl hl.1 rfl (lv_room (Nat.le_of_ble_eq_true rfl)) d_M_merge_53 ⟨Nat.zero_le _, Nat.zero_le _⟩) hS (fun q _ h => hF1 q h) hF1 (fun r53 σ53 t H locs ht hvm hpost hB hz1 hk1 hS => ?_)
      obtain ⟨e1, e2⟩ := hpost
      subst e1
      subst e2
      obtain ⟨hP1, hK1, hD1⟩ := hB
      rw [ht] at hP1
      have hP := hP1
      have hD := hD1.weaken (fun _ _ _ h => hF1 _ h)
      refine lv_if_eq (tgt := 66) hx hb d_M_merge_56 (by decide) (fun h56 => ?_) (fun h56 => ?_)
      · rw [if_pos h56] at hM
        refine lv_iconst (v := 0) hx hb d_M_merge_66 (by decide) ?_
        have e9 := Prod.mk.inj (Option.some.inj hM)
        exact W.zret (ty := .boolean) (v := 0) hx hb hr rfl (fun t ht hW => ⟨⟨0, σ53, rfl, e9, by rw [ht]; exact hP, va_K.moved hW.alike hK, hD⟩, hS.F ht⟩) hS.2.2 d_M_merge_67
      · rw [if_neg h56] at hM
        refine lv_aload_n hx hb d_M_merge_59 rfl (lv_at hl 1 rfl) ?_
        have hF1 := free_all hD hS hA
        obtain ⟨x60, y60, hq60, hM⟩ := bI_some hM
        refine va_calli (va_runV (As := []) (rest := []) ⟨hx, hb, hml, hown, hts⟩ (c_M_mergeRuns l dC dI ad cs _ N σ53 hq60) (cwV 0 hts (goodV k_807 k_809 ks_M_mergeRuns k_8 k_810) rfl rfl rfl ⟨rfl, by decide, by decide, by decide +kernel⟩ ⟨Nat.le_of_ble_eq_true rfl, Nat.le_of_ble_eq_true rfl⟩) ⟨blindM, va_recv hK hP rfl (g_M), payM hP hK hD hN⟩ rfl rfl hl.1 rfl (lv_room (Nat.le_of_ble_eq_true rfl)) d_M_merge_60 ⟨Nat.zero_le _, Nat.zero_le _⟩) hS (fun q _ h => hF1 q h) hF1 (fun r60 σ60 t H locs ht hvm hpost hB hz1 hk1 hS => ?_)
        obtain ⟨e1, e2⟩ := hpost
        subst e1
        subst e2
        obtain ⟨hP1, hK1, hD1⟩ := hB
        rw [ht] at hP1
        have hP := hP1
        have hD := hD1.weaken (fun _ _ _ h => hF1 _ h)
        refine lv_if_ne (tgt := 68) hx hb d_M_merge_63 (by decide) (fun h63 => ?_) (fun h63 => ?_)
        · rw [if_neg h63] at hM
          exact K68 _ _ _ _ ⟨σ60, s0, rfl, hM, lv_sub hl [1, 0] rfl, hP, hD, hS⟩
        · rw [if_pos h63] at hM
          refine lv_iconst (v := 0) hx hb d_M_merge_66 (by decide) ?_
          have e9 := Prod.mk.inj (Option.some.inj hM)
          exact W.zret (ty := .boolean) (v := 0) hx hb hr rfl (fun t ht hW => ⟨⟨0, σ60, rfl, e9, by rw [ht]; exact hP, va_K.moved hW.alike hK, hD⟩, hS.F ht⟩) hS.2.2 d_M_merge_67
  intro K47
  refine W_cut (pc := 46) (fun H locs ls st => ∃ (σ : SX), st = [] ∧ m_M_merge_46 N σ = some (r0, σ0) ∧ lv_has ls 4 [(0, .ref (ad 0 0))] ∧ va_P (dC, dI) classes (wM ad cs σ) H ∧ va_D A (wM ad cs σ) ∧ va_S A s.heap H locs) ?_ ?_
  · intro H locs ls st hI
    obtain ⟨σ, rfl, hM, hl, hP, hD, hS⟩ := hI
    rw [m_M_merge_46] at hM
    refine lv_iconst (v := 0) hx hb d_M_merge_46 (by decide) ?_
    exact K47 _ _ _ _ ⟨σ, 0, rfl, hM, lv_sub hl [0] rfl, hP, hD, hS⟩
  intro K46
  refine lv_aload_n hx hb d_M_merge_0 rfl (lv_at hl 0 rfl) ?_
  refine va_get (D := (dC, dI)) (ci := 7) (v := .ref (ad 0 11)) (C := R_M) (T := F_M) (N := 33) hx hb htb in_M hown hK hP 0 (g_M) rfl 24 (by decide) (htb _ k_643) (fun _ h9 => h9) rfl d_M_merge_1 ?_
  refine lv_aload_n hx hb d_M_merge_4 rfl (lv_at hl 0 rfl) ?_
  refine va_get (D := (dC, dI)) (ci := 7) (v := .ref (ad 0 12)) (C := R_M) (T := F_M) (N := 33) hx hb htb in_M hown hK hP 0 (g_M) rfl 25 (by decide) (htb _ k_644) (fun _ h9 => h9) rfl d_M_merge_5 ?_
  refine lv_iconst (v := 0) hx hb d_M_merge_8 (by decide) ?_
  refine va_iald hx hb hK hP 12 0 (g_M_a12) rfl (inb_in (by decide)) d_M_merge_9 ?_
  have hg10 := gd_c hM
  have hM := gd_v hM
  refine va_iald hx hb hK hP 11 0 (g_M_a11) rfl (inb_in hg10) d_M_merge_10 ?_
  refine lv_if_le (tgt := 46) hx hb d_M_merge_11 (by decide) (fun h11 => ?_) (fun h11 => ?_)
  · rw [if_pos h11] at hM
    exact K46 _ _ _ _ ⟨σ, rfl, hM, lv_sub hl [0] rfl, hP, hD, hS⟩
  · rw [if_neg h11] at hM
    refine lv_aload_n hx hb d_M_merge_14 rfl (lv_at hl 0 rfl) ?_
    refine va_get (D := (dC, dI)) (ci := 7) (v := .ref (ad 0 11)) (C := R_M) (T := F_M) (N := 33) hx hb htb in_M hown hK hP 0 (g_M) rfl 24 (by decide) (htb _ k_643) (fun _ h9 => h9) rfl d_M_merge_15 ?_
    refine lv_aload_n hx hb d_M_merge_18 rfl (lv_at hl 0 rfl) ?_
    refine va_get (D := (dC, dI)) (ci := 7) (v := .ref (ad 0 12)) (C := R_M) (T := F_M) (N := 33) hx hb htb in_M hown hK hP 0 (g_M) rfl 25 (by decide) (htb _ k_644) (fun _ h9 => h9) rfl d_M_merge_19 ?_
    refine lv_iconst (v := 1) hx hb d_M_merge_22 (by decide) ?_
    refine va_iald hx hb hK hP 12 0 (g_M_a12) rfl (inb_in (by decide)) d_M_merge_23 ?_
    have hg24 := gd_c hM
    have hM := gd_v hM
    refine va_iald hx hb hK hP 11 0 (g_M_a11) rfl (inb_in hg24) d_M_merge_24 ?_
    refine lv_if_le (tgt := 46) hx hb d_M_merge_25 (by decide) (fun h25 => ?_) (fun h25 => ?_)
    · rw [if_pos h25] at hM
      exact K46 _ _ _ _ ⟨σ, rfl, hM, lv_sub hl [0] rfl, hP, hD, hS⟩
    · rw [if_neg h25] at hM
      refine lv_aload_n hx hb d_M_merge_28 rfl (lv_at hl 0 rfl) ?_
      refine va_get (D := (dC, dI)) (ci := 7) (v := .ref (ad 0 11)) (C := R_M) (T := F_M) (N := 33) hx hb htb in_M hown hK hP 0 (g_M) rfl 24 (by decide) (htb _ k_643) (fun _ h9 => h9) rfl d_M_merge_29 ?_
      refine lv_aload_n hx hb d_M_merge_32 rfl (lv_at hl 0 rfl) ?_
      refine va_get (D := (dC, dI)) (ci := 7) (v := .ref (ad 0 12)) (C := R_M) (T := F_M) (N := 33) hx hb htb in_M hown hK hP 0 (g_M) rfl 25 (by decide) (htb _ k_644) (fun _ h9 => h9) rfl d_M_merge_33 ?_
      refine lv_iconst (v := 2) hx hb d_M_merge_36 (by decide) ?_
      refine va_iald hx hb hK hP 12 0 (g_M_a12) rfl (inb_in (by decide)) d_M_merge_37 ?_
      have hg38 := gd_c hM
      have hM := gd_v hM
      refine va_iald hx hb hK hP 11 0 (g_M_a11) rfl (inb_in hg38) d_M_merge_38 ?_
      refine lv_if_le (tgt := 46) hx hb d_M_merge_39 (by decide) (fun h39 => ?_) (fun h39 => ?_)
      · rw [if_pos h39] at hM
        exact K46 _ _ _ _ ⟨σ, rfl, hM, lv_sub hl [0] rfl, hP, hD, hS⟩
      · rw [if_neg h39] at hM
        refine lv_iconst (v := 1) hx hb d_M_merge_42 (by decide) ?_
        refine lv_goto (tgt := 47) hx hb d_M_merge_43 (by decide) ?_
        exact K47 _ _ _ _ ⟨σ, 1, rfl, hM, lv_sub hl [0] rfl, hP, hD, hS⟩

theorem d_M_step_0 : decode b_M_step 0 = .ok (.aload_n 0, 1) := by decide +kernel
theorem d_M_step_1 : decode b_M_step 1 = .ok (.iload_n 1, 1) := by decide +kernel
theorem d_M_step_2 : decode b_M_step 2 = .ok (.iconst 1, 1) := by decide +kernel
theorem d_M_step_3 : decode b_M_step 3 = .ok (.if_icmp .lt 10, 3) := by decide +kernel
theorem d_M_step_6 : decode b_M_step 6 = .ok (.iload_n 1, 1) := by decide +kernel
theorem d_M_step_7 : decode b_M_step 7 = .ok (.sipush 300, 3) := by decide +kernel
theorem d_M_step_10 : decode b_M_step 10 = .ok (.if_icmp .le 7, 3) := by decide +kernel
theorem d_M_step_13 : decode b_M_step 13 = .ok (.iconst 1, 1) := by decide +kernel
theorem d_M_step_14 : decode b_M_step 14 = .ok (.goto 22, 3) := by decide +kernel
theorem d_M_step_17 : decode b_M_step 17 = .ok (.aload_n 0, 1) := by decide +kernel
theorem d_M_step_18 : decode b_M_step 18 = .ok (.getfield 73, 3) := by decide +kernel
theorem d_M_step_21 : decode b_M_step 21 = .ok (.ifCond .eq 10, 3) := by decide +kernel
theorem d_M_step_24 : decode b_M_step 24 = .ok (.aload_n 0, 1) := by decide +kernel
theorem d_M_step_25 : decode b_M_step 25 = .ok (.getfield 19, 3) := by decide +kernel
theorem d_M_step_28 : decode b_M_step 28 = .ok (.ifCond .ne 7, 3) := by decide +kernel
theorem d_M_step_31 : decode b_M_step 31 = .ok (.iconst 2, 1) := by decide +kernel
theorem d_M_step_32 : decode b_M_step 32 = .ok (.goto 4, 3) := by decide +kernel
theorem d_M_step_35 : decode b_M_step 35 = .ok (.iconst 0, 1) := by decide +kernel
theorem d_M_step_36 : decode b_M_step 36 = .ok (.putfield 70, 3) := by decide +kernel
theorem d_M_step_39 : decode b_M_step 39 = .ok (.aload_n 0, 1) := by decide +kernel
theorem d_M_step_40 : decode b_M_step 40 = .ok (.getfield 70, 3) := by decide +kernel
theorem d_M_step_43 : decode b_M_step 43 = .ok (.ifCond .le 5, 3) := by decide +kernel
theorem d_M_step_46 : decode b_M_step 46 = .ok (.iconst 0, 1) := by decide +kernel
theorem d_M_step_47 : decode b_M_step 47 = .ok (.ireturn, 1) := by decide +kernel
theorem d_M_step_48 : decode b_M_step 48 = .ok (.iconst 0, 1) := by decide +kernel
theorem d_M_step_49 : decode b_M_step 49 = .ok (.istore_n 2, 1) := by decide +kernel
theorem d_M_step_50 : decode b_M_step 50 = .ok (.iload_n 2, 1) := by decide +kernel
theorem d_M_step_51 : decode b_M_step 51 = .ok (.iload_n 1, 1) := by decide +kernel
theorem d_M_step_52 : decode b_M_step 52 = .ok (.if_icmp .ge 55, 3) := by decide +kernel
theorem d_M_step_55 : decode b_M_step 55 = .ok (.aload_n 0, 1) := by decide +kernel
theorem d_M_step_56 : decode b_M_step 56 = .ok (.getfield 73, 3) := by decide +kernel
theorem d_M_step_59 : decode b_M_step 59 = .ok (.iconst 3, 1) := by decide +kernel
theorem d_M_step_60 : decode b_M_step 60 = .ok (.if_icmp .ge 47, 3) := by decide +kernel
theorem d_M_step_63 : decode b_M_step 63 = .ok (.aload_n 0, 1) := by decide +kernel
theorem d_M_step_64 : decode b_M_step 64 = .ok (.getfield 73, 3) := by decide +kernel
theorem d_M_step_67 : decode b_M_step 67 = .ok (.iconst 1, 1) := by decide +kernel
theorem d_M_step_68 : decode b_M_step 68 = .ok (.if_icmp .ne 13, 3) := by decide +kernel
theorem d_M_step_71 : decode b_M_step 71 = .ok (.aload_n 0, 1) := by decide +kernel
theorem d_M_step_72 : decode b_M_step 72 = .ok (.invokevirtual 169, 3) := by decide +kernel
theorem d_M_step_75 : decode b_M_step 75 = .ok (.ifCond .eq 13, 3) := by decide +kernel
theorem d_M_step_78 : decode b_M_step 78 = .ok (.goto 22, 3) := by decide +kernel
theorem d_M_step_81 : decode b_M_step 81 = .ok (.aload_n 0, 1) := by decide +kernel
theorem d_M_step_82 : decode b_M_step 82 = .ok (.invokevirtual 172, 3) := by decide +kernel
theorem d_M_step_85 : decode b_M_step 85 = .ok (.ifCond .ne 15, 3) := by decide +kernel
theorem d_M_step_88 : decode b_M_step 88 = .ok (.aload_n 0, 1) := by decide +kernel
theorem d_M_step_89 : decode b_M_step 89 = .ok (.aload_n 0, 1) := by decide +kernel
theorem d_M_step_90 : decode b_M_step 90 = .ok (.getfield 117, 3) := by decide +kernel
theorem d_M_step_93 : decode b_M_step 93 = .ok (.iconst 1, 1) := by decide +kernel
theorem d_M_step_94 : decode b_M_step 94 = .ok (.iadd, 1) := by decide +kernel
theorem d_M_step_95 : decode b_M_step 95 = .ok (.putfield 117, 3) := by decide +kernel
theorem d_M_step_98 : decode b_M_step 98 = .ok (.iload_n 2, 1) := by decide +kernel
theorem d_M_step_99 : decode b_M_step 99 = .ok (.ireturn, 1) := by decide +kernel
theorem d_M_step_100 : decode b_M_step 100 = .ok (.iload_n 2, 1) := by decide +kernel
theorem d_M_step_101 : decode b_M_step 101 = .ok (.iconst 1, 1) := by decide +kernel
theorem d_M_step_102 : decode b_M_step 102 = .ok (.iadd, 1) := by decide +kernel
theorem d_M_step_103 : decode b_M_step 103 = .ok (.istore_n 2, 1) := by decide +kernel
theorem d_M_step_104 : decode b_M_step 104 = .ok (.goto (-54), 3) := by decide +kernel
theorem d_M_step_107 : decode b_M_step 107 = .ok (.iload_n 2, 1) := by decide +kernel
theorem d_M_step_108 : decode b_M_step 108 = .ok (.ireturn, 1) := by decide +kernel
def m_M_step_88 (N : Nat) (k50 : SX → Int32 → Int32 → Option (Int32 × SX)) (σ : SX) (v2 : Int32) : Option (Int32 × SX) :=
    some (v2, (w1 σ 0 8 (((σ 0).1 8) + 1)))

def m_M_step_50 (N : Nat) : Nat → SX → Int32 → Int32 → Option (Int32 × SX)
  | 0, _, _, _ => none
  | n50 + 1, σ, v1, v2 =>
    (if v1 ≤ v2 then some (v2, σ) else (if 3 ≤ ((σ 0).1 4) then some (v2, σ) else (if ((σ 0).1 4) = 1 then (bI (m_M_lay N σ) fun r72 σ72 => (if r72 = 0 then m_M_step_88 N (m_M_step_50 N n50) σ72 v2 else m_M_step_50 N n50 σ72 v1 (v2 + 1))) else (bI (m_M_merge N σ) fun r82 σ82 => (if r82 = 0 then m_M_step_88 N (m_M_step_50 N n50) σ82 v2 else m_M_step_50 N n50 σ82 v1 (v2 + 1))))))

def m_M_step_36 (N : Nat) (σ : SX) (v1 : Int32) (s0 : Int32) : Option (Int32 × SX) :=
    (if (((w1 σ 0 0 s0) 0).1 0) ≤ 0 then m_M_step_50 N N (w1 σ 0 0 s0) v1 0 else some (0, (w1 σ 0 0 s0)))

def m_M_step_31 (N : Nat) (σ : SX) (v1 : Int32) : Option (Int32 × SX) :=
    m_M_step_36 N σ v1 2

def m_M_step_13 (N : Nat) (σ : SX) (v1 : Int32) : Option (Int32 × SX) :=
    m_M_step_36 N σ v1 1

def m_M_step (N : Nat) (σ : SX) (a1 : Int32) : Option (Int32 × SX) :=
  (if a1 < 1 then m_M_step_13 N σ a1 else (if a1 ≤ 300 then (if ((σ 0).1 4) = 0 then m_M_step_31 N σ a1 else (if ((σ 0).1 5) = 0 then m_M_step_31 N σ a1 else m_M_step_36 N σ a1 0)) else m_M_step_13 N σ a1))

set_option maxHeartbeats 4000000 in
set_option maxRecDepth 100000 in
theorem c_M_step (l : Launch) (dC : Nat → ClassId) (dI : Nat → Nat → Nat) (ad : Nat → Nat → Nat) (cs : Nat → ClassId) (sz N : Nat) (σ : SX) (a1 : Int32) {r0 : Int32} {σ0 : SX} (hM : m_M_step N σ a1 = some (r0, σ0)) : Met l y_M_step (wd y_M_step b_M_step 3 (some .int)) ({ frames := 5, cells := 0, slots := 0, locals := 112 }) (va_Pc [.ref (ad 0 0), .int a1] (preM dC dI ad cs sz σ)) (va_Qi (fun (r : Int32) (u : SX) => r = r0 ∧ u = σ0) (atM dC dI ad cs (va_A (wM ad cs σ) sz)) (va_A (wM ad cs σ) sz)) 0 0 (va_A (wM ad cs σ) sz) := by
  refine Met.ofW (cc := b_M_step) (maxL := 3) (ret := (some .int)) (by decide) rfl ?_
  intro p e s m args below meth c s₁ B hml hv
  obtain ⟨rfl, hsz, hP, hK, hD0, hN⟩ := hv
  have hx := B.exec
  have hb := B.bytes
  have hr := B.returns
  have hts := atoms_spec (ws := (wd y_M_step b_M_step 3 (some .int))) B.pre
  have htb : ∀ w ∈ tb, w.before _ s = true := fun w h => hts w (List.mem_cons_of_mem _ h)
  have hown : s.vm.findClass R_M = some m.cls := findClass_of_methodNamed B.named
  have hlocks := B.notSynchronized
  subst hsz
  have hD := hD0.self (sz := s.heap.size)
  generalize hAe : va_A (wM ad cs σ) s.heap.size = A at hD ⊢
  have hA : ∀ q : Nat, s.heap.size ≤ q → A q := fun q h => by rw [← hAe]; exact Or.inr h
  have hS : va_S A s.heap s.heap [] := va_S.rf
  have hP : va_P (dC, dI) classes (wM ad cs σ) s.heap := hP
  have hl := lv_entry ([.ref (ad 0 0), .int a1]) (n := 3) (Nat.le_of_ble_eq_true rfl)
  rw [lg_entry_eq]
  generalize (lg_sl ([.ref (ad 0 0), .int a1]) ++ List.replicate (3 - (lg_sl ([.ref (ad 0 0), .int a1])).length) Slot.unset).toArray = ls at hl ⊢
  have hl : lv_has ls 3 [(0, .ref (ad 0 0)), (1, .int a1)] := hl
  rw [m_M_step] at hM
  refine W_loop (pc := 50) (fun n50 H locs ls st => ∃ (σ : SX) (v1 : Int32) (v2 : Int32), st = [] ∧ m_M_step_50 N n50 σ v1 v2 = some (r0, σ0) ∧ lv_has ls 3 [(0, .ref (ad 0 0)), (1, .int v1), (2, .int v2)] ∧ va_P (dC, dI) classes (wM ad cs σ) H ∧ va_D A (wM ad cs σ) ∧ va_S A s.heap H locs) ?_ ?_ ?_
  · rintro H locs ls st ⟨σ, v1, v2, -, hM, -⟩
    rw [m_M_step_50] at hM; cases hM
  · intro n50 K50 H locs ls st hI
    obtain ⟨σ, v1, v2, rfl, hM, hl, hP, hD, hS⟩ := hI
    rw [m_M_step_50] at hM
    refine W_cut (pc := 88) (fun H locs ls st => ∃ (σ : SX) (v2 : Int32), st = [] ∧ m_M_step_88 N (m_M_step_50 N n50) σ v2 = some (r0, σ0) ∧ lv_has ls 3 [(0, .ref (ad 0 0)), (2, .int v2)] ∧ va_P (dC, dI) classes (wM ad cs σ) H ∧ va_D A (wM ad cs σ) ∧ va_S A s.heap H locs) ?_ ?_
    · intro H locs ls st hI
      obtain ⟨σ, v2, rfl, hM, hl, hP, hD, hS⟩ := hI
      rw [m_M_step_88] at hM
      refine lv_aload_n hx hb d_M_step_88 rfl (lv_at hl 0 rfl) ?_
      refine lv_aload_n hx hb d_M_step_89 rfl (lv_at hl 0 rfl) ?_
      refine va_get (D := (dC, dI)) (ci := 7) (v := .int ((σ 0).1 8)) (C := R_M) (T := F_M) (N := 33) hx hb htb in_M hown hK hP 0 (g_M) rfl 11 (by decide) (htb _ k_630) (fun _ h9 => h9) rfl d_M_step_90 ?_
      refine lv_iconst (v := 1) hx hb d_M_step_93 (by decide) ?_
      refine lv_iadd hx hb d_M_step_94 ?_
      refine va_put (D := (dC, dI)) (ci := 7) (v := .int (((σ 0).1 8) + 1)) (ty := .int) (C := R_M) (T := F_M) (N := 33) hx hb htb in_M ft_M ft_M_ok n_M hown hK hP hD hS 0 (g_M) rfl 11 (by decide) (htb _ k_630) (fun _ h9 => h9) rfl (by decide +kernel) rfl rfl (Nat.le_of_ble_eq_true rfl) d_M_step_95 (fun H locs hP hD hS => ?_)
      have hP := P_eq (s_M_8) hP
      have hD := D_eq (s_M_8) hD
      refine lv_iload_n hx hb d_M_step_98 rfl (lv_at hl 1 rfl) ?_
      have e9 := Prod.mk.inj (Option.some.inj hM)
      exact W.iret (v := v2) hx hb hr (fun t ht hW => ⟨⟨v2, (w1 σ 0 8 (((σ 0).1 8) + 1)), rfl, e9, by rw [ht]; exact hP, va_K.moved hW.alike hK, hD⟩, hS.F ht⟩) hS.2.2 d_M_step_99
    intro K88
    refine lv_iload_n hx hb d_M_step_50 rfl (lv_at hl 2 rfl) ?_
    refine lv_iload_n hx hb d_M_step_51 rfl (lv_at hl 1 rfl) ?_
    refine lv_icmp_ge (tgt := 107) hx hb d_M_step_52 (by decide) (fun h52 => ?_) (fun h52 => ?_)
    · rw [if_pos h52] at hM
      refine lv_iload_n hx hb d_M_step_107 rfl (lv_at hl 2 rfl) ?_
      have e9 := Prod.mk.inj (Option.some.inj hM)
      exact W.iret (v := v2) hx hb hr (fun t ht hW => ⟨⟨v2, σ, rfl, e9, by rw [ht]; exact hP, va_K.moved hW.alike hK, hD⟩, hS.F ht⟩) hS.2.2 d_M_step_108
    · rw [if_neg h52] at hM
      refine lv_aload_n hx hb d_M_step_55 rfl (lv_at hl 0 rfl) ?_
      refine va_get (D := (dC, dI)) (ci := 7) (v := .int ((σ 0).1 4)) (C := R_M) (T := F_M) (N := 33) hx hb htb in_M hown hK hP 0 (g_M) rfl 7 (by decide) (htb _ k_626) (fun _ h9 => h9) rfl d_M_step_56 ?_
      refine lv_iconst (v := 3) hx hb d_M_step_59 (by decide) ?_
      refine lv_icmp_ge (tgt := 107) hx hb d_M_step_60 (by decide) (fun h60 => ?_) (fun h60 => ?_)
      · rw [if_pos h60] at hM
        refine lv_iload_n hx hb d_M_step_107 rfl (lv_at hl 2 rfl) ?_
        have e9 := Prod.mk.inj (Option.some.inj hM)
        exact W.iret (v := v2) hx hb hr (fun t ht hW => ⟨⟨v2, σ, rfl, e9, by rw [ht]; exact hP, va_K.moved hW.alike hK, hD⟩, hS.F ht⟩) hS.2.2 d_M_step_108
      · rw [if_neg h60] at hM
        refine lv_aload_n hx hb d_M_step_63 rfl (lv_at hl 0 rfl) ?_
        refine va_get (D := (dC, dI)) (ci := 7) (v := .int ((σ 0).1 4)) (C := R_M) (T := F_M) (N := 33) hx hb htb in_M hown hK hP 0 (g_M) rfl 7 (by decide) (htb _ k_626) (fun _ h9 => h9) rfl d_M_step_64 ?_
        refine lv_iconst (v := 1) hx hb d_M_step_67 (by decide) ?_
        refine lv_icmp_ne (tgt := 81) hx hb d_M_step_68 (by decide) (fun h68 => ?_) (fun h68 => ?_)
        · rw [if_neg h68] at hM
          refine lv_aload_n hx hb d_M_step_81 rfl (lv_at hl 0 rfl) ?_
          have hF1 := free_all hD hS hA
          obtain ⟨x82, y82, hq82, hM⟩ := bI_some hM
          refine va_calli (va_runV (As := []) (rest := []) ⟨hx, hb, hml, hown, hts⟩ (c_M_merge l dC dI ad cs _ N σ hq82) (cwV 0 hts (goodV k_799 k_801 ks_M_merge k_8 k_802) rfl rfl rfl ⟨rfl, by decide, by decide, by decide +kernel⟩ ⟨Nat.le_of_ble_eq_true rfl, Nat.le_of_ble_eq_true rfl⟩) ⟨blindM, va_recv hK hP rfl (g_M), payM hP hK hD hN⟩ rfl rfl hl.1 rfl (lv_room (Nat.le_of_ble_eq_true rfl)) d_M_step_82 ⟨Nat.zero_le _, Nat.zero_le _⟩) hS (fun q _ h => hF1 q h) hF1 (fun r82 σ82 t H locs ht hvm hpost hB hz1 hk1 hS => ?_)
          obtain ⟨e1, e2⟩ := hpost
          subst e1
          subst e2
          obtain ⟨hP1, hK1, hD1⟩ := hB
          rw [ht] at hP1
          have hP := hP1
          have hD := hD1.weaken (fun _ _ _ h => hF1 _ h)
          refine lv_if_ne (tgt := 100) hx hb d_M_step_85 (by decide) (fun h85 => ?_) (fun h85 => ?_)
          · rw [if_neg h85] at hM
            refine lv_iload_n hx hb d_M_step_100 rfl (lv_at hl 2 rfl) ?_
            refine lv_iconst (v := 1) hx hb d_M_step_101 (by decide) ?_
            refine lv_iadd hx hb d_M_step_102 ?_
            refine lv_istore_n hx hb d_M_step_103 rfl hl (by decide) (lv' := [(2, .int (v2 + 1)), (0, .ref (ad 0 0)), (1, .int v1)]) rfl (fun ls hl => ?_)
            refine lv_goto (tgt := 50) hx hb d_M_step_104 (by decide) ?_
            exact K50 _ _ _ _ ⟨σ82, v1, (v2 + 1), rfl, hM, lv_sub hl [1, 2, 0] rfl, hP, hD, hS⟩
          · rw [if_pos h85] at hM
            exact K88 _ _ _ _ ⟨σ82, v2, rfl, hM, lv_sub hl [0, 2] rfl, hP, hD, hS⟩
        · rw [if_pos h68] at hM
          refine lv_aload_n hx hb d_M_step_71 rfl (lv_at hl 0 rfl) ?_
          have hF1 := free_all hD hS hA
          obtain ⟨x72, y72, hq72, hM⟩ := bI_some hM
          refine va_calli (va_runV (As := []) (rest := []) ⟨hx, hb, hml, hown, hts⟩ (c_M_lay l dC dI ad cs _ N σ hq72) (cwV 0 hts (goodV k_763 k_765 ks_M_lay k_8 k_766) rfl rfl rfl ⟨rfl, by decide, by decide, by decide +kernel⟩ ⟨Nat.le_of_ble_eq_true rfl, Nat.le_of_ble_eq_true rfl⟩) ⟨blindM, va_recv hK hP rfl (g_M), payM hP hK hD hN⟩ rfl rfl hl.1 rfl (lv_room (Nat.le_of_ble_eq_true rfl)) d_M_step_72 ⟨Nat.zero_le _, Nat.zero_le _⟩) hS (fun q _ h => hF1 q h) hF1 (fun r72 σ72 t H locs ht hvm hpost hB hz1 hk1 hS => ?_)
          obtain ⟨e1, e2⟩ := hpost
          subst e1
          subst e2
          obtain ⟨hP1, hK1, hD1⟩ := hB
          rw [ht] at hP1
          have hP := hP1
          have hD := hD1.weaken (fun _ _ _ h => hF1 _ h)
          refine lv_if_eq (tgt := 88) hx hb d_M_step_75 (by decide) (fun h75 => ?_) (fun h75 => ?_)
          · rw [if_pos h75] at hM
            exact K88 _ _ _ _ ⟨σ72, v2, rfl, hM, lv_sub hl [0, 2] rfl, hP, hD, hS⟩
          · rw [if_neg h75] at hM
            refine lv_goto (tgt := 100) hx hb d_M_step_78 (by decide) ?_
            refine lv_iload_n hx hb d_M_step_100 rfl (lv_at hl 2 rfl) ?_
            refine lv_iconst (v := 1) hx hb d_M_step_101 (by decide) ?_
            refine lv_iadd hx hb d_M_step_102 ?_
            refine lv_istore_n hx hb d_M_step_103 rfl hl (by decide) (lv' := [(2, .int (v2 + 1)), (0, .ref (ad 0 0)), (1, .int v1)]) rfl (fun ls hl => ?_)
            refine lv_goto (tgt := 50) hx hb d_M_step_104 (by decide) ?_
            exact K50 _ _ _ _ ⟨σ72, v1, (v2 + 1), rfl, hM, lv_sub hl [1, 2, 0] rfl, hP, hD, hS⟩
  intro K50
  refine W_cut (pc := 36) (fun H locs ls st => ∃ (σ : SX) (v1 : Int32) (s0 : Int32), st = [.int s0, .ref (ad 0 0)] ∧ m_M_step_36 N σ v1 s0 = some (r0, σ0) ∧ lv_has ls 3 [(0, .ref (ad 0 0)), (1, .int v1)] ∧ va_P (dC, dI) classes (wM ad cs σ) H ∧ va_D A (wM ad cs σ) ∧ va_S A s.heap H locs) ?_ ?_
  · intro H locs ls st hI
    obtain ⟨σ, v1, s0, rfl, hM, hl, hP, hD, hS⟩ := hI
    rw [m_M_step_36] at hM
    refine va_put (D := (dC, dI)) (ci := 7) (v := .int s0) (ty := .int) (C := R_M) (T := F_M) (N := 33) hx hb htb in_M ft_M ft_M_ok n_M hown hK hP hD hS 0 (g_M) rfl 0 (by decide) (htb _ k_619) (fun _ h9 => h9) rfl (by decide +kernel) rfl rfl (Nat.le_of_ble_eq_true rfl) d_M_step_36 (fun H locs hP hD hS => ?_)
    have hP := P_eq (s_M_0) hP
    have hD := D_eq (s_M_0) hD
    refine lv_aload_n hx hb d_M_step_39 rfl (lv_at hl 0 rfl) ?_
    refine va_get (D := (dC, dI)) (ci := 7) (v := .int (((w1 σ 0 0 s0) 0).1 0)) (C := R_M) (T := F_M) (N := 33) hx hb htb in_M hown hK hP 0 (g_M) rfl 0 (by decide) (htb _ k_619) (fun _ h9 => h9) rfl d_M_step_40 ?_
    refine lv_if_le (tgt := 48) hx hb d_M_step_43 (by decide) (fun h43 => ?_) (fun h43 => ?_)
    · rw [if_pos h43] at hM
      refine lv_iconst (v := 0) hx hb d_M_step_48 (by decide) ?_
      refine lv_istore_n hx hb d_M_step_49 rfl hl (by decide) (lv' := [(2, .int 0), (0, .ref (ad 0 0)), (1, .int v1)]) rfl (fun ls hl => ?_)
      exact K50 N _ _ _ _ ⟨(w1 σ 0 0 s0), v1, 0, rfl, hM, lv_sub hl [1, 2, 0] rfl, hP, hD, hS⟩
    · rw [if_neg h43] at hM
      refine lv_iconst (v := 0) hx hb d_M_step_46 (by decide) ?_
      have e9 := Prod.mk.inj (Option.some.inj hM)
      exact W.iret (v := 0) hx hb hr (fun t ht hW => ⟨⟨0, (w1 σ 0 0 s0), rfl, e9, by rw [ht]; exact hP, va_K.moved hW.alike hK, hD⟩, hS.F ht⟩) hS.2.2 d_M_step_47
  intro K36
  refine W_cut (pc := 31) (fun H locs ls st => ∃ (σ : SX) (v1 : Int32), st = [.ref (ad 0 0)] ∧ m_M_step_31 N σ v1 = some (r0, σ0) ∧ lv_has ls 3 [(0, .ref (ad 0 0)), (1, .int v1)] ∧ va_P (dC, dI) classes (wM ad cs σ) H ∧ va_D A (wM ad cs σ) ∧ va_S A s.heap H locs) ?_ ?_
  · intro H locs ls st hI
    obtain ⟨σ, v1, rfl, hM, hl, hP, hD, hS⟩ := hI
    rw [m_M_step_31] at hM
    refine lv_iconst (v := 2) hx hb d_M_step_31 (by decide) ?_
    refine lv_goto (tgt := 36) hx hb d_M_step_32 (by decide) ?_
    exact K36 _ _ _ _ ⟨σ, v1, 2, rfl, hM, lv_sub hl [0, 1] rfl, hP, hD, hS⟩
  intro K31
  refine W_cut (pc := 13) (fun H locs ls st => ∃ (σ : SX) (v1 : Int32), st = [.ref (ad 0 0)] ∧ m_M_step_13 N σ v1 = some (r0, σ0) ∧ lv_has ls 3 [(0, .ref (ad 0 0)), (1, .int v1)] ∧ va_P (dC, dI) classes (wM ad cs σ) H ∧ va_D A (wM ad cs σ) ∧ va_S A s.heap H locs) ?_ ?_
  · intro H locs ls st hI
    obtain ⟨σ, v1, rfl, hM, hl, hP, hD, hS⟩ := hI
    rw [m_M_step_13] at hM
    refine lv_iconst (v := 1) hx hb d_M_step_13 (by decide) ?_
    refine lv_goto (tgt := 36) hx hb d_M_step_14 (by decide) ?_
    exact K36 _ _ _ _ ⟨σ, v1, 1, rfl, hM, lv_sub hl [0, 1] rfl, hP, hD, hS⟩
  intro K13
  refine lv_aload_n hx hb d_M_step_0 rfl (lv_at hl 0 rfl) ?_
  refine lv_iload_n hx hb d_M_step_1 rfl (lv_at hl 1 rfl) ?_
  refine lv_iconst (v := 1) hx hb d_M_step_2 (by decide) ?_
  refine lv_icmp_lt (tgt := 13) hx hb d_M_step_3 (by decide) (fun h3 => ?_) (fun h3 => ?_)
  · rw [if_pos h3] at hM
    exact K13 _ _ _ _ ⟨σ, a1, rfl, hM, lv_sub hl [0, 1] rfl, hP, hD, hS⟩
  · rw [if_neg h3] at hM
    refine lv_iload_n hx hb d_M_step_6 rfl (lv_at hl 1 rfl) ?_
    refine lv_sipush (v := 300) hx hb d_M_step_7 (by decide) ?_
    refine lv_icmp_le (tgt := 17) hx hb d_M_step_10 (by decide) (fun h10 => ?_) (fun h10 => ?_)
    · rw [if_pos h10] at hM
      refine lv_aload_n hx hb d_M_step_17 rfl (lv_at hl 0 rfl) ?_
      refine va_get (D := (dC, dI)) (ci := 7) (v := .int ((σ 0).1 4)) (C := R_M) (T := F_M) (N := 33) hx hb htb in_M hown hK hP 0 (g_M) rfl 7 (by decide) (htb _ k_626) (fun _ h9 => h9) rfl d_M_step_18 ?_
      refine lv_if_eq (tgt := 31) hx hb d_M_step_21 (by decide) (fun h21 => ?_) (fun h21 => ?_)
      · rw [if_pos h21] at hM
        exact K31 _ _ _ _ ⟨σ, a1, rfl, hM, lv_sub hl [0, 1] rfl, hP, hD, hS⟩
      · rw [if_neg h21] at hM
        refine lv_aload_n hx hb d_M_step_24 rfl (lv_at hl 0 rfl) ?_
        refine va_get (D := (dC, dI)) (ci := 7) (v := .int ((σ 0).1 5)) (C := R_M) (T := F_M) (N := 33) hx hb htb in_M hown hK hP 0 (g_M) rfl 8 (by decide) (htb _ k_627) (fun _ h9 => h9) rfl d_M_step_25 ?_
        refine lv_if_ne (tgt := 35) hx hb d_M_step_28 (by decide) (fun h28 => ?_) (fun h28 => ?_)
        · rw [if_neg h28] at hM
          refine lv_iconst (v := 0) hx hb d_M_step_35 (by decide) ?_
          exact K36 _ _ _ _ ⟨σ, a1, 0, rfl, hM, lv_sub hl [0, 1] rfl, hP, hD, hS⟩
        · rw [if_pos h28] at hM
          exact K31 _ _ _ _ ⟨σ, a1, rfl, hM, lv_sub hl [0, 1] rfl, hP, hD, hS⟩
    · rw [if_neg h10] at hM
      exact K13 _ _ _ _ ⟨σ, a1, rfl, hM, lv_sub hl [0, 1] rfl, hP, hD, hS⟩
