theorem d_S_cardIn_0 : decode b_S_cardIn 0 = .ok (.iload_n 1, 1) := by decide +kernel
theorem d_S_cardIn_1 : decode b_S_cardIn 1 = .ok (.ifCond .lt 20, 3) := by decide +kernel
theorem d_S_cardIn_4 : decode b_S_cardIn 4 = .ok (.iload_n 1, 1) := by decide +kernel
theorem d_S_cardIn_5 : decode b_S_cardIn 5 = .ok (.aload_n 0, 1) := by decide +kernel
theorem d_S_cardIn_6 : decode b_S_cardIn 6 = .ok (.getfield 19, 3) := by decide +kernel
theorem d_S_cardIn_9 : decode b_S_cardIn 9 = .ok (.if_icmp .ge 12, 3) := by decide +kernel
theorem d_S_cardIn_12 : decode b_S_cardIn 12 = .ok (.aload_n 0, 1) := by decide +kernel
theorem d_S_cardIn_13 : decode b_S_cardIn 13 = .ok (.getfield 9, 3) := by decide +kernel
theorem d_S_cardIn_16 : decode b_S_cardIn 16 = .ok (.iload_n 1, 1) := by decide +kernel
theorem d_S_cardIn_17 : decode b_S_cardIn 17 = .ok (.iaload, 1) := by decide +kernel
theorem d_S_cardIn_18 : decode b_S_cardIn 18 = .ok (.goto 4, 3) := by decide +kernel
theorem d_S_cardIn_21 : decode b_S_cardIn 21 = .ok (.iconst (-1), 1) := by decide +kernel
theorem d_S_cardIn_22 : decode b_S_cardIn 22 = .ok (.ireturn, 1) := by decide +kernel
def m_S_cardIn (N : Nat) (σ : SX) (j : Nat) (a1 : Int32) : Option (Int32 × SX) :=
  (if a1 < 0 then some ((-1), σ) else (if ((σ j).1 1) ≤ a1 then some ((-1), σ) else (if inb a1 8 = true then some (((σ j).2 1 a1.toNatClampNeg), σ) else none)))

set_option maxHeartbeats 4000000 in
set_option maxRecDepth 100000 in
theorem c_S_cardIn (l : Launch) (dC : Nat → ClassId) (dI : Nat → Nat → Nat) (ad : Nat → Nat → Nat) (cs : Nat → ClassId) (sz N : Nat) (σ : SX) (j : Nat) (hj : j = 2 ∨ j = 3) (a1 : Int32) {r0 : Int32} {σ0 : SX} (hM : m_S_cardIn N σ j a1 = some (r0, σ0)) : Met l y_S_cardIn (wd y_S_cardIn b_S_cardIn 2 (some .int)) ({ frames := 0, cells := 0, slots := 0, locals := 0 }) (va_Pc [.ref (ad j 0), .int a1] (preX dC dI ad cs sz σ)) (va_Qi (fun (r : Int32) (_ : Unit) => r = r0 ∧ σ = σ0) (fun _ _ => True) (fun q => sz ≤ q)) 0 0 (fun q => sz ≤ q) := by
  refine Met.ofW (cc := b_S_cardIn) (maxL := 2) (ret := (some .int)) (by decide) rfl ?_
  intro p e s m args below meth c s₁ B hml hv
  obtain ⟨rfl, hsz, hP, hK, hD0, hN⟩ := hv
  have hx := B.exec
  have hb := B.bytes
  have hr := B.returns
  have hts := atoms_spec (ws := (wd y_S_cardIn b_S_cardIn 2 (some .int))) B.pre
  have htb : ∀ w ∈ tb, w.before _ s = true := fun w h => hts w (List.mem_cons_of_mem _ h)
  have hown : s.vm.findClass R_S = some m.cls := findClass_of_methodNamed B.named
  have hlocks := B.notSynchronized
  subst hsz
  have hD := hD0
  have hA : ∀ q : Nat, s.heap.size ≤ q → s.heap.size ≤ q := fun q h => h
  have hS : va_S (fun q => s.heap.size ≤ q) s.heap s.heap [] := va_S.rf
  have hP : va_P (dC, dI) classes (wX ad cs σ) s.heap := hP
  have hl := lv_entry ([.ref (ad j 0), .int a1]) (n := 2) (Nat.le_of_ble_eq_true rfl)
  rw [lg_entry_eq]
  generalize (lg_sl ([.ref (ad j 0), .int a1]) ++ List.replicate (2 - (lg_sl ([.ref (ad j 0), .int a1])).length) Slot.unset).toArray = ls at hl ⊢
  have hl : lv_has ls 2 [(0, .ref (ad j 0)), (1, .int a1)] := hl
  rw [m_S_cardIn] at hM
  refine lv_iload_n hx hb d_S_cardIn_0 rfl (lv_at hl 1 rfl) ?_
  refine lv_if_lt (tgt := 21) hx hb d_S_cardIn_1 (by decide) (fun h1 => ?_) (fun h1 => ?_)
  · rw [if_pos h1] at hM
    refine lv_iconst (v := (-1)) hx hb d_S_cardIn_21 (by decide) ?_
    have e9 := Prod.mk.inj (Option.some.inj hM)
    exact W.iret (v := (-1)) hx hb hr (fun t ht hW => ⟨⟨(-1), (), rfl, e9, trivial⟩, hS.F ht⟩) hS.2.2 d_S_cardIn_22
  · rw [if_neg h1] at hM
    refine lv_iload_n hx hb d_S_cardIn_4 rfl (lv_at hl 1 rfl) ?_
    refine lv_aload_n hx hb d_S_cardIn_5 rfl (lv_at hl 0 rfl) ?_
    refine va_get (D := (dC, dI)) (ci := 2) (v := .int ((σ j).1 1)) (C := R_S) (T := F_S) (N := 5) hx hb htb in_S hown hK hP (3 * j + 1) (g_S hj) rfl 3 (by decide) (htb _ k_110) (fun _ h9 => h9) rfl d_S_cardIn_6 ?_
    refine lv_icmp_ge (tgt := 21) hx hb d_S_cardIn_9 (by decide) (fun h9 => ?_) (fun h9 => ?_)
    · rw [if_pos h9] at hM
      refine lv_iconst (v := (-1)) hx hb d_S_cardIn_21 (by decide) ?_
      have e9 := Prod.mk.inj (Option.some.inj hM)
      exact W.iret (v := (-1)) hx hb hr (fun t ht hW => ⟨⟨(-1), (), rfl, e9, trivial⟩, hS.F ht⟩) hS.2.2 d_S_cardIn_22
    · rw [if_neg h9] at hM
      refine lv_aload_n hx hb d_S_cardIn_12 rfl (lv_at hl 0 rfl) ?_
      refine va_get (D := (dC, dI)) (ci := 2) (v := .ref (ad j 1)) (C := R_S) (T := F_S) (N := 5) hx hb htb in_S hown hK hP (3 * j + 1) (g_S hj) rfl 1 (by decide) (htb _ k_108) (fun _ h9 => h9) rfl d_S_cardIn_13 ?_
      refine lv_iload_n hx hb d_S_cardIn_16 rfl (lv_at hl 1 rfl) ?_
      have hg17 := gd_c hM
      have hM := gd_v hM
      refine va_iald hx hb hK hP (3 * j + 2) 0 (g_S_a1 hj) rfl (inb_in hg17) d_S_cardIn_17 ?_
      refine lv_goto (tgt := 22) hx hb d_S_cardIn_18 (by decide) ?_
      have e9 := Prod.mk.inj (Option.some.inj hM)
      exact W.iret (v := ((σ j).2 1 a1.toNatClampNeg)) hx hb hr (fun t ht hW => ⟨⟨((σ j).2 1 a1.toNatClampNeg), (), rfl, e9, trivial⟩, hS.F ht⟩) hS.2.2 d_S_cardIn_22

theorem d_R_add_0 : decode b_R_add 0 = .ok (.aload_n 0, 1) := by decide +kernel
theorem d_R_add_1 : decode b_R_add 1 = .ok (.getfield 15, 3) := by decide +kernel
theorem d_R_add_4 : decode b_R_add 4 = .ok (.sipush 150, 3) := by decide +kernel
theorem d_R_add_7 : decode b_R_add 7 = .ok (.if_icmp .ge 23, 3) := by decide +kernel
theorem d_R_add_10 : decode b_R_add 10 = .ok (.aload_n 0, 1) := by decide +kernel
theorem d_R_add_11 : decode b_R_add 11 = .ok (.getfield 9, 3) := by decide +kernel
theorem d_R_add_14 : decode b_R_add 14 = .ok (.aload_n 0, 1) := by decide +kernel
theorem d_R_add_15 : decode b_R_add 15 = .ok (.getfield 15, 3) := by decide +kernel
theorem d_R_add_18 : decode b_R_add 18 = .ok (.iload_n 1, 1) := by decide +kernel
theorem d_R_add_19 : decode b_R_add 19 = .ok (.iastore, 1) := by decide +kernel
theorem d_R_add_20 : decode b_R_add 20 = .ok (.aload_n 0, 1) := by decide +kernel
theorem d_R_add_21 : decode b_R_add 21 = .ok (.dup, 1) := by decide +kernel
theorem d_R_add_22 : decode b_R_add 22 = .ok (.getfield 15, 3) := by decide +kernel
theorem d_R_add_25 : decode b_R_add 25 = .ok (.iconst 1, 1) := by decide +kernel
theorem d_R_add_26 : decode b_R_add 26 = .ok (.iadd, 1) := by decide +kernel
theorem d_R_add_27 : decode b_R_add 27 = .ok (.putfield 15, 3) := by decide +kernel
theorem d_R_add_30 : decode b_R_add 30 = .ok (.return_, 1) := by decide +kernel
def m_R_add (N : Nat) (σ : SX) (a1 : Int32) : Option (SX) :=
  (if 150 ≤ ((σ 6).1 0) then some σ else (if inb ((σ 6).1 0) 150 = true then some (w1 (w3 σ 6 1 ((σ 6).1 0) a1) 6 0 ((((w3 σ 6 1 ((σ 6).1 0) a1) 6).1 0) + 1)) else none))

set_option maxHeartbeats 4000000 in
set_option maxRecDepth 100000 in
theorem c_R_add (l : Launch) (dC : Nat → ClassId) (dI : Nat → Nat → Nat) (ad : Nat → Nat → Nat) (cs : Nat → ClassId) (sz N : Nat) (σ : SX) (a1 : Int32) {σ0 : SX} (hM : m_R_add N σ a1 = some σ0) : Met l y_R_add (wd y_R_add b_R_add 2 none) ({ frames := 0, cells := 0, slots := 0, locals := 0 }) (va_Pc [.ref (ad 6 0), .int a1] (preX dC dI ad cs sz σ)) (va_Qv (fun (u : SX) => u = σ0) (atX dC dI ad cs (va_A (wX ad cs σ) sz)) (va_A (wX ad cs σ) sz)) 0 0 (va_A (wX ad cs σ) sz) := by
  refine Met.ofW (cc := b_R_add) (maxL := 2) (ret := none) (by decide) rfl ?_
  intro p e s m args below meth c s₁ B hml hv
  obtain ⟨rfl, hsz, hP, hK, hD0, hN⟩ := hv
  have hx := B.exec
  have hb := B.bytes
  have hr := B.returns
  have hts := atoms_spec (ws := (wd y_R_add b_R_add 2 none)) B.pre
  have htb : ∀ w ∈ tb, w.before _ s = true := fun w h => hts w (List.mem_cons_of_mem _ h)
  have hown : s.vm.findClass R_R = some m.cls := findClass_of_methodNamed B.named
  have hlocks := B.notSynchronized
  subst hsz
  have hD := hD0.self (sz := s.heap.size)
  generalize hAe : va_A (wX ad cs σ) s.heap.size = A at hD ⊢
  have hA : ∀ q : Nat, s.heap.size ≤ q → A q := fun q h => by rw [← hAe]; exact Or.inr h
  have hS : va_S A s.heap s.heap [] := va_S.rf
  have hP : va_P (dC, dI) classes (wX ad cs σ) s.heap := hP
  have hl := lv_entry ([.ref (ad 6 0), .int a1]) (n := 2) (Nat.le_of_ble_eq_true rfl)
  rw [lg_entry_eq]
  generalize (lg_sl ([.ref (ad 6 0), .int a1]) ++ List.replicate (2 - (lg_sl ([.ref (ad 6 0), .int a1])).length) Slot.unset).toArray = ls at hl ⊢
  have hl : lv_has ls 2 [(0, .ref (ad 6 0)), (1, .int a1)] := hl
  rw [m_R_add] at hM
  refine lv_aload_n hx hb d_R_add_0 rfl (lv_at hl 0 rfl) ?_
  refine va_get (D := (dC, dI)) (ci := 5) (v := .int ((σ 6).1 0)) (C := R_R) (T := F_R) (N := 2) hx hb htb in_R hown hK hP 16 (g_R) rfl 1 (by decide) (htb _ k_92) (fun _ h9 => h9) rfl d_R_add_1 ?_
  refine lv_sipush (v := 150) hx hb d_R_add_4 (by decide) ?_
  refine lv_icmp_ge (tgt := 30) hx hb d_R_add_7 (by decide) (fun h7 => ?_) (fun h7 => ?_)
  · rw [if_pos h7] at hM
    have e9 := Option.some.inj hM
    exact W.vret hx hb hr (fun t ht hW => ⟨⟨σ, rfl, e9, by rw [ht]; exact hP, va_K.moved hW.alike hK, hD⟩, hS.F ht⟩) hS.2.2 d_R_add_30
  · rw [if_neg h7] at hM
    refine lv_aload_n hx hb d_R_add_10 rfl (lv_at hl 0 rfl) ?_
    refine va_get (D := (dC, dI)) (ci := 5) (v := .ref (ad 6 1)) (C := R_R) (T := F_R) (N := 2) hx hb htb in_R hown hK hP 16 (g_R) rfl 0 (by decide) (htb _ k_90) (fun _ h9 => h9) rfl d_R_add_11 ?_
    refine lv_aload_n hx hb d_R_add_14 rfl (lv_at hl 0 rfl) ?_
    refine va_get (D := (dC, dI)) (ci := 5) (v := .int ((σ 6).1 0)) (C := R_R) (T := F_R) (N := 2) hx hb htb in_R hown hK hP 16 (g_R) rfl 1 (by decide) (htb _ k_92) (fun _ h9 => h9) rfl d_R_add_15 ?_
    refine lv_iload_n hx hb d_R_add_18 rfl (lv_at hl 1 rfl) ?_
    have hg19 := gd_c hM
    have hM := gd_v hM
    refine va_iast (i := ((σ 6).1 0)) (x := a1) hx hb hK hP hD hS 17 0 (g_R_a1) rfl (inb_in hg19) d_R_add_19 (fun H locs hP hD hS => ?_)
    have hP := P_eq (t_R_1) hP
    have hD := D_eq (t_R_1) hD
    refine lv_aload_n hx hb d_R_add_20 rfl (lv_at hl 0 rfl) ?_
    refine lv_dup hx hb d_R_add_21 rfl ?_
    refine va_get (D := (dC, dI)) (ci := 5) (v := .int (((w3 σ 6 1 ((σ 6).1 0) a1) 6).1 0)) (C := R_R) (T := F_R) (N := 2) hx hb htb in_R hown hK hP 16 (g_R) rfl 1 (by decide) (htb _ k_92) (fun _ h9 => h9) rfl d_R_add_22 ?_
    refine lv_iconst (v := 1) hx hb d_R_add_25 (by decide) ?_
    refine lv_iadd hx hb d_R_add_26 ?_
    refine va_put (D := (dC, dI)) (ci := 5) (v := .int ((((w3 σ 6 1 ((σ 6).1 0) a1) 6).1 0) + 1)) (ty := .int) (C := R_R) (T := F_R) (N := 2) hx hb htb in_R ft_R ft_R_ok n_R hown hK hP hD hS 16 (g_R) rfl 1 (by decide) (htb _ k_92) (fun _ h9 => h9) rfl (by decide +kernel) rfl rfl (Nat.le_of_ble_eq_true rfl) d_R_add_27 (fun H locs hP hD hS => ?_)
    have hP := P_eq (s_R_0) hP
    have hD := D_eq (s_R_0) hD
    have e9 := Option.some.inj hM
    exact W.vret hx hb hr (fun t ht hW => ⟨⟨(w1 (w3 σ 6 1 ((σ 6).1 0) a1) 6 0 ((((w3 σ 6 1 ((σ 6).1 0) a1) 6).1 0) + 1)), rfl, e9, by rw [ht]; exact hP, va_K.moved hW.alike hK, hD⟩, hS.F ht⟩) hS.2.2 d_R_add_30

theorem d_S_replaceCard_0 : decode b_S_replaceCard 0 = .ok (.iload_n 1, 1) := by decide +kernel
theorem d_S_replaceCard_1 : decode b_S_replaceCard 1 = .ok (.ifCond .lt 11, 3) := by decide +kernel
theorem d_S_replaceCard_4 : decode b_S_replaceCard 4 = .ok (.iload_n 1, 1) := by decide +kernel
theorem d_S_replaceCard_5 : decode b_S_replaceCard 5 = .ok (.aload_n 0, 1) := by decide +kernel
theorem d_S_replaceCard_6 : decode b_S_replaceCard 6 = .ok (.getfield 19, 3) := by decide +kernel
theorem d_S_replaceCard_9 : decode b_S_replaceCard 9 = .ok (.if_icmp .lt 4, 3) := by decide +kernel
theorem d_S_replaceCard_12 : decode b_S_replaceCard 12 = .ok (.return_, 1) := by decide +kernel
theorem d_S_replaceCard_13 : decode b_S_replaceCard 13 = .ok (.aload_n 2, 1) := by decide +kernel
theorem d_S_replaceCard_14 : decode b_S_replaceCard 14 = .ok (.aload_n 0, 1) := by decide +kernel
theorem d_S_replaceCard_15 : decode b_S_replaceCard 15 = .ok (.getfield 23, 3) := by decide +kernel
theorem d_S_replaceCard_18 : decode b_S_replaceCard 18 = .ok (.invokevirtual 45, 3) := by decide +kernel
theorem d_S_replaceCard_21 : decode b_S_replaceCard 21 = .ok (.ifCond .eq 46, 3) := by decide +kernel
theorem d_S_replaceCard_24 : decode b_S_replaceCard 24 = .ok (.aload_n 0, 1) := by decide +kernel
theorem d_S_replaceCard_25 : decode b_S_replaceCard 25 = .ok (.getfield 15, 3) := by decide +kernel
theorem d_S_replaceCard_28 : decode b_S_replaceCard 28 = .ok (.iload_n 1, 1) := by decide +kernel
theorem d_S_replaceCard_29 : decode b_S_replaceCard 29 = .ok (.aload_n 2, 1) := by decide +kernel
theorem d_S_replaceCard_30 : decode b_S_replaceCard 30 = .ok (.aload_n 0, 1) := by decide +kernel
theorem d_S_replaceCard_31 : decode b_S_replaceCard 31 = .ok (.getfield 23, 3) := by decide +kernel
theorem d_S_replaceCard_34 : decode b_S_replaceCard 34 = .ok (.aload_n 0, 1) := by decide +kernel
theorem d_S_replaceCard_35 : decode b_S_replaceCard 35 = .ok (.getfield 9, 3) := by decide +kernel
theorem d_S_replaceCard_38 : decode b_S_replaceCard 38 = .ok (.iload_n 1, 1) := by decide +kernel
theorem d_S_replaceCard_39 : decode b_S_replaceCard 39 = .ok (.iaload, 1) := by decide +kernel
theorem d_S_replaceCard_40 : decode b_S_replaceCard 40 = .ok (.invokevirtual 41, 3) := by decide +kernel
theorem d_S_replaceCard_43 : decode b_S_replaceCard 43 = .ok (.bastore, 1) := by decide +kernel
theorem d_S_replaceCard_44 : decode b_S_replaceCard 44 = .ok (.aload_n 0, 1) := by decide +kernel
theorem d_S_replaceCard_45 : decode b_S_replaceCard 45 = .ok (.getfield 9, 3) := by decide +kernel
theorem d_S_replaceCard_48 : decode b_S_replaceCard 48 = .ok (.iload_n 1, 1) := by decide +kernel
theorem d_S_replaceCard_49 : decode b_S_replaceCard 49 = .ok (.aload_n 0, 1) := by decide +kernel
theorem d_S_replaceCard_50 : decode b_S_replaceCard 50 = .ok (.getfield 23, 3) := by decide +kernel
theorem d_S_replaceCard_53 : decode b_S_replaceCard 53 = .ok (.iastore, 1) := by decide +kernel
theorem d_S_replaceCard_54 : decode b_S_replaceCard 54 = .ok (.aload_n 0, 1) := by decide +kernel
theorem d_S_replaceCard_55 : decode b_S_replaceCard 55 = .ok (.dup, 1) := by decide +kernel
theorem d_S_replaceCard_56 : decode b_S_replaceCard 56 = .ok (.getfield 23, 3) := by decide +kernel
theorem d_S_replaceCard_59 : decode b_S_replaceCard 59 = .ok (.iconst 1, 1) := by decide +kernel
theorem d_S_replaceCard_60 : decode b_S_replaceCard 60 = .ok (.iadd, 1) := by decide +kernel
theorem d_S_replaceCard_61 : decode b_S_replaceCard 61 = .ok (.putfield 23, 3) := by decide +kernel
theorem d_S_replaceCard_64 : decode b_S_replaceCard 64 = .ok (.goto 43, 3) := by decide +kernel
theorem d_S_replaceCard_67 : decode b_S_replaceCard 67 = .ok (.aload_n 0, 1) := by decide +kernel
theorem d_S_replaceCard_68 : decode b_S_replaceCard 68 = .ok (.dup, 1) := by decide +kernel
theorem d_S_replaceCard_69 : decode b_S_replaceCard 69 = .ok (.getfield 19, 3) := by decide +kernel
theorem d_S_replaceCard_72 : decode b_S_replaceCard 72 = .ok (.iconst 1, 1) := by decide +kernel
theorem d_S_replaceCard_73 : decode b_S_replaceCard 73 = .ok (.isub, 1) := by decide +kernel
theorem d_S_replaceCard_74 : decode b_S_replaceCard 74 = .ok (.putfield 19, 3) := by decide +kernel
theorem d_S_replaceCard_77 : decode b_S_replaceCard 77 = .ok (.aload_n 0, 1) := by decide +kernel
theorem d_S_replaceCard_78 : decode b_S_replaceCard 78 = .ok (.getfield 9, 3) := by decide +kernel
theorem d_S_replaceCard_81 : decode b_S_replaceCard 81 = .ok (.iload_n 1, 1) := by decide +kernel
theorem d_S_replaceCard_82 : decode b_S_replaceCard 82 = .ok (.aload_n 0, 1) := by decide +kernel
theorem d_S_replaceCard_83 : decode b_S_replaceCard 83 = .ok (.getfield 9, 3) := by decide +kernel
theorem d_S_replaceCard_86 : decode b_S_replaceCard 86 = .ok (.aload_n 0, 1) := by decide +kernel
theorem d_S_replaceCard_87 : decode b_S_replaceCard 87 = .ok (.getfield 19, 3) := by decide +kernel
theorem d_S_replaceCard_90 : decode b_S_replaceCard 90 = .ok (.iaload, 1) := by decide +kernel
theorem d_S_replaceCard_91 : decode b_S_replaceCard 91 = .ok (.iastore, 1) := by decide +kernel
theorem d_S_replaceCard_92 : decode b_S_replaceCard 92 = .ok (.aload_n 0, 1) := by decide +kernel
theorem d_S_replaceCard_93 : decode b_S_replaceCard 93 = .ok (.getfield 15, 3) := by decide +kernel
theorem d_S_replaceCard_96 : decode b_S_replaceCard 96 = .ok (.iload_n 1, 1) := by decide +kernel
theorem d_S_replaceCard_97 : decode b_S_replaceCard 97 = .ok (.aload_n 0, 1) := by decide +kernel
theorem d_S_replaceCard_98 : decode b_S_replaceCard 98 = .ok (.getfield 15, 3) := by decide +kernel
theorem d_S_replaceCard_101 : decode b_S_replaceCard 101 = .ok (.aload_n 0, 1) := by decide +kernel
theorem d_S_replaceCard_102 : decode b_S_replaceCard 102 = .ok (.getfield 19, 3) := by decide +kernel
theorem d_S_replaceCard_105 : decode b_S_replaceCard 105 = .ok (.baload, 1) := by decide +kernel
theorem d_S_replaceCard_106 : decode b_S_replaceCard 106 = .ok (.bastore, 1) := by decide +kernel
theorem d_S_replaceCard_107 : decode b_S_replaceCard 107 = .ok (.return_, 1) := by decide +kernel
def m_S_replaceCard (N : Nat) (σ : SX) (j : Nat) (a1 : Int32) : Option (SX) :=
  (if a1 < 0 then some σ else (if a1 < ((σ j).1 1) then (bI (m_D_hasCard N σ ((σ j).1 2)) fun r18 σ18 => (if r18 = 0 then (if inb (((w1 σ j 1 (((σ j).1 1) - 1)) j).1 1) 8 = true then (if inb a1 8 = true then (if inb (((w3 (w1 σ j 1 (((σ j).1 1) - 1)) j 1 a1 (((w1 σ j 1 (((σ j).1 1) - 1)) j).2 1 (((w1 σ j 1 (((σ j).1 1) - 1)) j).1 1).toNatClampNeg)) j).1 1) 8 = true then (if inb a1 8 = true then some (w3 (w3 (w1 σ j 1 (((σ j).1 1) - 1)) j 1 a1 (((w1 σ j 1 (((σ j).1 1) - 1)) j).2 1 (((w1 σ j 1 (((σ j).1 1) - 1)) j).1 1).toNatClampNeg)) j 2 a1 (vp_nar .boolean (((w3 (w1 σ j 1 (((σ j).1 1) - 1)) j 1 a1 (((w1 σ j 1 (((σ j).1 1) - 1)) j).2 1 (((w1 σ j 1 (((σ j).1 1) - 1)) j).1 1).toNatClampNeg)) j).2 2 (((w3 (w1 σ j 1 (((σ j).1 1) - 1)) j 1 a1 (((w1 σ j 1 (((σ j).1 1) - 1)) j).2 1 (((w1 σ j 1 (((σ j).1 1) - 1)) j).1 1).toNatClampNeg)) j).1 1).toNatClampNeg))) else none) else none) else none) else none) else (if inb a1 8 = true then (bI (m_D_comesBefore N σ ((σ j).1 2) ((σ j).2 1 a1.toNatClampNeg)) fun r40 σ40 => (if inb a1 8 = true then (if inb a1 8 = true then some (w1 (w3 (w3 σ j 2 a1 (vp_nar .boolean r40)) j 1 a1 (((w3 σ j 2 a1 (vp_nar .boolean r40)) j).1 2)) j 2 ((((w3 (w3 σ j 2 a1 (vp_nar .boolean r40)) j 1 a1 (((w3 σ j 2 a1 (vp_nar .boolean r40)) j).1 2)) j).1 2) + 1)) else none) else none)) else none))) else some σ))

set_option maxHeartbeats 4000000 in
set_option maxRecDepth 100000 in
theorem c_S_replaceCard (l : Launch) (dC : Nat → ClassId) (dI : Nat → Nat → Nat) (ad : Nat → Nat → Nat) (cs : Nat → ClassId) (sz N : Nat) (σ : SX) (j : Nat) (hj : j = 2 ∨ j = 3) (a1 : Int32) {σ0 : SX} (hM : m_S_replaceCard N σ j a1 = some σ0) : Met l y_S_replaceCard (wd y_S_replaceCard b_S_replaceCard 3 none) ({ frames := 3, cells := 0, slots := 0, locals := 70 }) (va_Pc [.ref (ad j 0), .int a1, .ref (ad 1 0)] (preX dC dI ad cs sz σ)) (va_Qv (fun (u : SX) => u = σ0) (atX dC dI ad cs (va_A (wX ad cs σ) sz)) (va_A (wX ad cs σ) sz)) 0 0 (va_A (wX ad cs σ) sz) := by
  refine Met.ofW (cc := b_S_replaceCard) (maxL := 3) (ret := none) (by decide) rfl ?_
  intro p e s m args below meth c s₁ B hml hv
  obtain ⟨rfl, hsz, hP, hK, hD0, hN⟩ := hv
  have hx := B.exec
  have hb := B.bytes
  have hr := B.returns
  have hts := atoms_spec (ws := (wd y_S_replaceCard b_S_replaceCard 3 none)) B.pre
  have htb : ∀ w ∈ tb, w.before _ s = true := fun w h => hts w (List.mem_cons_of_mem _ h)
  have hown : s.vm.findClass R_S = some m.cls := findClass_of_methodNamed B.named
  have hlocks := B.notSynchronized
  subst hsz
  have hD := hD0.self (sz := s.heap.size)
  generalize hAe : va_A (wX ad cs σ) s.heap.size = A at hD ⊢
  have hA : ∀ q : Nat, s.heap.size ≤ q → A q := fun q h => by rw [← hAe]; exact Or.inr h
  have hS : va_S A s.heap s.heap [] := va_S.rf
  have hP : va_P (dC, dI) classes (wX ad cs σ) s.heap := hP
  have hl := lv_entry ([.ref (ad j 0), .int a1, .ref (ad 1 0)]) (n := 3) (Nat.le_of_ble_eq_true rfl)
  rw [lg_entry_eq]
  generalize (lg_sl ([.ref (ad j 0), .int a1, .ref (ad 1 0)]) ++ List.replicate (3 - (lg_sl ([.ref (ad j 0), .int a1, .ref (ad 1 0)])).length) Slot.unset).toArray = ls at hl ⊢
  have hl : lv_has ls 3 [(0, .ref (ad j 0)), (1, .int a1), (2, .ref (ad 1 0))] := hl
  rw [m_S_replaceCard] at hM
  refine lv_iload_n hx hb d_S_replaceCard_0 rfl (lv_at hl 1 rfl) ?_
  refine lv_if_lt (tgt := 12) hx hb d_S_replaceCard_1 (by decide) (fun h1 => ?_) (fun h1 => ?_)
  · rw [if_pos h1] at hM
    have e9 := Option.some.inj hM
    exact W.vret hx hb hr (fun t ht hW => ⟨⟨σ, rfl, e9, by rw [ht]; exact hP, va_K.moved hW.alike hK, hD⟩, hS.F ht⟩) hS.2.2 d_S_replaceCard_12
  · rw [if_neg h1] at hM
    refine lv_iload_n hx hb d_S_replaceCard_4 rfl (lv_at hl 1 rfl) ?_
    refine lv_aload_n hx hb d_S_replaceCard_5 rfl (lv_at hl 0 rfl) ?_
    refine va_get (D := (dC, dI)) (ci := 2) (v := .int ((σ j).1 1)) (C := R_S) (T := F_S) (N := 5) hx hb htb in_S hown hK hP (3 * j + 1) (g_S hj) rfl 3 (by decide) (htb _ k_110) (fun _ h9 => h9) rfl d_S_replaceCard_6 ?_
    refine lv_icmp_lt (tgt := 13) hx hb d_S_replaceCard_9 (by decide) (fun h9 => ?_) (fun h9 => ?_)
    · rw [if_pos h9] at hM
      refine lv_aload_n hx hb d_S_replaceCard_13 rfl (lv_at hl 2 rfl) ?_
      refine lv_aload_n hx hb d_S_replaceCard_14 rfl (lv_at hl 0 rfl) ?_
      refine va_get (D := (dC, dI)) (ci := 2) (v := .int ((σ j).1 2)) (C := R_S) (T := F_S) (N := 5) hx hb htb in_S hown hK hP (3 * j + 1) (g_S hj) rfl 4 (by decide) (htb _ k_111) (fun _ h9 => h9) rfl d_S_replaceCard_15 ?_
      obtain ⟨x18, y18, hq18, hM⟩ := bI_some hM
      refine va_calli (va_runV (As := [.int ((σ j).1 2)]) (rest := []) ⟨hx, hb, hml, hown, hts⟩ (c_D_hasCard l dC dI ad cs _ N σ ((σ j).1 2) hq18) (cwV 1 hts (goodV k_524 k_314 k_315 k_2 k_316) rfl rfl rfl ⟨rfl, by decide, by decide, by decide +kernel⟩ ⟨Nat.le_of_ble_eq_true rfl, Nat.le_of_ble_eq_true rfl⟩) ⟨blindX, va_recv hK hP rfl (g_D), payX hP hK hD hN⟩ rfl rfl hl.1 rfl (lv_room (Nat.le_of_ble_eq_true rfl)) d_S_replaceCard_18 ⟨Nat.zero_le _, Nat.zero_le _⟩) hS (fun q h0 h => absurd h0 (Nat.not_lt.mpr h)) (fun q h => hA q (Nat.le_trans hS.1 h)) (fun r18 u t H locs ht hvm hpost hB hz1 hk1 hS => ?_)
      obtain ⟨e1, e2⟩ := hpost
      subst e1
      subst e2
      have hP := keepP hP hk1
      refine lv_if_eq (tgt := 67) hx hb d_S_replaceCard_21 (by decide) (fun h21 => ?_) (fun h21 => ?_)
      · rw [if_pos h21] at hM
        refine lv_aload_n hx hb d_S_replaceCard_67 rfl (lv_at hl 0 rfl) ?_
        refine lv_dup hx hb d_S_replaceCard_68 rfl ?_
        refine va_get (D := (dC, dI)) (ci := 2) (v := .int ((σ j).1 1)) (C := R_S) (T := F_S) (N := 5) hx hb htb in_S hown hK hP (3 * j + 1) (g_S hj) rfl 3 (by decide) (htb _ k_110) (fun _ h9 => h9) rfl d_S_replaceCard_69 ?_
        refine lv_iconst (v := 1) hx hb d_S_replaceCard_72 (by decide) ?_
        refine lv_isub hx hb d_S_replaceCard_73 ?_
        refine va_put (D := (dC, dI)) (ci := 2) (v := .int (((σ j).1 1) - 1)) (ty := .int) (C := R_S) (T := F_S) (N := 5) hx hb htb in_S ft_S ft_S_ok n_S hown hK hP hD hS (3 * j + 1) (g_S hj) rfl 3 (by decide) (htb _ k_110) (fun _ h9 => h9) rfl (by decide +kernel) rfl rfl (Nat.le_of_ble_eq_true rfl) d_S_replaceCard_74 (fun H locs hP hD hS => ?_)
        have hP := P_eq (s_S_1 hj) hP
        have hD := D_eq (s_S_1 hj) hD
        refine lv_aload_n hx hb d_S_replaceCard_77 rfl (lv_at hl 0 rfl) ?_
        refine va_get (D := (dC, dI)) (ci := 2) (v := .ref (ad j 1)) (C := R_S) (T := F_S) (N := 5) hx hb htb in_S hown hK hP (3 * j + 1) (g_S hj) rfl 1 (by decide) (htb _ k_108) (fun _ h9 => h9) rfl d_S_replaceCard_78 ?_
        refine lv_iload_n hx hb d_S_replaceCard_81 rfl (lv_at hl 1 rfl) ?_
        refine lv_aload_n hx hb d_S_replaceCard_82 rfl (lv_at hl 0 rfl) ?_
        refine va_get (D := (dC, dI)) (ci := 2) (v := .ref (ad j 1)) (C := R_S) (T := F_S) (N := 5) hx hb htb in_S hown hK hP (3 * j + 1) (g_S hj) rfl 1 (by decide) (htb _ k_108) (fun _ h9 => h9) rfl d_S_replaceCard_83 ?_
        refine lv_aload_n hx hb d_S_replaceCard_86 rfl (lv_at hl 0 rfl) ?_
        refine va_get (D := (dC, dI)) (ci := 2) (v := .int (((w1 σ j 1 (((σ j).1 1) - 1)) j).1 1)) (C := R_S) (T := F_S) (N := 5) hx hb htb in_S hown hK hP (3 * j + 1) (g_S hj) rfl 3 (by decide) (htb _ k_110) (fun _ h9 => h9) rfl d_S_replaceCard_87 ?_
        have hg90 := gd_c hM
        have hM := gd_v hM
        refine va_iald hx hb hK hP (3 * j + 2) 0 (g_S_a1 hj) rfl (inb_in hg90) d_S_replaceCard_90 ?_
        have hg91 := gd_c hM
        have hM := gd_v hM
        refine va_iast (i := a1) (x := (((w1 σ j 1 (((σ j).1 1) - 1)) j).2 1 (((w1 σ j 1 (((σ j).1 1) - 1)) j).1 1).toNatClampNeg)) hx hb hK hP hD hS (3 * j + 2) 0 (g_S_a1 hj) rfl (inb_in hg91) d_S_replaceCard_91 (fun H locs hP hD hS => ?_)
        have hP := P_eq (t_S_1 hj) hP
        have hD := D_eq (t_S_1 hj) hD
        refine lv_aload_n hx hb d_S_replaceCard_92 rfl (lv_at hl 0 rfl) ?_
        refine va_get (D := (dC, dI)) (ci := 2) (v := .ref (ad j 2)) (C := R_S) (T := F_S) (N := 5) hx hb htb in_S hown hK hP (3 * j + 1) (g_S hj) rfl 2 (by decide) (htb _ k_109) (fun _ h9 => h9) rfl d_S_replaceCard_93 ?_
        refine lv_iload_n hx hb d_S_replaceCard_96 rfl (lv_at hl 1 rfl) ?_
        refine lv_aload_n hx hb d_S_replaceCard_97 rfl (lv_at hl 0 rfl) ?_
        refine va_get (D := (dC, dI)) (ci := 2) (v := .ref (ad j 2)) (C := R_S) (T := F_S) (N := 5) hx hb htb in_S hown hK hP (3 * j + 1) (g_S hj) rfl 2 (by decide) (htb _ k_109) (fun _ h9 => h9) rfl d_S_replaceCard_98 ?_
        refine lv_aload_n hx hb d_S_replaceCard_101 rfl (lv_at hl 0 rfl) ?_
        refine va_get (D := (dC, dI)) (ci := 2) (v := .int (((w3 (w1 σ j 1 (((σ j).1 1) - 1)) j 1 a1 (((w1 σ j 1 (((σ j).1 1) - 1)) j).2 1 (((w1 σ j 1 (((σ j).1 1) - 1)) j).1 1).toNatClampNeg)) j).1 1)) (C := R_S) (T := F_S) (N := 5) hx hb htb in_S hown hK hP (3 * j + 1) (g_S hj) rfl 3 (by decide) (htb _ k_110) (fun _ h9 => h9) rfl d_S_replaceCard_102 ?_
        have hg105 := gd_c hM
        have hM := gd_v hM
        refine va_zald hx hb hK hP (3 * j + 3) 1 (g_S_a2 hj) rfl (inb_in hg105) d_S_replaceCard_105 ?_
        have hg106 := gd_c hM
        have hM := gd_v hM
        refine va_zast (i := a1) (x := (((w3 (w1 σ j 1 (((σ j).1 1) - 1)) j 1 a1 (((w1 σ j 1 (((σ j).1 1) - 1)) j).2 1 (((w1 σ j 1 (((σ j).1 1) - 1)) j).1 1).toNatClampNeg)) j).2 2 (((w3 (w1 σ j 1 (((σ j).1 1) - 1)) j 1 a1 (((w1 σ j 1 (((σ j).1 1) - 1)) j).2 1 (((w1 σ j 1 (((σ j).1 1) - 1)) j).1 1).toNatClampNeg)) j).1 1).toNatClampNeg)) hx hb hK hP hD hS (3 * j + 3) 1 (g_S_a2 hj) rfl (inb_in hg106) d_S_replaceCard_106 (fun H locs hP hD hS => ?_)
        have hP := P_eq (t_S_2 hj) hP
        have hD := D_eq (t_S_2 hj) hD
        have e9 := Option.some.inj hM
        exact W.vret hx hb hr (fun t ht hW => ⟨⟨(w3 (w3 (w1 σ j 1 (((σ j).1 1) - 1)) j 1 a1 (((w1 σ j 1 (((σ j).1 1) - 1)) j).2 1 (((w1 σ j 1 (((σ j).1 1) - 1)) j).1 1).toNatClampNeg)) j 2 a1 (vp_nar .boolean (((w3 (w1 σ j 1 (((σ j).1 1) - 1)) j 1 a1 (((w1 σ j 1 (((σ j).1 1) - 1)) j).2 1 (((w1 σ j 1 (((σ j).1 1) - 1)) j).1 1).toNatClampNeg)) j).2 2 (((w3 (w1 σ j 1 (((σ j).1 1) - 1)) j 1 a1 (((w1 σ j 1 (((σ j).1 1) - 1)) j).2 1 (((w1 σ j 1 (((σ j).1 1) - 1)) j).1 1).toNatClampNeg)) j).1 1).toNatClampNeg))), rfl, e9, by rw [ht]; exact hP, va_K.moved hW.alike hK, hD⟩, hS.F ht⟩) hS.2.2 d_S_replaceCard_107
      · rw [if_neg h21] at hM
        refine lv_aload_n hx hb d_S_replaceCard_24 rfl (lv_at hl 0 rfl) ?_
        refine va_get (D := (dC, dI)) (ci := 2) (v := .ref (ad j 2)) (C := R_S) (T := F_S) (N := 5) hx hb htb in_S hown hK hP (3 * j + 1) (g_S hj) rfl 2 (by decide) (htb _ k_109) (fun _ h9 => h9) rfl d_S_replaceCard_25 ?_
        refine lv_iload_n hx hb d_S_replaceCard_28 rfl (lv_at hl 1 rfl) ?_
        refine lv_aload_n hx hb d_S_replaceCard_29 rfl (lv_at hl 2 rfl) ?_
        refine lv_aload_n hx hb d_S_replaceCard_30 rfl (lv_at hl 0 rfl) ?_
        refine va_get (D := (dC, dI)) (ci := 2) (v := .int ((σ j).1 2)) (C := R_S) (T := F_S) (N := 5) hx hb htb in_S hown hK hP (3 * j + 1) (g_S hj) rfl 4 (by decide) (htb _ k_111) (fun _ h9 => h9) rfl d_S_replaceCard_31 ?_
        refine lv_aload_n hx hb d_S_replaceCard_34 rfl (lv_at hl 0 rfl) ?_
        refine va_get (D := (dC, dI)) (ci := 2) (v := .ref (ad j 1)) (C := R_S) (T := F_S) (N := 5) hx hb htb in_S hown hK hP (3 * j + 1) (g_S hj) rfl 1 (by decide) (htb _ k_108) (fun _ h9 => h9) rfl d_S_replaceCard_35 ?_
        refine lv_iload_n hx hb d_S_replaceCard_38 rfl (lv_at hl 1 rfl) ?_
        have hg39 := gd_c hM
        have hM := gd_v hM
        refine va_iald hx hb hK hP (3 * j + 2) 0 (g_S_a1 hj) rfl (inb_in hg39) d_S_replaceCard_39 ?_
        obtain ⟨x40, y40, hq40, hM⟩ := bI_some hM
        refine va_calli (va_runV (As := [.int ((σ j).1 2), .int ((σ j).2 1 a1.toNatClampNeg)]) (rest := [.int a1, .ref (ad j 2)]) ⟨hx, hb, hml, hown, hts⟩ (c_D_comesBefore l dC dI ad cs _ N σ ((σ j).1 2) ((σ j).2 1 a1.toNatClampNeg) hq40) (cwV 2 hts (goodV k_507 k_318 k_319 k_2 k_320) rfl rfl rfl ⟨rfl, by decide, by decide, by decide +kernel⟩ ⟨Nat.le_of_ble_eq_true rfl, Nat.le_of_ble_eq_true rfl⟩) ⟨blindX, va_recv hK hP rfl (g_D), payX hP hK hD hN⟩ rfl rfl hl.1 rfl (lv_room (Nat.le_of_ble_eq_true rfl)) d_S_replaceCard_40 ⟨Nat.zero_le _, Nat.zero_le _⟩) hS (fun q h0 h => absurd h0 (Nat.not_lt.mpr h)) (fun q h => hA q (Nat.le_trans hS.1 h)) (fun r40 u t H locs ht hvm hpost hB hz1 hk1 hS => ?_)
        obtain ⟨e1, e2⟩ := hpost
        subst e1
        subst e2
        have hP := keepP hP hk1
        have hg43 := gd_c hM
        have hM := gd_v hM
        refine va_zast (i := a1) (x := r40) hx hb hK hP hD hS (3 * j + 3) 1 (g_S_a2 hj) rfl (inb_in hg43) d_S_replaceCard_43 (fun H locs hP hD hS => ?_)
        have hP := P_eq (t_S_2 hj) hP
        have hD := D_eq (t_S_2 hj) hD
        refine lv_aload_n hx hb d_S_replaceCard_44 rfl (lv_at hl 0 rfl) ?_
        refine va_get (D := (dC, dI)) (ci := 2) (v := .ref (ad j 1)) (C := R_S) (T := F_S) (N := 5) hx hb htb in_S hown hK hP (3 * j + 1) (g_S hj) rfl 1 (by decide) (htb _ k_108) (fun _ h9 => h9) rfl d_S_replaceCard_45 ?_
        refine lv_iload_n hx hb d_S_replaceCard_48 rfl (lv_at hl 1 rfl) ?_
        refine lv_aload_n hx hb d_S_replaceCard_49 rfl (lv_at hl 0 rfl) ?_
        refine va_get (D := (dC, dI)) (ci := 2) (v := .int (((w3 σ j 2 a1 (vp_nar .boolean r40)) j).1 2)) (C := R_S) (T := F_S) (N := 5) hx hb htb in_S hown hK hP (3 * j + 1) (g_S hj) rfl 4 (by decide) (htb _ k_111) (fun _ h9 => h9) rfl d_S_replaceCard_50 ?_
        have hg53 := gd_c hM
        have hM := gd_v hM
        refine va_iast (i := a1) (x := (((w3 σ j 2 a1 (vp_nar .boolean r40)) j).1 2)) hx hb hK hP hD hS (3 * j + 2) 0 (g_S_a1 hj) rfl (inb_in hg53) d_S_replaceCard_53 (fun H locs hP hD hS => ?_)
        have hP := P_eq (t_S_1 hj) hP
        have hD := D_eq (t_S_1 hj) hD
        refine lv_aload_n hx hb d_S_replaceCard_54 rfl (lv_at hl 0 rfl) ?_
        refine lv_dup hx hb d_S_replaceCard_55 rfl ?_
        refine va_get (D := (dC, dI)) (ci := 2) (v := .int (((w3 (w3 σ j 2 a1 (vp_nar .boolean r40)) j 1 a1 (((w3 σ j 2 a1 (vp_nar .boolean r40)) j).1 2)) j).1 2)) (C := R_S) (T := F_S) (N := 5) hx hb htb in_S hown hK hP (3 * j + 1) (g_S hj) rfl 4 (by decide) (htb _ k_111) (fun _ h9 => h9) rfl d_S_replaceCard_56 ?_
        refine lv_iconst (v := 1) hx hb d_S_replaceCard_59 (by decide) ?_
        refine lv_iadd hx hb d_S_replaceCard_60 ?_
        refine va_put (D := (dC, dI)) (ci := 2) (v := .int ((((w3 (w3 σ j 2 a1 (vp_nar .boolean r40)) j 1 a1 (((w3 σ j 2 a1 (vp_nar .boolean r40)) j).1 2)) j).1 2) + 1)) (ty := .int) (C := R_S) (T := F_S) (N := 5) hx hb htb in_S ft_S ft_S_ok n_S hown hK hP hD hS (3 * j + 1) (g_S hj) rfl 4 (by decide) (htb _ k_111) (fun _ h9 => h9) rfl (by decide +kernel) rfl rfl (Nat.le_of_ble_eq_true rfl) d_S_replaceCard_61 (fun H locs hP hD hS => ?_)
        have hP := P_eq (s_S_2 hj) hP
        have hD := D_eq (s_S_2 hj) hD
        refine lv_goto (tgt := 107) hx hb d_S_replaceCard_64 (by decide) ?_
        have e9 := Option.some.inj hM
        exact W.vret hx hb hr (fun t ht hW => ⟨⟨(w1 (w3 (w3 σ j 2 a1 (vp_nar .boolean r40)) j 1 a1 (((w3 σ j 2 a1 (vp_nar .boolean r40)) j).1 2)) j 2 ((((w3 (w3 σ j 2 a1 (vp_nar .boolean r40)) j 1 a1 (((w3 σ j 2 a1 (vp_nar .boolean r40)) j).1 2)) j).1 2) + 1)), rfl, e9, by rw [ht]; exact hP, va_K.moved hW.alike hK, hD⟩, hS.F ht⟩) hS.2.2 d_S_replaceCard_107
    · rw [if_neg h9] at hM
      have e9 := Option.some.inj hM
      exact W.vret hx hb hr (fun t ht hW => ⟨⟨σ, rfl, e9, by rw [ht]; exact hP, va_K.moved hW.alike hK, hD⟩, hS.F ht⟩) hS.2.2 d_S_replaceCard_12

theorem d_R_forgetAll_0 : decode b_R_forgetAll 0 = .ok (.aload_n 0, 1) := by decide +kernel
theorem d_R_forgetAll_1 : decode b_R_forgetAll 1 = .ok (.iconst 0, 1) := by decide +kernel
theorem d_R_forgetAll_2 : decode b_R_forgetAll 2 = .ok (.putfield 15, 3) := by decide +kernel
theorem d_R_forgetAll_5 : decode b_R_forgetAll 5 = .ok (.return_, 1) := by decide +kernel
def m_R_forgetAll (N : Nat) (σ : SX) : Option (SX) :=
  some (w1 σ 6 0 0)

set_option maxHeartbeats 4000000 in
set_option maxRecDepth 100000 in
theorem c_R_forgetAll (l : Launch) (dC : Nat → ClassId) (dI : Nat → Nat → Nat) (ad : Nat → Nat → Nat) (cs : Nat → ClassId) (sz N : Nat) (σ : SX) {σ0 : SX} (hM : m_R_forgetAll N σ = some σ0) : Met l y_R_forgetAll (wd y_R_forgetAll b_R_forgetAll 1 none) ({ frames := 0, cells := 0, slots := 0, locals := 0 }) (va_Pc [.ref (ad 6 0)] (preX dC dI ad cs sz σ)) (va_Qv (fun (u : SX) => u = σ0) (atX dC dI ad cs (va_A (wX ad cs σ) sz)) (va_A (wX ad cs σ) sz)) 0 0 (va_A (wX ad cs σ) sz) := by
  refine Met.ofW (cc := b_R_forgetAll) (maxL := 1) (ret := none) (by decide) rfl ?_
  intro p e s m args below meth c s₁ B hml hv
  obtain ⟨rfl, hsz, hP, hK, hD0, hN⟩ := hv
  have hx := B.exec
  have hb := B.bytes
  have hr := B.returns
  have hts := atoms_spec (ws := (wd y_R_forgetAll b_R_forgetAll 1 none)) B.pre
  have htb : ∀ w ∈ tb, w.before _ s = true := fun w h => hts w (List.mem_cons_of_mem _ h)
  have hown : s.vm.findClass R_R = some m.cls := findClass_of_methodNamed B.named
  have hlocks := B.notSynchronized
  subst hsz
  have hD := hD0.self (sz := s.heap.size)
  generalize hAe : va_A (wX ad cs σ) s.heap.size = A at hD ⊢
  have hA : ∀ q : Nat, s.heap.size ≤ q → A q := fun q h => by rw [← hAe]; exact Or.inr h
  have hS : va_S A s.heap s.heap [] := va_S.rf
  have hP : va_P (dC, dI) classes (wX ad cs σ) s.heap := hP
  have hl := lv_entry ([.ref (ad 6 0)]) (n := 1) (Nat.le_of_ble_eq_true rfl)
  rw [lg_entry_eq]
  generalize (lg_sl ([.ref (ad 6 0)]) ++ List.replicate (1 - (lg_sl ([.ref (ad 6 0)])).length) Slot.unset).toArray = ls at hl ⊢
  have hl : lv_has ls 1 [(0, .ref (ad 6 0))] := hl
  rw [m_R_forgetAll] at hM
  refine lv_aload_n hx hb d_R_forgetAll_0 rfl (lv_at hl 0 rfl) ?_
  refine lv_iconst (v := 0) hx hb d_R_forgetAll_1 (by decide) ?_
  refine va_put (D := (dC, dI)) (ci := 5) (v := .int 0) (ty := .int) (C := R_R) (T := F_R) (N := 2) hx hb htb in_R ft_R ft_R_ok n_R hown hK hP hD hS 16 (g_R) rfl 1 (by decide) (htb _ k_92) (fun _ h9 => h9) rfl (by decide +kernel) rfl rfl (Nat.le_of_ble_eq_true rfl) d_R_forgetAll_2 (fun H locs hP hD hS => ?_)
  have hP := P_eq (s_R_0) hP
  have hD := D_eq (s_R_0) hD
  have e9 := Option.some.inj hM
  exact W.vret hx hb hr (fun t ht hW => ⟨⟨(w1 σ 6 0 0), rfl, e9, by rw [ht]; exact hP, va_K.moved hW.alike hK, hD⟩, hS.F ht⟩) hS.2.2 d_R_forgetAll_5

theorem d_O_writeRunFromTrial_0 : decode b_O_writeRunFromTrial 0 = .ok (.aload_n 0, 1) := by decide +kernel
theorem d_O_writeRunFromTrial_1 : decode b_O_writeRunFromTrial 1 = .ok (.getfield 33, 3) := by decide +kernel
theorem d_O_writeRunFromTrial_4 : decode b_O_writeRunFromTrial 4 = .ok (.invokevirtual 196, 3) := by decide +kernel
theorem d_O_writeRunFromTrial_7 : decode b_O_writeRunFromTrial 7 = .ok (.iconst 0, 1) := by decide +kernel
theorem d_O_writeRunFromTrial_8 : decode b_O_writeRunFromTrial 8 = .ok (.istore_n 1, 1) := by decide +kernel
theorem d_O_writeRunFromTrial_9 : decode b_O_writeRunFromTrial 9 = .ok (.iload_n 1, 1) := by decide +kernel
theorem d_O_writeRunFromTrial_10 : decode b_O_writeRunFromTrial 10 = .ok (.sipush 150, 3) := by decide +kernel
theorem d_O_writeRunFromTrial_13 : decode b_O_writeRunFromTrial 13 = .ok (.if_icmp .ge 67, 3) := by decide +kernel
theorem d_O_writeRunFromTrial_16 : decode b_O_writeRunFromTrial 16 = .ok (.aload_n 0, 1) := by decide +kernel
theorem d_O_writeRunFromTrial_17 : decode b_O_writeRunFromTrial 17 = .ok (.getfield 69, 3) := by decide +kernel
theorem d_O_writeRunFromTrial_20 : decode b_O_writeRunFromTrial 20 = .ok (.aload_n 0, 1) := by decide +kernel
theorem d_O_writeRunFromTrial_21 : decode b_O_writeRunFromTrial 21 = .ok (.getfield 10, 3) := by decide +kernel
theorem d_O_writeRunFromTrial_24 : decode b_O_writeRunFromTrial 24 = .ok (.invokevirtual 197, 3) := by decide +kernel
theorem d_O_writeRunFromTrial_27 : decode b_O_writeRunFromTrial 27 = .ok (.istore_n 2, 1) := by decide +kernel
theorem d_O_writeRunFromTrial_28 : decode b_O_writeRunFromTrial 28 = .ok (.iload_n 2, 1) := by decide +kernel
theorem d_O_writeRunFromTrial_29 : decode b_O_writeRunFromTrial 29 = .ok (.iconst (-1), 1) := by decide +kernel
theorem d_O_writeRunFromTrial_30 : decode b_O_writeRunFromTrial 30 = .ok (.if_icmp .ne 5, 3) := by decide +kernel
theorem d_O_writeRunFromTrial_33 : decode b_O_writeRunFromTrial 33 = .ok (.iconst 1, 1) := by decide +kernel
theorem d_O_writeRunFromTrial_34 : decode b_O_writeRunFromTrial 34 = .ok (.ireturn, 1) := by decide +kernel
theorem d_O_writeRunFromTrial_35 : decode b_O_writeRunFromTrial 35 = .ok (.aload_n 0, 1) := by decide +kernel
theorem d_O_writeRunFromTrial_36 : decode b_O_writeRunFromTrial 36 = .ok (.getfield 26, 3) := by decide +kernel
theorem d_O_writeRunFromTrial_39 : decode b_O_writeRunFromTrial 39 = .ok (.invokevirtual 201, 3) := by decide +kernel
theorem d_O_writeRunFromTrial_42 : decode b_O_writeRunFromTrial 42 = .ok (.ifCond .ne 5, 3) := by decide +kernel
theorem d_O_writeRunFromTrial_45 : decode b_O_writeRunFromTrial 45 = .ok (.iconst 0, 1) := by decide +kernel
theorem d_O_writeRunFromTrial_46 : decode b_O_writeRunFromTrial 46 = .ok (.ireturn, 1) := by decide +kernel
theorem d_O_writeRunFromTrial_47 : decode b_O_writeRunFromTrial 47 = .ok (.aload_n 0, 1) := by decide +kernel
theorem d_O_writeRunFromTrial_48 : decode b_O_writeRunFromTrial 48 = .ok (.getfield 33, 3) := by decide +kernel
theorem d_O_writeRunFromTrial_51 : decode b_O_writeRunFromTrial 51 = .ok (.aload_n 0, 1) := by decide +kernel
theorem d_O_writeRunFromTrial_52 : decode b_O_writeRunFromTrial 52 = .ok (.getfield 69, 3) := by decide +kernel
theorem d_O_writeRunFromTrial_55 : decode b_O_writeRunFromTrial 55 = .ok (.iload_n 2, 1) := by decide +kernel
theorem d_O_writeRunFromTrial_56 : decode b_O_writeRunFromTrial 56 = .ok (.invokevirtual 204, 3) := by decide +kernel
theorem d_O_writeRunFromTrial_59 : decode b_O_writeRunFromTrial 59 = .ok (.invokevirtual 207, 3) := by decide +kernel
theorem d_O_writeRunFromTrial_62 : decode b_O_writeRunFromTrial 62 = .ok (.aload_n 0, 1) := by decide +kernel
theorem d_O_writeRunFromTrial_63 : decode b_O_writeRunFromTrial 63 = .ok (.getfield 69, 3) := by decide +kernel
theorem d_O_writeRunFromTrial_66 : decode b_O_writeRunFromTrial 66 = .ok (.iload_n 2, 1) := by decide +kernel
theorem d_O_writeRunFromTrial_67 : decode b_O_writeRunFromTrial 67 = .ok (.aload_n 0, 1) := by decide +kernel
theorem d_O_writeRunFromTrial_68 : decode b_O_writeRunFromTrial 68 = .ok (.getfield 10, 3) := by decide +kernel
theorem d_O_writeRunFromTrial_71 : decode b_O_writeRunFromTrial 71 = .ok (.invokevirtual 210, 3) := by decide +kernel
theorem d_O_writeRunFromTrial_74 : decode b_O_writeRunFromTrial 74 = .ok (.iinc 1 1, 3) := by decide +kernel
theorem d_O_writeRunFromTrial_77 : decode b_O_writeRunFromTrial 77 = .ok (.goto (-68), 3) := by decide +kernel
theorem d_O_writeRunFromTrial_80 : decode b_O_writeRunFromTrial 80 = .ok (.iconst 1, 1) := by decide +kernel
theorem d_O_writeRunFromTrial_81 : decode b_O_writeRunFromTrial 81 = .ok (.ireturn, 1) := by decide +kernel
def m_O_writeRunFromTrial_9 (N : Nat) : Nat → SX → Int32 → Option (Int32 × SX)
  | 0, _, _ => none
  | n9 + 1, σ, v1 =>
    (if 150 ≤ v1 then some (1, σ) else (bI (m_S_slotOfFirst N σ 3) fun r24 σ24 => (if r24 = (-1) then some (1, σ) else (bI (m_V_writeCard N σ) fun r39 σ39 => (if r39 = 0 then some (0, σ39) else (bI (m_S_cardIn N σ39 3 r24) fun r56 σ56 => (bV (m_R_add N σ39 r56) fun σ59 => (bV (m_S_replaceCard N σ59 3 r24) fun σ71 => m_O_writeRunFromTrial_9 N n9 σ71 (v1 + 1)))))))))

def m_O_writeRunFromTrial (N : Nat) (σ : SX) : Option (Int32 × SX) :=
  (bV (m_R_forgetAll N σ) fun σ4 => m_O_writeRunFromTrial_9 N N σ4 0)

set_option maxHeartbeats 4000000 in
set_option maxRecDepth 100000 in
theorem c_O_writeRunFromTrial (l : Launch) (dC : Nat → ClassId) (dI : Nat → Nat → Nat) (ad : Nat → Nat → Nat) (cs : Nat → ClassId) (sz N : Nat) (σ : SX) {r0 : Int32} {σ0 : SX} (hM : m_O_writeRunFromTrial N σ = some (r0, σ0)) : Met l y_O_writeRunFromTrial (wd y_O_writeRunFromTrial b_O_writeRunFromTrial 3 (some .boolean)) ({ frames := 4, cells := 0, slots := 0, locals := 93 }) (va_Pc [.ref (ad 0 0)] (preX dC dI ad cs sz σ)) (va_Qi (fun (r : Int32) (u : SX) => r = r0 ∧ u = σ0) (atX dC dI ad cs (va_A (wX ad cs σ) sz)) (va_A (wX ad cs σ) sz)) 0 0 (va_A (wX ad cs σ) sz) := by
  refine Met.ofW (cc := b_O_writeRunFromTrial) (maxL := 3) (ret := (some .boolean)) (by decide) rfl ?_
  intro p e s m args below meth c s₁ B hml hv
  obtain ⟨rfl, hsz, hP, hK, hD0, hN⟩ := hv
  have hx := B.exec
  have hb := B.bytes
  have hr := B.returns
  have hts := atoms_spec (ws := (wd y_O_writeRunFromTrial b_O_writeRunFromTrial 3 (some .boolean))) B.pre
  have htb : ∀ w ∈ tb, w.before _ s = true := fun w h => hts w (List.mem_cons_of_mem _ h)
  have hown : s.vm.findClass R_O = some m.cls := findClass_of_methodNamed B.named
  have hlocks := B.notSynchronized
  subst hsz
  have hD := hD0.self (sz := s.heap.size)
  generalize hAe : va_A (wX ad cs σ) s.heap.size = A at hD ⊢
  have hA : ∀ q : Nat, s.heap.size ≤ q → A q := fun q h => by rw [← hAe]; exact Or.inr h
  have hS : va_S A s.heap s.heap [] := va_S.rf
  have hP : va_P (dC, dI) classes (wX ad cs σ) s.heap := hP
  have hl := lv_entry ([.ref (ad 0 0)]) (n := 3) (Nat.le_of_ble_eq_true rfl)
  rw [lg_entry_eq]
  generalize (lg_sl ([.ref (ad 0 0)]) ++ List.replicate (3 - (lg_sl ([.ref (ad 0 0)])).length) Slot.unset).toArray = ls at hl ⊢
  have hl : lv_has ls 3 [(0, .ref (ad 0 0))] := hl
  rw [m_O_writeRunFromTrial] at hM
  refine W_loop (pc := 9) (fun n9 H locs ls st => ∃ (σ : SX) (v1 : Int32), st = [] ∧ m_O_writeRunFromTrial_9 N n9 σ v1 = some (r0, σ0) ∧ lv_has ls 3 [(0, .ref (ad 0 0)), (1, .int v1)] ∧ va_P (dC, dI) classes (wX ad cs σ) H ∧ va_D A (wX ad cs σ) ∧ va_S A s.heap H locs) ?_ ?_ ?_
  · rintro H locs ls st ⟨σ, v1, -, hM, -⟩
    rw [m_O_writeRunFromTrial_9] at hM; cases hM
  · intro n9 K9 H locs ls st hI
    obtain ⟨σ, v1, rfl, hM, hl, hP, hD, hS⟩ := hI
    rw [m_O_writeRunFromTrial_9] at hM
    refine lv_iload_n hx hb d_O_writeRunFromTrial_9 rfl (lv_at hl 1 rfl) ?_
    refine lv_sipush (v := 150) hx hb d_O_writeRunFromTrial_10 (by decide) ?_
    refine lv_icmp_ge (tgt := 80) hx hb d_O_writeRunFromTrial_13 (by decide) (fun h13 => ?_) (fun h13 => ?_)
    · rw [if_pos h13] at hM
      refine lv_iconst (v := 1) hx hb d_O_writeRunFromTrial_80 (by decide) ?_
      have e9 := Prod.mk.inj (Option.some.inj hM)
      exact W.zret (ty := .boolean) (v := 1) hx hb hr rfl (fun t ht hW => ⟨⟨1, σ, rfl, e9, by rw [ht]; exact hP, va_K.moved hW.alike hK, hD⟩, hS.F ht⟩) hS.2.2 d_O_writeRunFromTrial_81
    · rw [if_neg h13] at hM
      refine lv_aload_n hx hb d_O_writeRunFromTrial_16 rfl (lv_at hl 0 rfl) ?_
      refine va_get (D := (dC, dI)) (ci := 0) (v := .ref (ad 3 0)) (C := R_O) (T := F_O) (N := 12) hx hb htb in_O hown hK hP 0 (g_O) rfl 2 (by decide) (htb _ k_150) (fun _ h9 => h9) rfl d_O_writeRunFromTrial_17 ?_
      refine lv_aload_n hx hb d_O_writeRunFromTrial_20 rfl (lv_at hl 0 rfl) ?_
      refine va_get (D := (dC, dI)) (ci := 0) (v := .ref (ad 1 0)) (C := R_O) (T := F_O) (N := 12) hx hb htb in_O hown hK hP 0 (g_O) rfl 0 (by decide) (htb _ k_148) (fun _ h9 => h9) rfl d_O_writeRunFromTrial_21 ?_
      obtain ⟨x24, y24, hq24, hM⟩ := bI_some hM
      refine va_calli (va_runV (As := [.ref (ad 1 0)]) (rest := []) ⟨hx, hb, hml, hown, hts⟩ (c_S_slotOfFirst l dC dI ad cs _ N σ 3 (Or.inr rfl) hq24) (cwV 1 hts (goodV k_503 k_504 k_505 k_6 k_506) rfl rfl rfl ⟨rfl, by decide, by decide, by decide +kernel⟩ ⟨Nat.le_of_ble_eq_true rfl, Nat.le_of_ble_eq_true rfl⟩) ⟨blindX, va_recv hK hP rfl (g_S (Or.inr rfl)), payX hP hK hD hN⟩ rfl rfl hl.1 rfl (lv_room (Nat.le_of_ble_eq_true rfl)) d_O_writeRunFromTrial_24 ⟨Nat.zero_le _, Nat.zero_le _⟩) hS (fun q h0 h => absurd h0 (Nat.not_lt.mpr h)) (fun q h => hA q (Nat.le_trans hS.1 h)) (fun r24 u t H locs ht hvm hpost hB hz1 hk1 hS => ?_)
      obtain ⟨e1, e2⟩ := hpost
      subst e1
      subst e2
      have hP := keepP hP hk1
      refine lv_istore_n hx hb d_O_writeRunFromTrial_27 rfl hl (by decide) (lv' := [(2, .int r24), (0, .ref (ad 0 0)), (1, .int v1)]) rfl (fun ls hl => ?_)
      refine lv_iload_n hx hb d_O_writeRunFromTrial_28 rfl (lv_at hl 0 rfl) ?_
      refine lv_iconst (v := (-1)) hx hb d_O_writeRunFromTrial_29 (by decide) ?_
      refine lv_icmp_ne (tgt := 35) hx hb d_O_writeRunFromTrial_30 (by decide) (fun h30 => ?_) (fun h30 => ?_)
      · rw [if_neg h30] at hM
        refine lv_aload_n hx hb d_O_writeRunFromTrial_35 rfl (lv_at hl 1 rfl) ?_
        refine va_get (D := (dC, dI)) (ci := 0) (v := .ref (ad 5 0)) (C := R_O) (T := F_O) (N := 12) hx hb htb in_O hown hK hP 0 (g_O) rfl 4 (by decide) (htb _ k_152) (fun _ h9 => h9) rfl d_O_writeRunFromTrial_36 ?_
        have hF1 := free_all hD hS hA
        obtain ⟨x39, y39, hq39, hM⟩ := bI_some hM
        refine va_calli (va_runV (As := []) (rest := []) ⟨hx, hb, hml, hown, hts⟩ (c_V_writeCard l dC dI ad cs _ N σ hq39) (cwV 0 hts (goodV k_508 k_509 k_510 k_4 k_511) rfl rfl rfl ⟨rfl, by decide, by decide, by decide +kernel⟩ ⟨Nat.le_of_ble_eq_true rfl, Nat.le_of_ble_eq_true rfl⟩) ⟨blindX, va_recv hK hP rfl (g_V), payX hP hK hD hN⟩ rfl rfl hl.1 rfl (lv_room (Nat.le_of_ble_eq_true rfl)) d_O_writeRunFromTrial_39 ⟨Nat.zero_le _, Nat.zero_le _⟩) hS (fun q _ h => hF1 q h) hF1 (fun r39 σ39 t H locs ht hvm hpost hB hz1 hk1 hS => ?_)
        obtain ⟨e1, e2⟩ := hpost
        subst e1
        subst e2
        obtain ⟨hP1, hK1, hD1⟩ := hB
        rw [ht] at hP1
        have hP := hP1
        have hD := hD1.weaken (fun _ _ _ h => hF1 _ h)
        refine lv_if_ne (tgt := 47) hx hb d_O_writeRunFromTrial_42 (by decide) (fun h42 => ?_) (fun h42 => ?_)
        · rw [if_neg h42] at hM
          refine lv_aload_n hx hb d_O_writeRunFromTrial_47 rfl (lv_at hl 1 rfl) ?_
          refine va_get (D := (dC, dI)) (ci := 0) (v := .ref (ad 6 0)) (C := R_O) (T := F_O) (N := 12) hx hb htb in_O hown hK hP 0 (g_O) rfl 5 (by decide) (htb _ k_153) (fun _ h9 => h9) rfl d_O_writeRunFromTrial_48 ?_
          refine lv_aload_n hx hb d_O_writeRunFromTrial_51 rfl (lv_at hl 1 rfl) ?_
          refine va_get (D := (dC, dI)) (ci := 0) (v := .ref (ad 3 0)) (C := R_O) (T := F_O) (N := 12) hx hb htb in_O hown hK hP 0 (g_O) rfl 2 (by decide) (htb _ k_150) (fun _ h9 => h9) rfl d_O_writeRunFromTrial_52 ?_
          refine lv_iload_n hx hb d_O_writeRunFromTrial_55 rfl (lv_at hl 0 rfl) ?_
          obtain ⟨x56, y56, hq56, hM⟩ := bI_some hM
          refine va_calli (va_runV (As := [.int r24]) (rest := [.ref (ad 6 0)]) ⟨hx, hb, hml, hown, hts⟩ (c_S_cardIn l dC dI ad cs _ N σ39 3 (Or.inr rfl) r24 hq56) (cwV 1 hts (goodV k_512 k_513 k_514 k_6 k_515) rfl rfl rfl ⟨rfl, by decide, by decide, by decide +kernel⟩ ⟨Nat.le_of_ble_eq_true rfl, Nat.le_of_ble_eq_true rfl⟩) ⟨blindX, va_recv hK hP rfl (g_S (Or.inr rfl)), payX hP hK hD hN⟩ rfl rfl hl.1 rfl (lv_room (Nat.le_of_ble_eq_true rfl)) d_O_writeRunFromTrial_56 ⟨Nat.zero_le _, Nat.zero_le _⟩) hS (fun q h0 h => absurd h0 (Nat.not_lt.mpr h)) (fun q h => hA q (Nat.le_trans hS.1 h)) (fun r56 u t H locs ht hvm hpost hB hz1 hk1 hS => ?_)
          obtain ⟨e1, e2⟩ := hpost
          subst e1
          subst e2
          have hP := keepP hP hk1
          have hF1 := free_all hD hS hA
          obtain ⟨y59, hq59, hM⟩ := bV_some hM
          refine va_callv (va_runV (As := [.int r56]) (rest := []) ⟨hx, hb, hml, hown, hts⟩ (c_R_add l dC dI ad cs _ N σ39 r56 hq59) (cwV 1 hts (goodV k_516 k_517 k_518 k_5 k_519) rfl rfl rfl ⟨rfl, by decide, by decide, by decide +kernel⟩ ⟨Nat.le_of_ble_eq_true rfl, Nat.le_of_ble_eq_true rfl⟩) ⟨blindX, va_recv hK hP rfl (g_R), payX hP hK hD hN⟩ rfl rfl hl.1 rfl (lv_room (Nat.le_of_ble_eq_true rfl)) d_O_writeRunFromTrial_59 ⟨Nat.zero_le _, Nat.zero_le _⟩) hS (fun q _ h => hF1 q h) hF1 (fun σ59 t H locs ht hvm hpost hB hz1 hk1 hS => ?_)
          subst hpost
          obtain ⟨hP1, hK1, hD1⟩ := hB
          rw [ht] at hP1
          have hP := hP1
          have hD := hD1.weaken (fun _ _ _ h => hF1 _ h)
          refine lv_aload_n hx hb d_O_writeRunFromTrial_62 rfl (lv_at hl 1 rfl) ?_
          refine va_get (D := (dC, dI)) (ci := 0) (v := .ref (ad 3 0)) (C := R_O) (T := F_O) (N := 12) hx hb htb in_O hown hK hP 0 (g_O) rfl 2 (by decide) (htb _ k_150) (fun _ h9 => h9) rfl d_O_writeRunFromTrial_63 ?_
          refine lv_iload_n hx hb d_O_writeRunFromTrial_66 rfl (lv_at hl 0 rfl) ?_
          refine lv_aload_n hx hb d_O_writeRunFromTrial_67 rfl (lv_at hl 1 rfl) ?_
          refine va_get (D := (dC, dI)) (ci := 0) (v := .ref (ad 1 0)) (C := R_O) (T := F_O) (N := 12) hx hb htb in_O hown hK hP 0 (g_O) rfl 0 (by decide) (htb _ k_148) (fun _ h9 => h9) rfl d_O_writeRunFromTrial_68 ?_
          have hF1 := free_all hD hS hA
          obtain ⟨y71, hq71, hM⟩ := bV_some hM
          refine va_callv (va_runV (As := [.int r24, .ref (ad 1 0)]) (rest := []) ⟨hx, hb, hml, hown, hts⟩ (c_S_replaceCard l dC dI ad cs _ N σ59 3 (Or.inr rfl) r24 hq71) (cwV 2 hts (goodV k_520 k_521 k_522 k_6 k_523) rfl rfl rfl ⟨rfl, by decide, by decide, by decide +kernel⟩ ⟨Nat.le_of_ble_eq_true rfl, Nat.le_of_ble_eq_true rfl⟩) ⟨blindX, va_recv hK hP rfl (g_S (Or.inr rfl)), payX hP hK hD hN⟩ rfl rfl hl.1 rfl (lv_room (Nat.le_of_ble_eq_true rfl)) d_O_writeRunFromTrial_71 ⟨Nat.zero_le _, Nat.zero_le _⟩) hS (fun q _ h => hF1 q h) hF1 (fun σ71 t H locs ht hvm hpost hB hz1 hk1 hS => ?_)
          subst hpost
          obtain ⟨hP1, hK1, hD1⟩ := hB
          rw [ht] at hP1
          have hP := hP1
          have hD := hD1.weaken (fun _ _ _ h => hF1 _ h)
          refine lv_iinc (k := 2) (v := (v1 + 1)) hx hb d_O_writeRunFromTrial_74 hl rfl rfl (by decide) (lv' := [(1, .int (v1 + 1)), (2, .int r24), (0, .ref (ad 0 0))]) rfl (fun ls hl => ?_)
          refine lv_goto (tgt := 9) hx hb d_O_writeRunFromTrial_77 (by decide) ?_
          exact K9 _ _ _ _ ⟨σ71, (v1 + 1), rfl, hM, lv_sub hl [2, 0] rfl, hP, hD, hS⟩
        · rw [if_pos h42] at hM
          refine lv_iconst (v := 0) hx hb d_O_writeRunFromTrial_45 (by decide) ?_
          have e9 := Prod.mk.inj (Option.some.inj hM)
          exact W.zret (ty := .boolean) (v := 0) hx hb hr rfl (fun t ht hW => ⟨⟨0, σ39, rfl, e9, by rw [ht]; exact hP, va_K.moved hW.alike hK, hD⟩, hS.F ht⟩) hS.2.2 d_O_writeRunFromTrial_46
      · rw [if_pos h30] at hM
        refine lv_iconst (v := 1) hx hb d_O_writeRunFromTrial_33 (by decide) ?_
        have e9 := Prod.mk.inj (Option.some.inj hM)
        exact W.zret (ty := .boolean) (v := 1) hx hb hr rfl (fun t ht hW => ⟨⟨1, σ, rfl, e9, by rw [ht]; exact hP, va_K.moved hW.alike hK, hD⟩, hS.F ht⟩) hS.2.2 d_O_writeRunFromTrial_34
  intro K9
  refine lv_aload_n hx hb d_O_writeRunFromTrial_0 rfl (lv_at hl 0 rfl) ?_
  refine va_get (D := (dC, dI)) (ci := 0) (v := .ref (ad 6 0)) (C := R_O) (T := F_O) (N := 12) hx hb htb in_O hown hK hP 0 (g_O) rfl 5 (by decide) (htb _ k_153) (fun _ h9 => h9) rfl d_O_writeRunFromTrial_1 ?_
  have hF1 := free_all hD hS hA
  obtain ⟨y4, hq4, hM⟩ := bV_some hM
  refine va_callv (va_runV (As := []) (rest := []) ⟨hx, hb, hml, hown, hts⟩ (c_R_forgetAll l dC dI ad cs _ N σ hq4) (cwV 0 hts (goodV k_499 k_500 k_501 k_5 k_502) rfl rfl rfl ⟨rfl, by decide, by decide, by decide +kernel⟩ ⟨Nat.le_of_ble_eq_true rfl, Nat.le_of_ble_eq_true rfl⟩) ⟨blindX, va_recv hK hP rfl (g_R), payX hP hK hD hN⟩ rfl rfl hl.1 rfl (lv_room (Nat.le_of_ble_eq_true rfl)) d_O_writeRunFromTrial_4 ⟨Nat.zero_le _, Nat.zero_le _⟩) hS (fun q _ h => hF1 q h) hF1 (fun σ4 t H locs ht hvm hpost hB hz1 hk1 hS => ?_)
  subst hpost
  obtain ⟨hP1, hK1, hD1⟩ := hB
  rw [ht] at hP1
  have hP := hP1
  have hD := hD1.weaken (fun _ _ _ h => hF1 _ h)
  refine lv_iconst (v := 0) hx hb d_O_writeRunFromTrial_7 (by decide) ?_
  refine lv_istore_n hx hb d_O_writeRunFromTrial_8 rfl hl (by decide) (lv' := [(1, .int 0), (0, .ref (ad 0 0))]) rfl (fun ls hl => ?_)
  exact K9 N _ _ _ _ ⟨σ4, 0, rfl, hM, lv_sub hl [1, 0] rfl, hP, hD, hS⟩

theorem d_S_turnToNextRun_0 : decode b_S_turnToNextRun 0 = .ok (.iconst 0, 1) := by decide +kernel
theorem d_S_turnToNextRun_1 : decode b_S_turnToNextRun 1 = .ok (.istore_n 1, 1) := by decide +kernel
theorem d_S_turnToNextRun_2 : decode b_S_turnToNextRun 2 = .ok (.iload_n 1, 1) := by decide +kernel
theorem d_S_turnToNextRun_3 : decode b_S_turnToNextRun 3 = .ok (.aload_n 0, 1) := by decide +kernel
theorem d_S_turnToNextRun_4 : decode b_S_turnToNextRun 4 = .ok (.getfield 19, 3) := by decide +kernel
theorem d_S_turnToNextRun_7 : decode b_S_turnToNextRun 7 = .ok (.if_icmp .ge 16, 3) := by decide +kernel
theorem d_S_turnToNextRun_10 : decode b_S_turnToNextRun 10 = .ok (.aload_n 0, 1) := by decide +kernel
theorem d_S_turnToNextRun_11 : decode b_S_turnToNextRun 11 = .ok (.getfield 15, 3) := by decide +kernel
theorem d_S_turnToNextRun_14 : decode b_S_turnToNextRun 14 = .ok (.iload_n 1, 1) := by decide +kernel
theorem d_S_turnToNextRun_15 : decode b_S_turnToNextRun 15 = .ok (.iconst 0, 1) := by decide +kernel
theorem d_S_turnToNextRun_16 : decode b_S_turnToNextRun 16 = .ok (.bastore, 1) := by decide +kernel
theorem d_S_turnToNextRun_17 : decode b_S_turnToNextRun 17 = .ok (.iinc 1 1, 3) := by decide +kernel
theorem d_S_turnToNextRun_20 : decode b_S_turnToNextRun 20 = .ok (.goto (-18), 3) := by decide +kernel
theorem d_S_turnToNextRun_23 : decode b_S_turnToNextRun 23 = .ok (.return_, 1) := by decide +kernel
def m_S_turnToNextRun_2 (N : Nat) (j : Nat) : Nat → SX → Int32 → Option (SX)
  | 0, _, _ => none
  | n2 + 1, σ, v1 =>
    (if ((σ j).1 1) ≤ v1 then some σ else (if inb v1 8 = true then m_S_turnToNextRun_2 N j n2 (w3 σ j 2 v1 (vp_nar .boolean 0)) (v1 + 1) else none))

def m_S_turnToNextRun (N : Nat) (σ : SX) (j : Nat) : Option (SX) :=
  m_S_turnToNextRun_2 N j N σ 0

set_option maxHeartbeats 4000000 in
set_option maxRecDepth 100000 in
theorem c_S_turnToNextRun (l : Launch) (dC : Nat → ClassId) (dI : Nat → Nat → Nat) (ad : Nat → Nat → Nat) (cs : Nat → ClassId) (sz N : Nat) (σ : SX) (j : Nat) (hj : j = 2 ∨ j = 3) {σ0 : SX} (hM : m_S_turnToNextRun N σ j = some σ0) : Met l y_S_turnToNextRun (wd y_S_turnToNextRun b_S_turnToNextRun 2 none) ({ frames := 0, cells := 0, slots := 0, locals := 0 }) (va_Pc [.ref (ad j 0)] (preX dC dI ad cs sz σ)) (va_Qv (fun (u : SX) => u = σ0) (atX dC dI ad cs (va_A (wX ad cs σ) sz)) (va_A (wX ad cs σ) sz)) 0 0 (va_A (wX ad cs σ) sz) := by
  refine Met.ofW (cc := b_S_turnToNextRun) (maxL := 2) (ret := none) (by decide) rfl ?_
  intro p e s m args below meth c s₁ B hml hv
  obtain ⟨rfl, hsz, hP, hK, hD0, hN⟩ := hv
  have hx := B.exec
  have hb := B.bytes
  have hr := B.returns
  have hts := atoms_spec (ws := (wd y_S_turnToNextRun b_S_turnToNextRun 2 none)) B.pre
  have htb : ∀ w ∈ tb, w.before _ s = true := fun w h => hts w (List.mem_cons_of_mem _ h)
  have hown : s.vm.findClass R_S = some m.cls := findClass_of_methodNamed B.named
  have hlocks := B.notSynchronized
  subst hsz
  have hD := hD0.self (sz := s.heap.size)
  generalize hAe : va_A (wX ad cs σ) s.heap.size = A at hD ⊢
  have hA : ∀ q : Nat, s.heap.size ≤ q → A q := fun q h => by rw [← hAe]; exact Or.inr h
  have hS : va_S A s.heap s.heap [] := va_S.rf
  have hP : va_P (dC, dI) classes (wX ad cs σ) s.heap := hP
  have hl := lv_entry ([.ref (ad j 0)]) (n := 2) (Nat.le_of_ble_eq_true rfl)
  rw [lg_entry_eq]
  generalize (lg_sl ([.ref (ad j 0)]) ++ List.replicate (2 - (lg_sl ([.ref (ad j 0)])).length) Slot.unset).toArray = ls at hl ⊢
  have hl : lv_has ls 2 [(0, .ref (ad j 0))] := hl
  rw [m_S_turnToNextRun] at hM
  refine W_loop (pc := 2) (fun n2 H locs ls st => ∃ (σ : SX) (v1 : Int32), st = [] ∧ m_S_turnToNextRun_2 N j n2 σ v1 = some σ0 ∧ lv_has ls 2 [(0, .ref (ad j 0)), (1, .int v1)] ∧ va_P (dC, dI) classes (wX ad cs σ) H ∧ va_D A (wX ad cs σ) ∧ va_S A s.heap H locs) ?_ ?_ ?_
  · rintro H locs ls st ⟨σ, v1, -, hM, -⟩
    rw [m_S_turnToNextRun_2] at hM; cases hM
  · intro n2 K2 H locs ls st hI
    obtain ⟨σ, v1, rfl, hM, hl, hP, hD, hS⟩ := hI
    rw [m_S_turnToNextRun_2] at hM
    refine lv_iload_n hx hb d_S_turnToNextRun_2 rfl (lv_at hl 1 rfl) ?_
    refine lv_aload_n hx hb d_S_turnToNextRun_3 rfl (lv_at hl 0 rfl) ?_
    refine va_get (D := (dC, dI)) (ci := 2) (v := .int ((σ j).1 1)) (C := R_S) (T := F_S) (N := 5) hx hb htb in_S hown hK hP (3 * j + 1) (g_S hj) rfl 3 (by decide) (htb _ k_110) (fun _ h9 => h9) rfl d_S_turnToNextRun_4 ?_
    refine lv_icmp_ge (tgt := 23) hx hb d_S_turnToNextRun_7 (by decide) (fun h7 => ?_) (fun h7 => ?_)
    · rw [if_pos h7] at hM
      have e9 := Option.some.inj hM
      exact W.vret hx hb hr (fun t ht hW => ⟨⟨σ, rfl, e9, by rw [ht]; exact hP, va_K.moved hW.alike hK, hD⟩, hS.F ht⟩) hS.2.2 d_S_turnToNextRun_23
    · rw [if_neg h7] at hM
      refine lv_aload_n hx hb d_S_turnToNextRun_10 rfl (lv_at hl 0 rfl) ?_
      refine va_get (D := (dC, dI)) (ci := 2) (v := .ref (ad j 2)) (C := R_S) (T := F_S) (N := 5) hx hb htb in_S hown hK hP (3 * j + 1) (g_S hj) rfl 2 (by decide) (htb _ k_109) (fun _ h9 => h9) rfl d_S_turnToNextRun_11 ?_
      refine lv_iload_n hx hb d_S_turnToNextRun_14 rfl (lv_at hl 1 rfl) ?_
      refine lv_iconst (v := 0) hx hb d_S_turnToNextRun_15 (by decide) ?_
      have hg16 := gd_c hM
      have hM := gd_v hM
      refine va_zast (i := v1) (x := 0) hx hb hK hP hD hS (3 * j + 3) 1 (g_S_a2 hj) rfl (inb_in hg16) d_S_turnToNextRun_16 (fun H locs hP hD hS => ?_)
      have hP := P_eq (t_S_2 hj) hP
      have hD := D_eq (t_S_2 hj) hD
      refine lv_iinc (k := 1) (v := (v1 + 1)) hx hb d_S_turnToNextRun_17 hl rfl rfl (by decide) (lv' := [(1, .int (v1 + 1)), (0, .ref (ad j 0))]) rfl (fun ls hl => ?_)
      refine lv_goto (tgt := 2) hx hb d_S_turnToNextRun_20 (by decide) ?_
      exact K2 _ _ _ _ ⟨(w3 σ j 2 v1 (vp_nar .boolean 0)), (v1 + 1), rfl, hM, lv_sub hl [1, 0] rfl, hP, hD, hS⟩
  intro K2
  refine lv_iconst (v := 0) hx hb d_S_turnToNextRun_0 (by decide) ?_
  refine lv_istore_n hx hb d_S_turnToNextRun_1 rfl hl (by decide) (lv' := [(1, .int 0), (0, .ref (ad j 0))]) rfl (fun ls hl => ?_)
  exact K2 N _ _ _ _ ⟨σ, 0, rfl, hM, lv_sub hl [1, 0] rfl, hP, hD, hS⟩

theorem d_T_addDummies_0 : decode b_T_addDummies 0 = .ok (.aload_n 0, 1) := by decide +kernel
theorem d_T_addDummies_1 : decode b_T_addDummies 1 = .ok (.dup, 1) := by decide +kernel
theorem d_T_addDummies_2 : decode b_T_addDummies 2 = .ok (.getfield 25, 3) := by decide +kernel
theorem d_T_addDummies_5 : decode b_T_addDummies 5 = .ok (.iload_n 1, 1) := by decide +kernel
theorem d_T_addDummies_6 : decode b_T_addDummies 6 = .ok (.iadd, 1) := by decide +kernel
theorem d_T_addDummies_7 : decode b_T_addDummies 7 = .ok (.putfield 25, 3) := by decide +kernel
theorem d_T_addDummies_10 : decode b_T_addDummies 10 = .ok (.return_, 1) := by decide +kernel
def m_T_addDummies (N : Nat) (σ : SX) (i : Nat) (a1 : Int32) : Option (SX) :=
  some (w1 σ (7 + i) 2 (((σ (7 + i)).1 2) + a1))

set_option maxHeartbeats 4000000 in
set_option maxRecDepth 100000 in
theorem c_T_addDummies (l : Launch) (dC : Nat → ClassId) (dI : Nat → Nat → Nat) (ad : Nat → Nat → Nat) (cs : Nat → ClassId) (sz N : Nat) (σ : SX) (i : Nat) (hi : i < 4) (a1 : Int32) {σ0 : SX} (hM : m_T_addDummies N σ i a1 = some σ0) : Met l y_T_addDummies (wd y_T_addDummies b_T_addDummies 2 none) ({ frames := 0, cells := 0, slots := 0, locals := 0 }) (va_Pc [.ref (ad (7 + i) 0), .int a1] (preX dC dI ad cs sz σ)) (va_Qv (fun (u : SX) => u = σ0) (atX dC dI ad cs (va_A (wX ad cs σ) sz)) (va_A (wX ad cs σ) sz)) 0 0 (va_A (wX ad cs σ) sz) := by
  refine Met.ofW (cc := b_T_addDummies) (maxL := 2) (ret := none) (by decide) rfl ?_
  intro p e s m args below meth c s₁ B hml hv
  obtain ⟨rfl, hsz, hP, hK, hD0, hN⟩ := hv
  have hx := B.exec
  have hb := B.bytes
  have hr := B.returns
  have hts := atoms_spec (ws := (wd y_T_addDummies b_T_addDummies 2 none)) B.pre
  have htb : ∀ w ∈ tb, w.before _ s = true := fun w h => hts w (List.mem_cons_of_mem _ h)
  have hown : s.vm.findClass R_T = some m.cls := findClass_of_methodNamed B.named
  have hlocks := B.notSynchronized
  subst hsz
  have hD := hD0.self (sz := s.heap.size)
  generalize hAe : va_A (wX ad cs σ) s.heap.size = A at hD ⊢
  have hA : ∀ q : Nat, s.heap.size ≤ q → A q := fun q h => by rw [← hAe]; exact Or.inr h
  have hS : va_S A s.heap s.heap [] := va_S.rf
  have hP : va_P (dC, dI) classes (wX ad cs σ) s.heap := hP
  have hl := lv_entry ([.ref (ad (7 + i) 0), .int a1]) (n := 2) (Nat.le_of_ble_eq_true rfl)
  rw [lg_entry_eq]
  generalize (lg_sl ([.ref (ad (7 + i) 0), .int a1]) ++ List.replicate (2 - (lg_sl ([.ref (ad (7 + i) 0), .int a1])).length) Slot.unset).toArray = ls at hl ⊢
  have hl : lv_has ls 2 [(0, .ref (ad (7 + i) 0)), (1, .int a1)] := hl
  rw [m_T_addDummies] at hM
  refine lv_aload_n hx hb d_T_addDummies_0 rfl (lv_at hl 0 rfl) ?_
  refine lv_dup hx hb d_T_addDummies_1 rfl ?_
  refine va_get (D := (dC, dI)) (ci := 6) (v := .int ((σ (7 + i)).1 2)) (C := R_T) (T := F_T) (N := 6) hx hb htb in_T hown hK hP (19 + 3 * i) (g_T hi) rfl 4 (by decide) (htb _ k_133) (fun _ h9 => h9) rfl d_T_addDummies_2 ?_
  refine lv_iload_n hx hb d_T_addDummies_5 rfl (lv_at hl 1 rfl) ?_
  refine lv_iadd hx hb d_T_addDummies_6 ?_
  refine va_put (D := (dC, dI)) (ci := 6) (v := .int (((σ (7 + i)).1 2) + a1)) (ty := .int) (C := R_T) (T := F_T) (N := 6) hx hb htb in_T ft_T ft_T_ok n_T hown hK hP hD hS (19 + 3 * i) (g_T hi) rfl 4 (by decide) (htb _ k_133) (fun _ h9 => h9) rfl (by decide +kernel) rfl rfl (Nat.le_of_ble_eq_true rfl) d_T_addDummies_7 (fun H locs hP hD hS => ?_)
  have hP := P_eq (s_T_2 hi) hP
  have hD := D_eq (s_T_2 hi) hD
  have e9 := Option.some.inj hM
  exact W.vret hx hb hr (fun t ht hW => ⟨⟨(w1 σ (7 + i) 2 (((σ (7 + i)).1 2) + a1)), rfl, e9, by rw [ht]; exact hP, va_K.moved hW.alike hK, hD⟩, hS.F ht⟩) hS.2.2 d_T_addDummies_10

theorem d_P_growTo_0 : decode b_P_growTo 0 = .ok (.aload_n 3, 1) := by decide +kernel
theorem d_P_growTo_1 : decode b_P_growTo 1 = .ok (.iload_n 1, 1) := by decide +kernel
theorem d_P_growTo_2 : decode b_P_growTo 2 = .ok (.aaload, 1) := by decide +kernel
theorem d_P_growTo_3 : decode b_P_growTo 3 = .ok (.iload_n 2, 1) := by decide +kernel
theorem d_P_growTo_4 : decode b_P_growTo 4 = .ok (.aload_n 0, 1) := by decide +kernel
theorem d_P_growTo_5 : decode b_P_growTo 5 = .ok (.getfield 9, 3) := by decide +kernel
theorem d_P_growTo_8 : decode b_P_growTo 8 = .ok (.iload_n 1, 1) := by decide +kernel
theorem d_P_growTo_9 : decode b_P_growTo 9 = .ok (.iaload, 1) := by decide +kernel
theorem d_P_growTo_10 : decode b_P_growTo 10 = .ok (.isub, 1) := by decide +kernel
theorem d_P_growTo_11 : decode b_P_growTo 11 = .ok (.invokevirtual 22, 3) := by decide +kernel
theorem d_P_growTo_14 : decode b_P_growTo 14 = .ok (.aload_n 0, 1) := by decide +kernel
theorem d_P_growTo_15 : decode b_P_growTo 15 = .ok (.getfield 9, 3) := by decide +kernel
theorem d_P_growTo_18 : decode b_P_growTo 18 = .ok (.iload_n 1, 1) := by decide +kernel
theorem d_P_growTo_19 : decode b_P_growTo 19 = .ok (.iload_n 2, 1) := by decide +kernel
theorem d_P_growTo_20 : decode b_P_growTo 20 = .ok (.iastore, 1) := by decide +kernel
theorem d_P_growTo_21 : decode b_P_growTo 21 = .ok (.return_, 1) := by decide +kernel
def m_P_growTo (N : Nat) (σ : SX) (a1 : Int32) (a2 : Int32) : Option (SX) :=
  (if inb a1 4 = true then (if inb a1 3 = true then (bV (m_T_addDummies N σ a1.toNatClampNeg (a2 - ((σ 4).2 1 a1.toNatClampNeg))) fun σ11 => (if inb a1 3 = true then some (w3 σ11 4 1 a1 a2) else none)) else none) else none)

set_option maxHeartbeats 4000000 in
set_option maxRecDepth 100000 in
theorem c_P_growTo (l : Launch) (dC : Nat → ClassId) (dI : Nat → Nat → Nat) (ad : Nat → Nat → Nat) (cs : Nat → ClassId) (sz N : Nat) (σ : SX) (a1 : Int32) (a2 : Int32) {σ0 : SX} (hM : m_P_growTo N σ a1 a2 = some σ0) : Met l y_P_growTo (wd y_P_growTo b_P_growTo 4 none) ({ frames := 1, cells := 0, slots := 0, locals := 21 }) (va_Pc [.ref (ad 4 0), .int a1, .int a2, .ref (ad 0 9)] (preX dC dI ad cs sz σ)) (va_Qv (fun (u : SX) => u = σ0) (atX dC dI ad cs (va_A (wX ad cs σ) sz)) (va_A (wX ad cs σ) sz)) 0 0 (va_A (wX ad cs σ) sz) := by
  refine Met.ofW (cc := b_P_growTo) (maxL := 4) (ret := none) (by decide) rfl ?_
  intro p e s m args below meth c s₁ B hml hv
  obtain ⟨rfl, hsz, hP, hK, hD0, hN⟩ := hv
  have hx := B.exec
  have hb := B.bytes
  have hr := B.returns
  have hts := atoms_spec (ws := (wd y_P_growTo b_P_growTo 4 none)) B.pre
  have htb : ∀ w ∈ tb, w.before _ s = true := fun w h => hts w (List.mem_cons_of_mem _ h)
  have hown : s.vm.findClass R_P = some m.cls := findClass_of_methodNamed B.named
  have hlocks := B.notSynchronized
  subst hsz
  have hD := hD0.self (sz := s.heap.size)
  generalize hAe : va_A (wX ad cs σ) s.heap.size = A at hD ⊢
  have hA : ∀ q : Nat, s.heap.size ≤ q → A q := fun q h => by rw [← hAe]; exact Or.inr h
  have hS : va_S A s.heap s.heap [] := va_S.rf
  have hP : va_P (dC, dI) classes (wX ad cs σ) s.heap := hP
  have hl := lv_entry ([.ref (ad 4 0), .int a1, .int a2, .ref (ad 0 9)]) (n := 4) (Nat.le_of_ble_eq_true rfl)
  rw [lg_entry_eq]
  generalize (lg_sl ([.ref (ad 4 0), .int a1, .int a2, .ref (ad 0 9)]) ++ List.replicate (4 - (lg_sl ([.ref (ad 4 0), .int a1, .int a2, .ref (ad 0 9)])).length) Slot.unset).toArray = ls at hl ⊢
  have hl : lv_has ls 4 [(0, .ref (ad 4 0)), (1, .int a1), (2, .int a2), (3, .ref (ad 0 9))] := hl
  rw [m_P_growTo] at hM
  refine lv_aload_n hx hb d_P_growTo_0 rfl (lv_at hl 3 rfl) ?_
  refine lv_iload_n hx hb d_P_growTo_1 rfl (lv_at hl 1 rfl) ?_
  have hg2 := gd_c hM
  have hM := gd_v hM
  refine va_aldq hx hb hK hP 18 2 (f := fun i => some (ad (7 + i) 0)) g_tapes rfl (inb_in hg2) d_P_growTo_2 ?_
  refine W.eq (g2 := F0 m 3 ls [.ref (ad (7 + a1.toNatClampNeg) 0)]) rfl ?_
  refine lv_iload_n hx hb d_P_growTo_3 rfl (lv_at hl 2 rfl) ?_
  refine lv_aload_n hx hb d_P_growTo_4 rfl (lv_at hl 0 rfl) ?_
  refine va_get (D := (dC, dI)) (ci := 3) (v := .ref (ad 4 1)) (C := R_P) (T := F_P) (N := 3) hx hb htb in_P hown hK hP 13 (g_P) rfl 0 (by decide) (htb _ k_55) (fun _ h9 => h9) rfl d_P_growTo_5 ?_
  refine lv_iload_n hx hb d_P_growTo_8 rfl (lv_at hl 1 rfl) ?_
  have hg9 := gd_c hM
  have hM := gd_v hM
  refine va_iald hx hb hK hP 14 0 (g_P_a1) rfl (inb_in hg9) d_P_growTo_9 ?_
  refine lv_isub hx hb d_P_growTo_10 ?_
  have hF1 := free_all hD hS hA
  obtain ⟨y11, hq11, hM⟩ := bV_some hM
  refine va_callv (va_runV (As := [.int (a2 - ((σ 4).2 1 a1.toNatClampNeg))]) (rest := []) ⟨hx, hb, hml, hown, hts⟩ (c_T_addDummies l dC dI ad cs _ N σ a1.toNatClampNeg (inb_lt hg2) (a2 - ((σ 4).2 1 a1.toNatClampNeg)) hq11) (cwV 1 hts (goodV k_464 k_465 k_466 k_7 k_467) rfl rfl rfl ⟨rfl, by decide, by decide, by decide +kernel⟩ ⟨Nat.le_of_ble_eq_true rfl, Nat.le_of_ble_eq_true rfl⟩) ⟨blindX, va_recv hK hP rfl (g_T (inb_lt hg2)), payX hP hK hD hN⟩ rfl rfl hl.1 rfl (lv_room (Nat.le_of_ble_eq_true rfl)) d_P_growTo_11 ⟨Nat.zero_le _, Nat.zero_le _⟩) hS (fun q _ h => hF1 q h) hF1 (fun σ11 t H locs ht hvm hpost hB hz1 hk1 hS => ?_)
  subst hpost
  obtain ⟨hP1, hK1, hD1⟩ := hB
  rw [ht] at hP1
  have hP := hP1
  have hD := hD1.weaken (fun _ _ _ h => hF1 _ h)
  refine lv_aload_n hx hb d_P_growTo_14 rfl (lv_at hl 0 rfl) ?_
  refine va_get (D := (dC, dI)) (ci := 3) (v := .ref (ad 4 1)) (C := R_P) (T := F_P) (N := 3) hx hb htb in_P hown hK hP 13 (g_P) rfl 0 (by decide) (htb _ k_55) (fun _ h9 => h9) rfl d_P_growTo_15 ?_
  refine lv_iload_n hx hb d_P_growTo_18 rfl (lv_at hl 1 rfl) ?_
  refine lv_iload_n hx hb d_P_growTo_19 rfl (lv_at hl 2 rfl) ?_
  have hg20 := gd_c hM
  have hM := gd_v hM
  refine va_iast (i := a1) (x := a2) hx hb hK hP hD hS 14 0 (g_P_a1) rfl (inb_in hg20) d_P_growTo_20 (fun H locs hP hD hS => ?_)
  have hP := P_eq (t_P_1) hP
  have hD := D_eq (t_P_1) hD
  have e9 := Option.some.inj hM
  exact W.vret hx hb hr (fun t ht hW => ⟨⟨(w3 σ11 4 1 a1 a2), rfl, e9, by rw [ht]; exact hP, va_K.moved hW.alike hK, hD⟩, hS.F ht⟩) hS.2.2 d_P_growTo_21
