theorem d_M_first_0 : decode b_M_first 0 = .ok (.iconst (-1), 1) := by decide +kernel
theorem d_M_first_1 : decode b_M_first 1 = .ok (.istore_n 1, 1) := by decide +kernel
theorem d_M_first_2 : decode b_M_first 2 = .ok (.iconst 0, 1) := by decide +kernel
theorem d_M_first_3 : decode b_M_first 3 = .ok (.istore_n 2, 1) := by decide +kernel
theorem d_M_first_4 : decode b_M_first 4 = .ok (.iload_n 2, 1) := by decide +kernel
theorem d_M_first_5 : decode b_M_first 5 = .ok (.aload_n 0, 1) := by decide +kernel
theorem d_M_first_6 : decode b_M_first 6 = .ok (.getfield 123, 3) := by decide +kernel
theorem d_M_first_9 : decode b_M_first 9 = .ok (.if_icmp .ge 47, 3) := by decide +kernel
theorem d_M_first_12 : decode b_M_first 12 = .ok (.aload_n 0, 1) := by decide +kernel
theorem d_M_first_13 : decode b_M_first 13 = .ok (.getfield 58, 3) := by decide +kernel
theorem d_M_first_16 : decode b_M_first 16 = .ok (.iload_n 2, 1) := by decide +kernel
theorem d_M_first_17 : decode b_M_first 17 = .ok (.baload, 1) := by decide +kernel
theorem d_M_first_18 : decode b_M_first 18 = .ok (.ifCond .ne 30, 3) := by decide +kernel
theorem d_M_first_21 : decode b_M_first 21 = .ok (.iload_n 1, 1) := by decide +kernel
theorem d_M_first_22 : decode b_M_first 22 = .ok (.ifCond .lt 22, 3) := by decide +kernel
theorem d_M_first_25 : decode b_M_first 25 = .ok (.aload_n 0, 1) := by decide +kernel
theorem d_M_first_26 : decode b_M_first 26 = .ok (.aload_n 0, 1) := by decide +kernel
theorem d_M_first_27 : decode b_M_first 27 = .ok (.getfield 55, 3) := by decide +kernel
theorem d_M_first_30 : decode b_M_first 30 = .ok (.iload_n 2, 1) := by decide +kernel
theorem d_M_first_31 : decode b_M_first 31 = .ok (.iaload, 1) := by decide +kernel
theorem d_M_first_32 : decode b_M_first 32 = .ok (.aload_n 0, 1) := by decide +kernel
theorem d_M_first_33 : decode b_M_first 33 = .ok (.getfield 55, 3) := by decide +kernel
theorem d_M_first_36 : decode b_M_first 36 = .ok (.iload_n 1, 1) := by decide +kernel
theorem d_M_first_37 : decode b_M_first 37 = .ok (.iaload, 1) := by decide +kernel
theorem d_M_first_38 : decode b_M_first 38 = .ok (.invokevirtual 92, 3) := by decide +kernel
theorem d_M_first_41 : decode b_M_first 41 = .ok (.ifCond .eq 7, 3) := by decide +kernel
theorem d_M_first_44 : decode b_M_first 44 = .ok (.iload_n 2, 1) := by decide +kernel
theorem d_M_first_45 : decode b_M_first 45 = .ok (.goto 4, 3) := by decide +kernel
theorem d_M_first_48 : decode b_M_first 48 = .ok (.iload_n 1, 1) := by decide +kernel
theorem d_M_first_49 : decode b_M_first 49 = .ok (.istore_n 1, 1) := by decide +kernel
theorem d_M_first_50 : decode b_M_first 50 = .ok (.iinc 2 1, 3) := by decide +kernel
theorem d_M_first_53 : decode b_M_first 53 = .ok (.goto (-49), 3) := by decide +kernel
theorem d_M_first_56 : decode b_M_first 56 = .ok (.iload_n 1, 1) := by decide +kernel
theorem d_M_first_57 : decode b_M_first 57 = .ok (.ireturn, 1) := by decide +kernel
def m_M_first_4 (N : Nat) : Nat → SX → Int32 → Int32 → Option (Int32 × SX)
  | 0, _, _, _ => none
  | n4 + 1, σ, v1, v2 =>
    (if ((σ 0).1 14) ≤ v2 then some (v1, σ) else (if inb v2 8 = true then (if ((σ 0).2 14 v2.toNatClampNeg) = 0 then (if v1 < 0 then m_M_first_4 N n4 σ v2 (v2 + 1) else (if inb v2 8 = true then (if inb v1 8 = true then (bI (m_M_comesFirst N σ ((σ 0).2 13 v2.toNatClampNeg) ((σ 0).2 13 v1.toNatClampNeg)) fun r38 σ38 => (if r38 = 0 then m_M_first_4 N n4 σ v1 (v2 + 1) else m_M_first_4 N n4 σ v2 (v2 + 1))) else none) else none)) else m_M_first_4 N n4 σ v1 (v2 + 1)) else none))

def m_M_first (N : Nat) (σ : SX) : Option (Int32 × SX) :=
  m_M_first_4 N N σ (-1) 0

set_option maxHeartbeats 4000000 in
set_option maxRecDepth 100000 in
theorem c_M_first (l : Launch) (dC : Nat → ClassId) (dI : Nat → Nat → Nat) (ad : Nat → Nat → Nat) (cs : Nat → ClassId) (sz N : Nat) (σ : SX) {r0 : Int32} {σ0 : SX} (hM : m_M_first N σ = some (r0, σ0)) : Met l y_M_first (wd y_M_first b_M_first 3 (some .int)) ({ frames := 2, cells := 0, slots := 0, locals := 48 }) (va_Pc [.ref (ad 0 0)] (preM dC dI ad cs sz σ)) (va_Qi (fun (r : Int32) (_ : Unit) => r = r0 ∧ σ = σ0) (fun _ _ => True) (fun q => sz ≤ q)) 0 0 (fun q => sz ≤ q) := by
  refine Met.ofW (cc := b_M_first) (maxL := 3) (ret := (some .int)) (by decide) rfl ?_
  intro p e s m args below meth c s₁ B hml hv
  obtain ⟨rfl, hsz, hP, hK, hD0, hN⟩ := hv
  have hx := B.exec
  have hb := B.bytes
  have hr := B.returns
  have hts := atoms_spec (ws := (wd y_M_first b_M_first 3 (some .int))) B.pre
  have htb : ∀ w ∈ tb, w.before _ s = true := fun w h => hts w (List.mem_cons_of_mem _ h)
  have hown : s.vm.findClass R_M = some m.cls := findClass_of_methodNamed B.named
  have hlocks := B.notSynchronized
  subst hsz
  have hD := hD0
  have hA : ∀ q : Nat, s.heap.size ≤ q → s.heap.size ≤ q := fun q h => h
  have hS : va_S (fun q => s.heap.size ≤ q) s.heap s.heap [] := va_S.rf
  have hP : va_P (dC, dI) classes (wM ad cs σ) s.heap := hP
  have hl := lv_entry ([.ref (ad 0 0)]) (n := 3) (Nat.le_of_ble_eq_true rfl)
  rw [lg_entry_eq]
  generalize (lg_sl ([.ref (ad 0 0)]) ++ List.replicate (3 - (lg_sl ([.ref (ad 0 0)])).length) Slot.unset).toArray = ls at hl ⊢
  have hl : lv_has ls 3 [(0, .ref (ad 0 0))] := hl
  rw [m_M_first] at hM
  refine W_loop (pc := 4) (fun n4 H locs ls st => ∃ (v1 : Int32) (v2 : Int32), st = [] ∧ m_M_first_4 N n4 σ v1 v2 = some (r0, σ0) ∧ lv_has ls 3 [(0, .ref (ad 0 0)), (1, .int v1), (2, .int v2)] ∧ va_P (dC, dI) classes (wM ad cs σ) H ∧ va_D (fun _ => True) (wM ad cs σ) ∧ va_S (fun q => s.heap.size ≤ q) s.heap H locs) ?_ ?_ ?_
  · rintro H locs ls st ⟨v1, v2, -, hM, -⟩
    rw [m_M_first_4] at hM; cases hM
  · intro n4 K4 H locs ls st hI
    obtain ⟨v1, v2, rfl, hM, hl, hP, hD, hS⟩ := hI
    rw [m_M_first_4] at hM
    refine lv_iload_n hx hb d_M_first_4 rfl (lv_at hl 2 rfl) ?_
    refine lv_aload_n hx hb d_M_first_5 rfl (lv_at hl 0 rfl) ?_
    refine va_get (D := (dC, dI)) (ci := 7) (v := .int ((σ 0).1 14)) (C := R_M) (T := F_M) (N := 33) hx hb htb in_M hown hK hP 0 (g_M) rfl 26 (by decide) (htb _ k_645) (fun _ h9 => h9) rfl d_M_first_6 ?_
    refine lv_icmp_ge (tgt := 56) hx hb d_M_first_9 (by decide) (fun h9 => ?_) (fun h9 => ?_)
    · rw [if_pos h9] at hM
      refine lv_iload_n hx hb d_M_first_56 rfl (lv_at hl 1 rfl) ?_
      have e9 := Prod.mk.inj (Option.some.inj hM)
      exact W.iret (v := v1) hx hb hr (fun t ht hW => ⟨⟨v1, (), rfl, e9, trivial⟩, hS.F ht⟩) hS.2.2 d_M_first_57
    · rw [if_neg h9] at hM
      refine lv_aload_n hx hb d_M_first_12 rfl (lv_at hl 0 rfl) ?_
      refine va_get (D := (dC, dI)) (ci := 7) (v := .ref (ad 0 14)) (C := R_M) (T := F_M) (N := 33) hx hb htb in_M hown hK hP 0 (g_M) rfl 28 (by decide) (htb _ k_647) (fun _ h9 => h9) rfl d_M_first_13 ?_
      refine lv_iload_n hx hb d_M_first_16 rfl (lv_at hl 2 rfl) ?_
      have hg17 := gd_c hM
      have hM := gd_v hM
      refine va_zald hx hb hK hP 14 1 (g_M_a14) rfl (inb_in hg17) d_M_first_17 ?_
      refine lv_if_ne (tgt := 48) hx hb d_M_first_18 (by decide) (fun h18 => ?_) (fun h18 => ?_)
      · rw [if_neg h18] at hM
        refine lv_iload_n hx hb d_M_first_48 rfl (lv_at hl 1 rfl) ?_
        refine lv_istore_n hx hb d_M_first_49 rfl hl (by decide) (lv' := [(1, .int v1), (0, .ref (ad 0 0)), (2, .int v2)]) rfl (fun ls hl => ?_)
        refine lv_iinc (k := 2) (v := (v2 + 1)) hx hb d_M_first_50 hl rfl rfl (by decide) (lv' := [(2, .int (v2 + 1)), (1, .int v1), (0, .ref (ad 0 0))]) rfl (fun ls hl => ?_)
        refine lv_goto (tgt := 4) hx hb d_M_first_53 (by decide) ?_
        exact K4 _ _ _ _ ⟨v1, (v2 + 1), rfl, hM, lv_sub hl [2, 1, 0] rfl, hP, hD, hS⟩
      · rw [if_pos h18] at hM
        refine lv_iload_n hx hb d_M_first_21 rfl (lv_at hl 1 rfl) ?_
        refine lv_if_lt (tgt := 44) hx hb d_M_first_22 (by decide) (fun h22 => ?_) (fun h22 => ?_)
        · rw [if_pos h22] at hM
          refine lv_iload_n hx hb d_M_first_44 rfl (lv_at hl 2 rfl) ?_
          refine lv_goto (tgt := 49) hx hb d_M_first_45 (by decide) ?_
          refine lv_istore_n hx hb d_M_first_49 rfl hl (by decide) (lv' := [(1, .int v2), (0, .ref (ad 0 0)), (2, .int v2)]) rfl (fun ls hl => ?_)
          refine lv_iinc (k := 2) (v := (v2 + 1)) hx hb d_M_first_50 hl rfl rfl (by decide) (lv' := [(2, .int (v2 + 1)), (1, .int v2), (0, .ref (ad 0 0))]) rfl (fun ls hl => ?_)
          refine lv_goto (tgt := 4) hx hb d_M_first_53 (by decide) ?_
          exact K4 _ _ _ _ ⟨v2, (v2 + 1), rfl, hM, lv_sub hl [2, 1, 0] rfl, hP, hD, hS⟩
        · rw [if_neg h22] at hM
          refine lv_aload_n hx hb d_M_first_25 rfl (lv_at hl 0 rfl) ?_
          refine lv_aload_n hx hb d_M_first_26 rfl (lv_at hl 0 rfl) ?_
          refine va_get (D := (dC, dI)) (ci := 7) (v := .ref (ad 0 13)) (C := R_M) (T := F_M) (N := 33) hx hb htb in_M hown hK hP 0 (g_M) rfl 27 (by decide) (htb _ k_646) (fun _ h9 => h9) rfl d_M_first_27 ?_
          refine lv_iload_n hx hb d_M_first_30 rfl (lv_at hl 2 rfl) ?_
          have hg31 := gd_c hM
          have hM := gd_v hM
          refine va_iald hx hb hK hP 13 0 (g_M_a13) rfl (inb_in hg31) d_M_first_31 ?_
          refine lv_aload_n hx hb d_M_first_32 rfl (lv_at hl 0 rfl) ?_
          refine va_get (D := (dC, dI)) (ci := 7) (v := .ref (ad 0 13)) (C := R_M) (T := F_M) (N := 33) hx hb htb in_M hown hK hP 0 (g_M) rfl 27 (by decide) (htb _ k_646) (fun _ h9 => h9) rfl d_M_first_33 ?_
          refine lv_iload_n hx hb d_M_first_36 rfl (lv_at hl 1 rfl) ?_
          have hg37 := gd_c hM
          have hM := gd_v hM
          refine va_iald hx hb hK hP 13 0 (g_M_a13) rfl (inb_in hg37) d_M_first_37 ?_
          obtain ⟨x38, y38, hq38, hM⟩ := bI_some hM
          refine va_calli (va_runV (As := [.int ((σ 0).2 13 v2.toNatClampNeg), .int ((σ 0).2 13 v1.toNatClampNeg)]) (rest := []) ⟨hx, hb, hml, hown, hts⟩ (c_M_comesFirst l dC dI ad cs _ N σ ((σ 0).2 13 v2.toNatClampNeg) ((σ 0).2 13 v1.toNatClampNeg) hq38) (cwV 2 hts (goodV k_739 k_741 ks_M_comesFirst k_8 k_742) rfl rfl rfl ⟨rfl, by decide, by decide, by decide +kernel⟩ ⟨Nat.le_of_ble_eq_true rfl, Nat.le_of_ble_eq_true rfl⟩) ⟨blindM, va_recv hK hP rfl (g_M), payM hP hK hD hN⟩ rfl rfl hl.1 rfl (lv_room (Nat.le_of_ble_eq_true rfl)) d_M_first_38 ⟨Nat.zero_le _, Nat.zero_le _⟩) hS (fun q h0 h => absurd h0 (Nat.not_lt.mpr h)) (fun q h => hA q (Nat.le_trans hS.1 h)) (fun r38 u t H locs ht hvm hpost hB hz1 hk1 hS => ?_)
          obtain ⟨e1, e2⟩ := hpost
          subst e1
          subst e2
          have hP := keepP hP hk1
          refine lv_if_eq (tgt := 48) hx hb d_M_first_41 (by decide) (fun h41 => ?_) (fun h41 => ?_)
          · rw [if_pos h41] at hM
            refine lv_iload_n hx hb d_M_first_48 rfl (lv_at hl 1 rfl) ?_
            refine lv_istore_n hx hb d_M_first_49 rfl hl (by decide) (lv' := [(1, .int v1), (0, .ref (ad 0 0)), (2, .int v2)]) rfl (fun ls hl => ?_)
            refine lv_iinc (k := 2) (v := (v2 + 1)) hx hb d_M_first_50 hl rfl rfl (by decide) (lv' := [(2, .int (v2 + 1)), (1, .int v1), (0, .ref (ad 0 0))]) rfl (fun ls hl => ?_)
            refine lv_goto (tgt := 4) hx hb d_M_first_53 (by decide) ?_
            exact K4 _ _ _ _ ⟨v1, (v2 + 1), rfl, hM, lv_sub hl [2, 1, 0] rfl, hP, hD, hS⟩
          · rw [if_neg h41] at hM
            refine lv_iload_n hx hb d_M_first_44 rfl (lv_at hl 2 rfl) ?_
            refine lv_goto (tgt := 49) hx hb d_M_first_45 (by decide) ?_
            refine lv_istore_n hx hb d_M_first_49 rfl hl (by decide) (lv' := [(1, .int v2), (0, .ref (ad 0 0)), (2, .int v2)]) rfl (fun ls hl => ?_)
            refine lv_iinc (k := 2) (v := (v2 + 1)) hx hb d_M_first_50 hl rfl rfl (by decide) (lv' := [(2, .int (v2 + 1)), (1, .int v2), (0, .ref (ad 0 0))]) rfl (fun ls hl => ?_)
            refine lv_goto (tgt := 4) hx hb d_M_first_53 (by decide) ?_
            exact K4 _ _ _ _ ⟨v2, (v2 + 1), rfl, hM, lv_sub hl [2, 1, 0] rfl, hP, hD, hS⟩
  intro K4
  refine lv_iconst (v := (-1)) hx hb d_M_first_0 (by decide) ?_
  refine lv_istore_n hx hb d_M_first_1 rfl hl (by decide) (lv' := [(1, .int (-1)), (0, .ref (ad 0 0))]) rfl (fun ls hl => ?_)
  refine lv_iconst (v := 0) hx hb d_M_first_2 (by decide) ?_
  refine lv_istore_n hx hb d_M_first_3 rfl hl (by decide) (lv' := [(2, .int 0), (1, .int (-1)), (0, .ref (ad 0 0))]) rfl (fun ls hl => ?_)
  exact K4 N _ _ _ _ ⟨(-1), 0, rfl, hM, lv_sub hl [2, 1, 0] rfl, hP, hD, hS⟩

theorem d_M_putAside_0 : decode b_M_putAside 0 = .ok (.aload_n 0, 1) := by decide +kernel
theorem d_M_putAside_1 : decode b_M_putAside 1 = .ok (.aload_n 0, 1) := by decide +kernel
theorem d_M_putAside_2 : decode b_M_putAside 2 = .ok (.getfield 96, 3) := by decide +kernel
theorem d_M_putAside_5 : decode b_M_putAside 5 = .ok (.putfield 123, 3) := by decide +kernel
theorem d_M_putAside_8 : decode b_M_putAside 8 = .ok (.aload_n 0, 1) := by decide +kernel
theorem d_M_putAside_9 : decode b_M_putAside 9 = .ok (.aload_n 0, 1) := by decide +kernel
theorem d_M_putAside_10 : decode b_M_putAside 10 = .ok (.getfield 99, 3) := by decide +kernel
theorem d_M_putAside_13 : decode b_M_putAside 13 = .ok (.putfield 126, 3) := by decide +kernel
theorem d_M_putAside_16 : decode b_M_putAside 16 = .ok (.aload_n 0, 1) := by decide +kernel
theorem d_M_putAside_17 : decode b_M_putAside 17 = .ok (.iconst 0, 1) := by decide +kernel
theorem d_M_putAside_18 : decode b_M_putAside 18 = .ok (.putfield 120, 3) := by decide +kernel
theorem d_M_putAside_21 : decode b_M_putAside 21 = .ok (.iconst 0, 1) := by decide +kernel
theorem d_M_putAside_22 : decode b_M_putAside 22 = .ok (.istore_n 1, 1) := by decide +kernel
theorem d_M_putAside_23 : decode b_M_putAside 23 = .ok (.iload_n 1, 1) := by decide +kernel
theorem d_M_putAside_24 : decode b_M_putAside 24 = .ok (.bipush 8, 2) := by decide +kernel
theorem d_M_putAside_26 : decode b_M_putAside 26 = .ok (.if_icmp .ge 33, 3) := by decide +kernel
theorem d_M_putAside_29 : decode b_M_putAside 29 = .ok (.aload_n 0, 1) := by decide +kernel
theorem d_M_putAside_30 : decode b_M_putAside 30 = .ok (.getfield 55, 3) := by decide +kernel
theorem d_M_putAside_33 : decode b_M_putAside 33 = .ok (.iload_n 1, 1) := by decide +kernel
theorem d_M_putAside_34 : decode b_M_putAside 34 = .ok (.aload_n 0, 1) := by decide +kernel
theorem d_M_putAside_35 : decode b_M_putAside 35 = .ok (.getfield 30, 3) := by decide +kernel
theorem d_M_putAside_38 : decode b_M_putAside 38 = .ok (.iload_n 1, 1) := by decide +kernel
theorem d_M_putAside_39 : decode b_M_putAside 39 = .ok (.iaload, 1) := by decide +kernel
theorem d_M_putAside_40 : decode b_M_putAside 40 = .ok (.iastore, 1) := by decide +kernel
theorem d_M_putAside_41 : decode b_M_putAside 41 = .ok (.aload_n 0, 1) := by decide +kernel
theorem d_M_putAside_42 : decode b_M_putAside 42 = .ok (.getfield 58, 3) := by decide +kernel
theorem d_M_putAside_45 : decode b_M_putAside 45 = .ok (.iload_n 1, 1) := by decide +kernel
theorem d_M_putAside_46 : decode b_M_putAside 46 = .ok (.aload_n 0, 1) := by decide +kernel
theorem d_M_putAside_47 : decode b_M_putAside 47 = .ok (.getfield 33, 3) := by decide +kernel
theorem d_M_putAside_50 : decode b_M_putAside 50 = .ok (.iload_n 1, 1) := by decide +kernel
theorem d_M_putAside_51 : decode b_M_putAside 51 = .ok (.baload, 1) := by decide +kernel
theorem d_M_putAside_52 : decode b_M_putAside 52 = .ok (.bastore, 1) := by decide +kernel
theorem d_M_putAside_53 : decode b_M_putAside 53 = .ok (.iinc 1 1, 3) := by decide +kernel
theorem d_M_putAside_56 : decode b_M_putAside 56 = .ok (.goto (-33), 3) := by decide +kernel
theorem d_M_putAside_59 : decode b_M_putAside 59 = .ok (.return_, 1) := by decide +kernel
def m_M_putAside_23 (N : Nat) : Nat → SX → Int32 → Option (SX)
  | 0, _, _ => none
  | n23 + 1, σ, v1 =>
    (if 8 ≤ v1 then some σ else (if inb v1 8 = true then (if inb v1 8 = true then (if inb v1 8 = true then (if inb v1 8 = true then m_M_putAside_23 N n23 (w3 (w3 σ 0 13 v1 ((σ 0).2 5 v1.toNatClampNeg)) 0 14 v1 (vp_nar .boolean (((w3 σ 0 13 v1 ((σ 0).2 5 v1.toNatClampNeg)) 0).2 6 v1.toNatClampNeg))) (v1 + 1) else none) else none) else none) else none))

def m_M_putAside (N : Nat) (σ : SX) : Option (SX) :=
  m_M_putAside_23 N N (w1 (w1 (w1 σ 0 14 ((σ 0).1 9)) 0 15 (((w1 σ 0 14 ((σ 0).1 9)) 0).1 10)) 0 16 0) 0

set_option maxHeartbeats 4000000 in
set_option maxRecDepth 100000 in
theorem c_M_putAside (l : Launch) (dC : Nat → ClassId) (dI : Nat → Nat → Nat) (ad : Nat → Nat → Nat) (cs : Nat → ClassId) (sz N : Nat) (σ : SX) {σ0 : SX} (hM : m_M_putAside N σ = some σ0) : Met l y_M_putAside (wd y_M_putAside b_M_putAside 2 none) ({ frames := 0, cells := 0, slots := 0, locals := 0 }) (va_Pc [.ref (ad 0 0)] (preM dC dI ad cs sz σ)) (va_Qv (fun (u : SX) => u = σ0) (atM dC dI ad cs (va_A (wM ad cs σ) sz)) (va_A (wM ad cs σ) sz)) 0 0 (va_A (wM ad cs σ) sz) := by
  refine Met.ofW (cc := b_M_putAside) (maxL := 2) (ret := none) (by decide) rfl ?_
  intro p e s m args below meth c s₁ B hml hv
  obtain ⟨rfl, hsz, hP, hK, hD0, hN⟩ := hv
  have hx := B.exec
  have hb := B.bytes
  have hr := B.returns
  have hts := atoms_spec (ws := (wd y_M_putAside b_M_putAside 2 none)) B.pre
  have htb : ∀ w ∈ tb, w.before _ s = true := fun w h => hts w (List.mem_cons_of_mem _ h)
  have hown : s.vm.findClass R_M = some m.cls := findClass_of_methodNamed B.named
  have hlocks := B.notSynchronized
  subst hsz
  have hD := hD0.self (sz := s.heap.size)
  generalize hAe : va_A (wM ad cs σ) s.heap.size = A at hD ⊢
  have hA : ∀ q : Nat, s.heap.size ≤ q → A q := fun q h => by rw [← hAe]; exact Or.inr h
  have hS : va_S A s.heap s.heap [] := va_S.rf
  have hP : va_P (dC, dI) classes (wM ad cs σ) s.heap := hP
  have hl := lv_entry ([.ref (ad 0 0)]) (n := 2) (Nat.le_of_ble_eq_true rfl)
  rw [lg_entry_eq]
  generalize (lg_sl ([.ref (ad 0 0)]) ++ List.replicate (2 - (lg_sl ([.ref (ad 0 0)])).length) Slot.unset).toArray = ls at hl ⊢
  have hl : lv_has ls 2 [(0, .ref (ad 0 0))] := hl
  rw [m_M_putAside] at hM
  refine W_loop (pc := 23) (fun n23 H locs ls st => ∃ (σ : SX) (v1 : Int32), st = [] ∧ m_M_putAside_23 N n23 σ v1 = some σ0 ∧ lv_has ls 2 [(0, .ref (ad 0 0)), (1, .int v1)] ∧ va_P (dC, dI) classes (wM ad cs σ) H ∧ va_D A (wM ad cs σ) ∧ va_S A s.heap H locs) ?_ ?_ ?_
  · rintro H locs ls st ⟨σ, v1, -, hM, -⟩
    rw [m_M_putAside_23] at hM; cases hM
  · intro n23 K23 H locs ls st hI
    obtain ⟨σ, v1, rfl, hM, hl, hP, hD, hS⟩ := hI
    rw [m_M_putAside_23] at hM
    refine lv_iload_n hx hb d_M_putAside_23 rfl (lv_at hl 1 rfl) ?_
    refine lv_bipush (v := 8) hx hb d_M_putAside_24 (by decide) ?_
    refine lv_icmp_ge (tgt := 59) hx hb d_M_putAside_26 (by decide) (fun h26 => ?_) (fun h26 => ?_)
    · rw [if_pos h26] at hM
      have e9 := Option.some.inj hM
      exact W.vret hx hb hr (fun t ht hW => ⟨⟨σ, rfl, e9, by rw [ht]; exact hP, va_K.moved hW.alike hK, hD⟩, hS.F ht⟩) hS.2.2 d_M_putAside_59
    · rw [if_neg h26] at hM
      refine lv_aload_n hx hb d_M_putAside_29 rfl (lv_at hl 0 rfl) ?_
      refine va_get (D := (dC, dI)) (ci := 7) (v := .ref (ad 0 13)) (C := R_M) (T := F_M) (N := 33) hx hb htb in_M hown hK hP 0 (g_M) rfl 27 (by decide) (htb _ k_646) (fun _ h9 => h9) rfl d_M_putAside_30 ?_
      refine lv_iload_n hx hb d_M_putAside_33 rfl (lv_at hl 1 rfl) ?_
      refine lv_aload_n hx hb d_M_putAside_34 rfl (lv_at hl 0 rfl) ?_
      refine va_get (D := (dC, dI)) (ci := 7) (v := .ref (ad 0 5)) (C := R_M) (T := F_M) (N := 33) hx hb htb in_M hown hK hP 0 (g_M) rfl 14 (by decide) (htb _ k_633) (fun _ h9 => h9) rfl d_M_putAside_35 ?_
      refine lv_iload_n hx hb d_M_putAside_38 rfl (lv_at hl 1 rfl) ?_
      have hg39 := gd_c hM
      have hM := gd_v hM
      refine va_iald hx hb hK hP 5 0 (g_M_a5) rfl (inb_in hg39) d_M_putAside_39 ?_
      have hg40 := gd_c hM
      have hM := gd_v hM
      refine va_iast (i := v1) (x := ((σ 0).2 5 v1.toNatClampNeg)) hx hb hK hP hD hS 13 0 (g_M_a13) rfl (inb_in hg40) d_M_putAside_40 (fun H locs hP hD hS => ?_)
      have hP := P_eq (t_M_13) hP
      have hD := D_eq (t_M_13) hD
      refine lv_aload_n hx hb d_M_putAside_41 rfl (lv_at hl 0 rfl) ?_
      refine va_get (D := (dC, dI)) (ci := 7) (v := .ref (ad 0 14)) (C := R_M) (T := F_M) (N := 33) hx hb htb in_M hown hK hP 0 (g_M) rfl 28 (by decide) (htb _ k_647) (fun _ h9 => h9) rfl d_M_putAside_42 ?_
      refine lv_iload_n hx hb d_M_putAside_45 rfl (lv_at hl 1 rfl) ?_
      refine lv_aload_n hx hb d_M_putAside_46 rfl (lv_at hl 0 rfl) ?_
      refine va_get (D := (dC, dI)) (ci := 7) (v := .ref (ad 0 6)) (C := R_M) (T := F_M) (N := 33) hx hb htb in_M hown hK hP 0 (g_M) rfl 15 (by decide) (htb _ k_634) (fun _ h9 => h9) rfl d_M_putAside_47 ?_
      refine lv_iload_n hx hb d_M_putAside_50 rfl (lv_at hl 1 rfl) ?_
      have hg51 := gd_c hM
      have hM := gd_v hM
      refine va_zald hx hb hK hP 6 1 (g_M_a6) rfl (inb_in hg51) d_M_putAside_51 ?_
      have hg52 := gd_c hM
      have hM := gd_v hM
      refine va_zast (i := v1) (x := (((w3 σ 0 13 v1 ((σ 0).2 5 v1.toNatClampNeg)) 0).2 6 v1.toNatClampNeg)) hx hb hK hP hD hS 14 1 (g_M_a14) rfl (inb_in hg52) d_M_putAside_52 (fun H locs hP hD hS => ?_)
      have hP := P_eq (t_M_14) hP
      have hD := D_eq (t_M_14) hD
      refine lv_iinc (k := 1) (v := (v1 + 1)) hx hb d_M_putAside_53 hl rfl rfl (by decide) (lv' := [(1, .int (v1 + 1)), (0, .ref (ad 0 0))]) rfl (fun ls hl => ?_)
      refine lv_goto (tgt := 23) hx hb d_M_putAside_56 (by decide) ?_
      exact K23 _ _ _ _ ⟨(w3 (w3 σ 0 13 v1 ((σ 0).2 5 v1.toNatClampNeg)) 0 14 v1 (vp_nar .boolean (((w3 σ 0 13 v1 ((σ 0).2 5 v1.toNatClampNeg)) 0).2 6 v1.toNatClampNeg))), (v1 + 1), rfl, hM, lv_sub hl [1, 0] rfl, hP, hD, hS⟩
  intro K23
  refine lv_aload_n hx hb d_M_putAside_0 rfl (lv_at hl 0 rfl) ?_
  refine lv_aload_n hx hb d_M_putAside_1 rfl (lv_at hl 0 rfl) ?_
  refine va_get (D := (dC, dI)) (ci := 7) (v := .int ((σ 0).1 9)) (C := R_M) (T := F_M) (N := 33) hx hb htb in_M hown hK hP 0 (g_M) rfl 13 (by decide) (htb _ k_632) (fun _ h9 => h9) rfl d_M_putAside_2 ?_
  refine va_put (D := (dC, dI)) (ci := 7) (v := .int ((σ 0).1 9)) (ty := .int) (C := R_M) (T := F_M) (N := 33) hx hb htb in_M ft_M ft_M_ok n_M hown hK hP hD hS 0 (g_M) rfl 26 (by decide) (htb _ k_645) (fun _ h9 => h9) rfl (by decide +kernel) rfl rfl (Nat.le_of_ble_eq_true rfl) d_M_putAside_5 (fun H locs hP hD hS => ?_)
  have hP := P_eq (s_M_14) hP
  have hD := D_eq (s_M_14) hD
  refine lv_aload_n hx hb d_M_putAside_8 rfl (lv_at hl 0 rfl) ?_
  refine lv_aload_n hx hb d_M_putAside_9 rfl (lv_at hl 0 rfl) ?_
  refine va_get (D := (dC, dI)) (ci := 7) (v := .int (((w1 σ 0 14 ((σ 0).1 9)) 0).1 10)) (C := R_M) (T := F_M) (N := 33) hx hb htb in_M hown hK hP 0 (g_M) rfl 16 (by decide) (htb _ k_635) (fun _ h9 => h9) rfl d_M_putAside_10 ?_
  refine va_put (D := (dC, dI)) (ci := 7) (v := .int (((w1 σ 0 14 ((σ 0).1 9)) 0).1 10)) (ty := .int) (C := R_M) (T := F_M) (N := 33) hx hb htb in_M ft_M ft_M_ok n_M hown hK hP hD hS 0 (g_M) rfl 29 (by decide) (htb _ k_648) (fun _ h9 => h9) rfl (by decide +kernel) rfl rfl (Nat.le_of_ble_eq_true rfl) d_M_putAside_13 (fun H locs hP hD hS => ?_)
  have hP := P_eq (s_M_15) hP
  have hD := D_eq (s_M_15) hD
  refine lv_aload_n hx hb d_M_putAside_16 rfl (lv_at hl 0 rfl) ?_
  refine lv_iconst (v := 0) hx hb d_M_putAside_17 (by decide) ?_
  refine va_put (D := (dC, dI)) (ci := 7) (v := .int 0) (ty := .int) (C := R_M) (T := F_M) (N := 33) hx hb htb in_M ft_M ft_M_ok n_M hown hK hP hD hS 0 (g_M) rfl 30 (by decide) (htb _ k_649) (fun _ h9 => h9) rfl (by decide +kernel) rfl rfl (Nat.le_of_ble_eq_true rfl) d_M_putAside_18 (fun H locs hP hD hS => ?_)
  have hP := P_eq (s_M_16) hP
  have hD := D_eq (s_M_16) hD
  refine lv_iconst (v := 0) hx hb d_M_putAside_21 (by decide) ?_
  refine lv_istore_n hx hb d_M_putAside_22 rfl hl (by decide) (lv' := [(1, .int 0), (0, .ref (ad 0 0))]) rfl (fun ls hl => ?_)
  exact K23 N _ _ _ _ ⟨(w1 (w1 (w1 σ 0 14 ((σ 0).1 9)) 0 15 (((w1 σ 0 14 ((σ 0).1 9)) 0).1 10)) 0 16 0), 0, rfl, hM, lv_sub hl [1, 0] rfl, hP, hD, hS⟩

theorem d_M_takeBack_0 : decode b_M_takeBack 0 = .ok (.aload_n 0, 1) := by decide +kernel
theorem d_M_takeBack_1 : decode b_M_takeBack 1 = .ok (.aload_n 0, 1) := by decide +kernel
theorem d_M_takeBack_2 : decode b_M_takeBack 2 = .ok (.getfield 123, 3) := by decide +kernel
theorem d_M_takeBack_5 : decode b_M_takeBack 5 = .ok (.putfield 96, 3) := by decide +kernel
theorem d_M_takeBack_8 : decode b_M_takeBack 8 = .ok (.aload_n 0, 1) := by decide +kernel
theorem d_M_takeBack_9 : decode b_M_takeBack 9 = .ok (.aload_n 0, 1) := by decide +kernel
theorem d_M_takeBack_10 : decode b_M_takeBack 10 = .ok (.getfield 126, 3) := by decide +kernel
theorem d_M_takeBack_13 : decode b_M_takeBack 13 = .ok (.putfield 99, 3) := by decide +kernel
theorem d_M_takeBack_16 : decode b_M_takeBack 16 = .ok (.iconst 0, 1) := by decide +kernel
theorem d_M_takeBack_17 : decode b_M_takeBack 17 = .ok (.istore_n 1, 1) := by decide +kernel
theorem d_M_takeBack_18 : decode b_M_takeBack 18 = .ok (.iload_n 1, 1) := by decide +kernel
theorem d_M_takeBack_19 : decode b_M_takeBack 19 = .ok (.bipush 8, 2) := by decide +kernel
theorem d_M_takeBack_21 : decode b_M_takeBack 21 = .ok (.if_icmp .ge 28, 3) := by decide +kernel
theorem d_M_takeBack_24 : decode b_M_takeBack 24 = .ok (.aload_n 0, 1) := by decide +kernel
theorem d_M_takeBack_25 : decode b_M_takeBack 25 = .ok (.getfield 30, 3) := by decide +kernel
theorem d_M_takeBack_28 : decode b_M_takeBack 28 = .ok (.iload_n 1, 1) := by decide +kernel
theorem d_M_takeBack_29 : decode b_M_takeBack 29 = .ok (.aload_n 0, 1) := by decide +kernel
theorem d_M_takeBack_30 : decode b_M_takeBack 30 = .ok (.getfield 55, 3) := by decide +kernel
theorem d_M_takeBack_33 : decode b_M_takeBack 33 = .ok (.iload_n 1, 1) := by decide +kernel
theorem d_M_takeBack_34 : decode b_M_takeBack 34 = .ok (.iaload, 1) := by decide +kernel
theorem d_M_takeBack_35 : decode b_M_takeBack 35 = .ok (.iastore, 1) := by decide +kernel
theorem d_M_takeBack_36 : decode b_M_takeBack 36 = .ok (.aload_n 0, 1) := by decide +kernel
theorem d_M_takeBack_37 : decode b_M_takeBack 37 = .ok (.getfield 33, 3) := by decide +kernel
theorem d_M_takeBack_40 : decode b_M_takeBack 40 = .ok (.iload_n 1, 1) := by decide +kernel
theorem d_M_takeBack_41 : decode b_M_takeBack 41 = .ok (.iconst 0, 1) := by decide +kernel
theorem d_M_takeBack_42 : decode b_M_takeBack 42 = .ok (.bastore, 1) := by decide +kernel
theorem d_M_takeBack_43 : decode b_M_takeBack 43 = .ok (.iinc 1 1, 3) := by decide +kernel
theorem d_M_takeBack_46 : decode b_M_takeBack 46 = .ok (.goto (-28), 3) := by decide +kernel
theorem d_M_takeBack_49 : decode b_M_takeBack 49 = .ok (.return_, 1) := by decide +kernel
def m_M_takeBack_18 (N : Nat) : Nat → SX → Int32 → Option (SX)
  | 0, _, _ => none
  | n18 + 1, σ, v1 =>
    (if 8 ≤ v1 then some σ else (if inb v1 8 = true then (if inb v1 8 = true then (if inb v1 8 = true then m_M_takeBack_18 N n18 (w3 (w3 σ 0 5 v1 ((σ 0).2 13 v1.toNatClampNeg)) 0 6 v1 (vp_nar .boolean 0)) (v1 + 1) else none) else none) else none))

def m_M_takeBack (N : Nat) (σ : SX) : Option (SX) :=
  m_M_takeBack_18 N N (w1 (w1 σ 0 9 ((σ 0).1 14)) 0 10 (((w1 σ 0 9 ((σ 0).1 14)) 0).1 15)) 0

set_option maxHeartbeats 4000000 in
set_option maxRecDepth 100000 in
theorem c_M_takeBack (l : Launch) (dC : Nat → ClassId) (dI : Nat → Nat → Nat) (ad : Nat → Nat → Nat) (cs : Nat → ClassId) (sz N : Nat) (σ : SX) {σ0 : SX} (hM : m_M_takeBack N σ = some σ0) : Met l y_M_takeBack (wd y_M_takeBack b_M_takeBack 2 none) ({ frames := 0, cells := 0, slots := 0, locals := 0 }) (va_Pc [.ref (ad 0 0)] (preM dC dI ad cs sz σ)) (va_Qv (fun (u : SX) => u = σ0) (atM dC dI ad cs (va_A (wM ad cs σ) sz)) (va_A (wM ad cs σ) sz)) 0 0 (va_A (wM ad cs σ) sz) := by
  refine Met.ofW (cc := b_M_takeBack) (maxL := 2) (ret := none) (by decide) rfl ?_
  intro p e s m args below meth c s₁ B hml hv
  obtain ⟨rfl, hsz, hP, hK, hD0, hN⟩ := hv
  have hx := B.exec
  have hb := B.bytes
  have hr := B.returns
  have hts := atoms_spec (ws := (wd y_M_takeBack b_M_takeBack 2 none)) B.pre
  have htb : ∀ w ∈ tb, w.before _ s = true := fun w h => hts w (List.mem_cons_of_mem _ h)
  have hown : s.vm.findClass R_M = some m.cls := findClass_of_methodNamed B.named
  have hlocks := B.notSynchronized
  subst hsz
  have hD := hD0.self (sz := s.heap.size)
  generalize hAe : va_A (wM ad cs σ) s.heap.size = A at hD ⊢
  have hA : ∀ q : Nat, s.heap.size ≤ q → A q := fun q h => by rw [← hAe]; exact Or.inr h
  have hS : va_S A s.heap s.heap [] := va_S.rf
  have hP : va_P (dC, dI) classes (wM ad cs σ) s.heap := hP
  have hl := lv_entry ([.ref (ad 0 0)]) (n := 2) (Nat.le_of_ble_eq_true rfl)
  rw [lg_entry_eq]
  generalize (lg_sl ([.ref (ad 0 0)]) ++ List.replicate (2 - (lg_sl ([.ref (ad 0 0)])).length) Slot.unset).toArray = ls at hl ⊢
  have hl : lv_has ls 2 [(0, .ref (ad 0 0))] := hl
  rw [m_M_takeBack] at hM
  refine W_loop (pc := 18) (fun n18 H locs ls st => ∃ (σ : SX) (v1 : Int32), st = [] ∧ m_M_takeBack_18 N n18 σ v1 = some σ0 ∧ lv_has ls 2 [(0, .ref (ad 0 0)), (1, .int v1)] ∧ va_P (dC, dI) classes (wM ad cs σ) H ∧ va_D A (wM ad cs σ) ∧ va_S A s.heap H locs) ?_ ?_ ?_
  · rintro H locs ls st ⟨σ, v1, -, hM, -⟩
    rw [m_M_takeBack_18] at hM; cases hM
  · intro n18 K18 H locs ls st hI
    obtain ⟨σ, v1, rfl, hM, hl, hP, hD, hS⟩ := hI
    rw [m_M_takeBack_18] at hM
    refine lv_iload_n hx hb d_M_takeBack_18 rfl (lv_at hl 1 rfl) ?_
    refine lv_bipush (v := 8) hx hb d_M_takeBack_19 (by decide) ?_
    refine lv_icmp_ge (tgt := 49) hx hb d_M_takeBack_21 (by decide) (fun h21 => ?_) (fun h21 => ?_)
    · rw [if_pos h21] at hM
      have e9 := Option.some.inj hM
      exact W.vret hx hb hr (fun t ht hW => ⟨⟨σ, rfl, e9, by rw [ht]; exact hP, va_K.moved hW.alike hK, hD⟩, hS.F ht⟩) hS.2.2 d_M_takeBack_49
    · rw [if_neg h21] at hM
      refine lv_aload_n hx hb d_M_takeBack_24 rfl (lv_at hl 0 rfl) ?_
      refine va_get (D := (dC, dI)) (ci := 7) (v := .ref (ad 0 5)) (C := R_M) (T := F_M) (N := 33) hx hb htb in_M hown hK hP 0 (g_M) rfl 14 (by decide) (htb _ k_633) (fun _ h9 => h9) rfl d_M_takeBack_25 ?_
      refine lv_iload_n hx hb d_M_takeBack_28 rfl (lv_at hl 1 rfl) ?_
      refine lv_aload_n hx hb d_M_takeBack_29 rfl (lv_at hl 0 rfl) ?_
      refine va_get (D := (dC, dI)) (ci := 7) (v := .ref (ad 0 13)) (C := R_M) (T := F_M) (N := 33) hx hb htb in_M hown hK hP 0 (g_M) rfl 27 (by decide) (htb _ k_646) (fun _ h9 => h9) rfl d_M_takeBack_30 ?_
      refine lv_iload_n hx hb d_M_takeBack_33 rfl (lv_at hl 1 rfl) ?_
      have hg34 := gd_c hM
      have hM := gd_v hM
      refine va_iald hx hb hK hP 13 0 (g_M_a13) rfl (inb_in hg34) d_M_takeBack_34 ?_
      have hg35 := gd_c hM
      have hM := gd_v hM
      refine va_iast (i := v1) (x := ((σ 0).2 13 v1.toNatClampNeg)) hx hb hK hP hD hS 5 0 (g_M_a5) rfl (inb_in hg35) d_M_takeBack_35 (fun H locs hP hD hS => ?_)
      have hP := P_eq (t_M_5) hP
      have hD := D_eq (t_M_5) hD
      refine lv_aload_n hx hb d_M_takeBack_36 rfl (lv_at hl 0 rfl) ?_
      refine va_get (D := (dC, dI)) (ci := 7) (v := .ref (ad 0 6)) (C := R_M) (T := F_M) (N := 33) hx hb htb in_M hown hK hP 0 (g_M) rfl 15 (by decide) (htb _ k_634) (fun _ h9 => h9) rfl d_M_takeBack_37 ?_
      refine lv_iload_n hx hb d_M_takeBack_40 rfl (lv_at hl 1 rfl) ?_
      refine lv_iconst (v := 0) hx hb d_M_takeBack_41 (by decide) ?_
      have hg42 := gd_c hM
      have hM := gd_v hM
      refine va_zast (i := v1) (x := 0) hx hb hK hP hD hS 6 1 (g_M_a6) rfl (inb_in hg42) d_M_takeBack_42 (fun H locs hP hD hS => ?_)
      have hP := P_eq (t_M_6) hP
      have hD := D_eq (t_M_6) hD
      refine lv_iinc (k := 1) (v := (v1 + 1)) hx hb d_M_takeBack_43 hl rfl rfl (by decide) (lv' := [(1, .int (v1 + 1)), (0, .ref (ad 0 0))]) rfl (fun ls hl => ?_)
      refine lv_goto (tgt := 18) hx hb d_M_takeBack_46 (by decide) ?_
      exact K18 _ _ _ _ ⟨(w3 (w3 σ 0 5 v1 ((σ 0).2 13 v1.toNatClampNeg)) 0 6 v1 (vp_nar .boolean 0)), (v1 + 1), rfl, hM, lv_sub hl [1, 0] rfl, hP, hD, hS⟩
  intro K18
  refine lv_aload_n hx hb d_M_takeBack_0 rfl (lv_at hl 0 rfl) ?_
  refine lv_aload_n hx hb d_M_takeBack_1 rfl (lv_at hl 0 rfl) ?_
  refine va_get (D := (dC, dI)) (ci := 7) (v := .int ((σ 0).1 14)) (C := R_M) (T := F_M) (N := 33) hx hb htb in_M hown hK hP 0 (g_M) rfl 26 (by decide) (htb _ k_645) (fun _ h9 => h9) rfl d_M_takeBack_2 ?_
  refine va_put (D := (dC, dI)) (ci := 7) (v := .int ((σ 0).1 14)) (ty := .int) (C := R_M) (T := F_M) (N := 33) hx hb htb in_M ft_M ft_M_ok n_M hown hK hP hD hS 0 (g_M) rfl 13 (by decide) (htb _ k_632) (fun _ h9 => h9) rfl (by decide +kernel) rfl rfl (Nat.le_of_ble_eq_true rfl) d_M_takeBack_5 (fun H locs hP hD hS => ?_)
  have hP := P_eq (s_M_9) hP
  have hD := D_eq (s_M_9) hD
  refine lv_aload_n hx hb d_M_takeBack_8 rfl (lv_at hl 0 rfl) ?_
  refine lv_aload_n hx hb d_M_takeBack_9 rfl (lv_at hl 0 rfl) ?_
  refine va_get (D := (dC, dI)) (ci := 7) (v := .int (((w1 σ 0 9 ((σ 0).1 14)) 0).1 15)) (C := R_M) (T := F_M) (N := 33) hx hb htb in_M hown hK hP 0 (g_M) rfl 29 (by decide) (htb _ k_648) (fun _ h9 => h9) rfl d_M_takeBack_10 ?_
  refine va_put (D := (dC, dI)) (ci := 7) (v := .int (((w1 σ 0 9 ((σ 0).1 14)) 0).1 15)) (ty := .int) (C := R_M) (T := F_M) (N := 33) hx hb htb in_M ft_M ft_M_ok n_M hown hK hP hD hS 0 (g_M) rfl 16 (by decide) (htb _ k_635) (fun _ h9 => h9) rfl (by decide +kernel) rfl rfl (Nat.le_of_ble_eq_true rfl) d_M_takeBack_13 (fun H locs hP hD hS => ?_)
  have hP := P_eq (s_M_10) hP
  have hD := D_eq (s_M_10) hD
  refine lv_iconst (v := 0) hx hb d_M_takeBack_16 (by decide) ?_
  refine lv_istore_n hx hb d_M_takeBack_17 rfl hl (by decide) (lv' := [(1, .int 0), (0, .ref (ad 0 0))]) rfl (fun ls hl => ?_)
  exact K18 N _ _ _ _ ⟨(w1 (w1 σ 0 9 ((σ 0).1 14)) 0 10 (((w1 σ 0 9 ((σ 0).1 14)) 0).1 15)), 0, rfl, hM, lv_sub hl [1, 0] rfl, hP, hD, hS⟩

theorem d_M_makeRun_0 : decode b_M_makeRun 0 = .ok (.aload_n 0, 1) := by decide +kernel
theorem d_M_makeRun_1 : decode b_M_makeRun 1 = .ok (.invokevirtual 129, 3) := by decide +kernel
theorem d_M_makeRun_4 : decode b_M_makeRun 4 = .ok (.istore_n 1, 1) := by decide +kernel
theorem d_M_makeRun_5 : decode b_M_makeRun 5 = .ok (.iload_n 1, 1) := by decide +kernel
theorem d_M_makeRun_6 : decode b_M_makeRun 6 = .ok (.ifCond .lt 117, 3) := by decide +kernel
theorem d_M_makeRun_9 : decode b_M_makeRun 9 = .ok (.aload_n 0, 1) := by decide +kernel
theorem d_M_makeRun_10 : decode b_M_makeRun 10 = .ok (.getfield 55, 3) := by decide +kernel
theorem d_M_makeRun_13 : decode b_M_makeRun 13 = .ok (.iload_n 1, 1) := by decide +kernel
theorem d_M_makeRun_14 : decode b_M_makeRun 14 = .ok (.iaload, 1) := by decide +kernel
theorem d_M_makeRun_15 : decode b_M_makeRun 15 = .ok (.istore_n 2, 1) := by decide +kernel
theorem d_M_makeRun_16 : decode b_M_makeRun 16 = .ok (.aload_n 0, 1) := by decide +kernel
theorem d_M_makeRun_17 : decode b_M_makeRun 17 = .ok (.iload_n 2, 1) := by decide +kernel
theorem d_M_makeRun_18 : decode b_M_makeRun 18 = .ok (.invokevirtual 133, 3) := by decide +kernel
theorem d_M_makeRun_21 : decode b_M_makeRun 21 = .ok (.ifCond .ne 5, 3) := by decide +kernel
theorem d_M_makeRun_24 : decode b_M_makeRun 24 = .ok (.iconst 0, 1) := by decide +kernel
theorem d_M_makeRun_25 : decode b_M_makeRun 25 = .ok (.ireturn, 1) := by decide +kernel
theorem d_M_makeRun_26 : decode b_M_makeRun 26 = .ok (.aload_n 0, 1) := by decide +kernel
theorem d_M_makeRun_27 : decode b_M_makeRun 27 = .ok (.getfield 126, 3) := by decide +kernel
theorem d_M_makeRun_30 : decode b_M_makeRun 30 = .ok (.aload_n 0, 1) := by decide +kernel
theorem d_M_makeRun_31 : decode b_M_makeRun 31 = .ok (.getfield 76, 3) := by decide +kernel
theorem d_M_makeRun_34 : decode b_M_makeRun 34 = .ok (.if_icmp .ge 41, 3) := by decide +kernel
theorem d_M_makeRun_37 : decode b_M_makeRun 37 = .ok (.aload_n 0, 1) := by decide +kernel
theorem d_M_makeRun_38 : decode b_M_makeRun 38 = .ok (.getfield 55, 3) := by decide +kernel
theorem d_M_makeRun_41 : decode b_M_makeRun 41 = .ok (.iload_n 1, 1) := by decide +kernel
theorem d_M_makeRun_42 : decode b_M_makeRun 42 = .ok (.aload_n 0, 1) := by decide +kernel
theorem d_M_makeRun_43 : decode b_M_makeRun 43 = .ok (.getfield 126, 3) := by decide +kernel
theorem d_M_makeRun_46 : decode b_M_makeRun 46 = .ok (.iastore, 1) := by decide +kernel
theorem d_M_makeRun_47 : decode b_M_makeRun 47 = .ok (.aload_n 0, 1) := by decide +kernel
theorem d_M_makeRun_48 : decode b_M_makeRun 48 = .ok (.getfield 58, 3) := by decide +kernel
theorem d_M_makeRun_51 : decode b_M_makeRun 51 = .ok (.iload_n 1, 1) := by decide +kernel
theorem d_M_makeRun_52 : decode b_M_makeRun 52 = .ok (.aload_n 0, 1) := by decide +kernel
theorem d_M_makeRun_53 : decode b_M_makeRun 53 = .ok (.aload_n 0, 1) := by decide +kernel
theorem d_M_makeRun_54 : decode b_M_makeRun 54 = .ok (.getfield 126, 3) := by decide +kernel
theorem d_M_makeRun_57 : decode b_M_makeRun 57 = .ok (.iload_n 2, 1) := by decide +kernel
theorem d_M_makeRun_58 : decode b_M_makeRun 58 = .ok (.invokevirtual 92, 3) := by decide +kernel
theorem d_M_makeRun_61 : decode b_M_makeRun 61 = .ok (.bastore, 1) := by decide +kernel
theorem d_M_makeRun_62 : decode b_M_makeRun 62 = .ok (.aload_n 0, 1) := by decide +kernel
theorem d_M_makeRun_63 : decode b_M_makeRun 63 = .ok (.aload_n 0, 1) := by decide +kernel
theorem d_M_makeRun_64 : decode b_M_makeRun 64 = .ok (.getfield 126, 3) := by decide +kernel
theorem d_M_makeRun_67 : decode b_M_makeRun 67 = .ok (.iconst 1, 1) := by decide +kernel
theorem d_M_makeRun_68 : decode b_M_makeRun 68 = .ok (.iadd, 1) := by decide +kernel
theorem d_M_makeRun_69 : decode b_M_makeRun 69 = .ok (.putfield 126, 3) := by decide +kernel
theorem d_M_makeRun_72 : decode b_M_makeRun 72 = .ok (.goto 43, 3) := by decide +kernel
theorem d_M_makeRun_75 : decode b_M_makeRun 75 = .ok (.aload_n 0, 1) := by decide +kernel
theorem d_M_makeRun_76 : decode b_M_makeRun 76 = .ok (.aload_n 0, 1) := by decide +kernel
theorem d_M_makeRun_77 : decode b_M_makeRun 77 = .ok (.getfield 123, 3) := by decide +kernel
theorem d_M_makeRun_80 : decode b_M_makeRun 80 = .ok (.iconst 1, 1) := by decide +kernel
theorem d_M_makeRun_81 : decode b_M_makeRun 81 = .ok (.isub, 1) := by decide +kernel
theorem d_M_makeRun_82 : decode b_M_makeRun 82 = .ok (.putfield 123, 3) := by decide +kernel
theorem d_M_makeRun_85 : decode b_M_makeRun 85 = .ok (.aload_n 0, 1) := by decide +kernel
theorem d_M_makeRun_86 : decode b_M_makeRun 86 = .ok (.getfield 55, 3) := by decide +kernel
theorem d_M_makeRun_89 : decode b_M_makeRun 89 = .ok (.iload_n 1, 1) := by decide +kernel
theorem d_M_makeRun_90 : decode b_M_makeRun 90 = .ok (.aload_n 0, 1) := by decide +kernel
theorem d_M_makeRun_91 : decode b_M_makeRun 91 = .ok (.getfield 55, 3) := by decide +kernel
theorem d_M_makeRun_94 : decode b_M_makeRun 94 = .ok (.aload_n 0, 1) := by decide +kernel
theorem d_M_makeRun_95 : decode b_M_makeRun 95 = .ok (.getfield 123, 3) := by decide +kernel
theorem d_M_makeRun_98 : decode b_M_makeRun 98 = .ok (.iaload, 1) := by decide +kernel
theorem d_M_makeRun_99 : decode b_M_makeRun 99 = .ok (.iastore, 1) := by decide +kernel
theorem d_M_makeRun_100 : decode b_M_makeRun 100 = .ok (.aload_n 0, 1) := by decide +kernel
theorem d_M_makeRun_101 : decode b_M_makeRun 101 = .ok (.getfield 58, 3) := by decide +kernel
theorem d_M_makeRun_104 : decode b_M_makeRun 104 = .ok (.iload_n 1, 1) := by decide +kernel
theorem d_M_makeRun_105 : decode b_M_makeRun 105 = .ok (.aload_n 0, 1) := by decide +kernel
theorem d_M_makeRun_106 : decode b_M_makeRun 106 = .ok (.getfield 58, 3) := by decide +kernel
theorem d_M_makeRun_109 : decode b_M_makeRun 109 = .ok (.aload_n 0, 1) := by decide +kernel
theorem d_M_makeRun_110 : decode b_M_makeRun 110 = .ok (.getfield 123, 3) := by decide +kernel
theorem d_M_makeRun_113 : decode b_M_makeRun 113 = .ok (.baload, 1) := by decide +kernel
theorem d_M_makeRun_114 : decode b_M_makeRun 114 = .ok (.bastore, 1) := by decide +kernel
theorem d_M_makeRun_115 : decode b_M_makeRun 115 = .ok (.aload_n 0, 1) := by decide +kernel
theorem d_M_makeRun_116 : decode b_M_makeRun 116 = .ok (.invokevirtual 129, 3) := by decide +kernel
theorem d_M_makeRun_119 : decode b_M_makeRun 119 = .ok (.istore_n 1, 1) := by decide +kernel
theorem d_M_makeRun_120 : decode b_M_makeRun 120 = .ok (.goto (-115), 3) := by decide +kernel
theorem d_M_makeRun_123 : decode b_M_makeRun 123 = .ok (.iconst 1, 1) := by decide +kernel
theorem d_M_makeRun_124 : decode b_M_makeRun 124 = .ok (.ireturn, 1) := by decide +kernel
def m_M_makeRun_5 (N : Nat) : Nat → SX → Int32 → Option (Int32 × SX)
  | 0, _, _ => none
  | n5 + 1, σ, v1 =>
    (if v1 < 0 then some (1, σ) else (if inb v1 8 = true then (bI (m_M_write N σ ((σ 0).2 13 v1.toNatClampNeg)) fun r18 σ18 => (if r18 = 0 then some (0, σ18) else (if ((σ18 0).1 2) ≤ ((σ18 0).1 15) then (if inb (((w1 σ18 0 14 (((σ18 0).1 14) - 1)) 0).1 14) 8 = true then (if inb v1 8 = true then (if inb (((w3 (w1 σ18 0 14 (((σ18 0).1 14) - 1)) 0 13 v1 (((w1 σ18 0 14 (((σ18 0).1 14) - 1)) 0).2 13 (((w1 σ18 0 14 (((σ18 0).1 14) - 1)) 0).1 14).toNatClampNeg)) 0).1 14) 8 = true then (if inb v1 8 = true then (bI (m_M_first N (w3 (w3 (w1 σ18 0 14 (((σ18 0).1 14) - 1)) 0 13 v1 (((w1 σ18 0 14 (((σ18 0).1 14) - 1)) 0).2 13 (((w1 σ18 0 14 (((σ18 0).1 14) - 1)) 0).1 14).toNatClampNeg)) 0 14 v1 (vp_nar .boolean (((w3 (w1 σ18 0 14 (((σ18 0).1 14) - 1)) 0 13 v1 (((w1 σ18 0 14 (((σ18 0).1 14) - 1)) 0).2 13 (((w1 σ18 0 14 (((σ18 0).1 14) - 1)) 0).1 14).toNatClampNeg)) 0).2 14 (((w3 (w1 σ18 0 14 (((σ18 0).1 14) - 1)) 0 13 v1 (((w1 σ18 0 14 (((σ18 0).1 14) - 1)) 0).2 13 (((w1 σ18 0 14 (((σ18 0).1 14) - 1)) 0).1 14).toNatClampNeg)) 0).1 14).toNatClampNeg)))) fun r116 σ116 => m_M_makeRun_5 N n5 (w3 (w3 (w1 σ18 0 14 (((σ18 0).1 14) - 1)) 0 13 v1 (((w1 σ18 0 14 (((σ18 0).1 14) - 1)) 0).2 13 (((w1 σ18 0 14 (((σ18 0).1 14) - 1)) 0).1 14).toNatClampNeg)) 0 14 v1 (vp_nar .boolean (((w3 (w1 σ18 0 14 (((σ18 0).1 14) - 1)) 0 13 v1 (((w1 σ18 0 14 (((σ18 0).1 14) - 1)) 0).2 13 (((w1 σ18 0 14 (((σ18 0).1 14) - 1)) 0).1 14).toNatClampNeg)) 0).2 14 (((w3 (w1 σ18 0 14 (((σ18 0).1 14) - 1)) 0 13 v1 (((w1 σ18 0 14 (((σ18 0).1 14) - 1)) 0).2 13 (((w1 σ18 0 14 (((σ18 0).1 14) - 1)) 0).1 14).toNatClampNeg)) 0).1 14).toNatClampNeg))) r116) else none) else none) else none) else none) else (if inb v1 8 = true then (bI (m_M_comesFirst N (w3 σ18 0 13 v1 ((σ18 0).1 15)) (((w3 σ18 0 13 v1 ((σ18 0).1 15)) 0).1 15) ((σ 0).2 13 v1.toNatClampNeg)) fun r58 σ58 => (if inb v1 8 = true then (bI (m_M_first N (w1 (w3 (w3 σ18 0 13 v1 ((σ18 0).1 15)) 0 14 v1 (vp_nar .boolean r58)) 0 15 ((((w3 (w3 σ18 0 13 v1 ((σ18 0).1 15)) 0 14 v1 (vp_nar .boolean r58)) 0).1 15) + 1))) fun r116 σ116 => m_M_makeRun_5 N n5 (w1 (w3 (w3 σ18 0 13 v1 ((σ18 0).1 15)) 0 14 v1 (vp_nar .boolean r58)) 0 15 ((((w3 (w3 σ18 0 13 v1 ((σ18 0).1 15)) 0 14 v1 (vp_nar .boolean r58)) 0).1 15) + 1)) r116) else none)) else none)))) else none))

def m_M_makeRun (N : Nat) (σ : SX) : Option (Int32 × SX) :=
  (bI (m_M_first N σ) fun r1 σ1 => m_M_makeRun_5 N N σ r1)

set_option maxHeartbeats 4000000 in
set_option maxRecDepth 100000 in
theorem c_M_makeRun (l : Launch) (dC : Nat → ClassId) (dI : Nat → Nat → Nat) (ad : Nat → Nat → Nat) (cs : Nat → ClassId) (sz N : Nat) (σ : SX) {r0 : Int32} {σ0 : SX} (hM : m_M_makeRun N σ = some (r0, σ0)) : Met l y_M_makeRun (wd y_M_makeRun b_M_makeRun 3 (some .boolean)) ({ frames := 3, cells := 0, slots := 0, locals := 70 }) (va_Pc [.ref (ad 0 0)] (preM dC dI ad cs sz σ)) (va_Qi (fun (r : Int32) (u : SX) => r = r0 ∧ u = σ0) (atM dC dI ad cs (va_A (wM ad cs σ) sz)) (va_A (wM ad cs σ) sz)) 0 0 (va_A (wM ad cs σ) sz) := by
  refine Met.ofW (cc := b_M_makeRun) (maxL := 3) (ret := (some .boolean)) (by decide) rfl ?_
  intro p e s m args below meth c s₁ B hml hv
  obtain ⟨rfl, hsz, hP, hK, hD0, hN⟩ := hv
  have hx := B.exec
  have hb := B.bytes
  have hr := B.returns
  have hts := atoms_spec (ws := (wd y_M_makeRun b_M_makeRun 3 (some .boolean))) B.pre
  have htb : ∀ w ∈ tb, w.before _ s = true := fun w h => hts w (List.mem_cons_of_mem _ h)
  have hown : s.vm.findClass R_M = some m.cls := findClass_of_methodNamed B.named
  have hlocks := B.notSynchronized
  subst hsz
  have hD := hD0.self (sz := s.heap.size)
  generalize hAe : va_A (wM ad cs σ) s.heap.size = A at hD ⊢
  have hA : ∀ q : Nat, s.heap.size ≤ q → A q := fun q h => by rw [← hAe]; exact Or.inr h
  have hS : va_S A s.heap s.heap [] := va_S.rf
  have hP : va_P (dC, dI) classes (wM ad cs σ) s.heap := hP
  have hl := lv_entry ([.ref (ad 0 0)]) (n := 3) (Nat.le_of_ble_eq_true rfl)
  rw [lg_entry_eq]
  generalize (lg_sl ([.ref (ad 0 0)]) ++ List.replicate (3 - (lg_sl ([.ref (ad 0 0)])).length) Slot.unset).toArray = ls at hl ⊢
  have hl : lv_has ls 3 [(0, .ref (ad 0 0))] := hl
  rw [m_M_makeRun] at hM
  refine W_loop (pc := 5) (fun n5 H locs ls st => ∃ (σ : SX) (v1 : Int32), st = [] ∧ m_M_makeRun_5 N n5 σ v1 = some (r0, σ0) ∧ lv_has ls 3 [(0, .ref (ad 0 0)), (1, .int v1)] ∧ va_P (dC, dI) classes (wM ad cs σ) H ∧ va_D A (wM ad cs σ) ∧ va_S A s.heap H locs) ?_ ?_ ?_
  · rintro H locs ls st ⟨σ, v1, -, hM, -⟩
    rw [m_M_makeRun_5] at hM; cases hM
  · intro n5 K5 H locs ls st hI
    obtain ⟨σ, v1, rfl, hM, hl, hP, hD, hS⟩ := hI
    rw [m_M_makeRun_5] at hM
    refine lv_iload_n hx hb d_M_makeRun_5 rfl (lv_at hl 1 rfl) ?_
    refine lv_if_lt (tgt := 123) hx hb d_M_makeRun_6 (by decide) (fun h6 => ?_) (fun h6 => ?_)
    · rw [if_pos h6] at hM
      refine lv_iconst (v := 1) hx hb d_M_makeRun_123 (by decide) ?_
      have e9 := Prod.mk.inj (Option.some.inj hM)
      exact W.zret (ty := .boolean) (v := 1) hx hb hr rfl (fun t ht hW => ⟨⟨1, σ, rfl, e9, by rw [ht]; exact hP, va_K.moved hW.alike hK, hD⟩, hS.F ht⟩) hS.2.2 d_M_makeRun_124
    · rw [if_neg h6] at hM
      refine lv_aload_n hx hb d_M_makeRun_9 rfl (lv_at hl 0 rfl) ?_
      refine va_get (D := (dC, dI)) (ci := 7) (v := .ref (ad 0 13)) (C := R_M) (T := F_M) (N := 33) hx hb htb in_M hown hK hP 0 (g_M) rfl 27 (by decide) (htb _ k_646) (fun _ h9 => h9) rfl d_M_makeRun_10 ?_
      refine lv_iload_n hx hb d_M_makeRun_13 rfl (lv_at hl 1 rfl) ?_
      have hg14 := gd_c hM
      have hM := gd_v hM
      refine va_iald hx hb hK hP 13 0 (g_M_a13) rfl (inb_in hg14) d_M_makeRun_14 ?_
      refine lv_istore_n hx hb d_M_makeRun_15 rfl hl (by decide) (lv' := [(2, .int ((σ 0).2 13 v1.toNatClampNeg)), (0, .ref (ad 0 0)), (1, .int v1)]) rfl (fun ls hl => ?_)
      refine lv_aload_n hx hb d_M_makeRun_16 rfl (lv_at hl 1 rfl) ?_
      refine lv_iload_n hx hb d_M_makeRun_17 rfl (lv_at hl 0 rfl) ?_
      have hF1 := free_all hD hS hA
      obtain ⟨x18, y18, hq18, hM⟩ := bI_some hM
      refine va_calli (va_runV (As := [.int ((σ 0).2 13 v1.toNatClampNeg)]) (rest := []) ⟨hx, hb, hml, hown, hts⟩ (c_M_write l dC dI ad cs _ N σ ((σ 0).2 13 v1.toNatClampNeg) hq18) (cwV 1 hts (goodV k_783 k_785 ks_M_write k_8 k_786) rfl rfl rfl ⟨rfl, by decide, by decide, by decide +kernel⟩ ⟨Nat.le_of_ble_eq_true rfl, Nat.le_of_ble_eq_true rfl⟩) ⟨blindM, va_recv hK hP rfl (g_M), payM hP hK hD hN⟩ rfl rfl hl.1 rfl (lv_room (Nat.le_of_ble_eq_true rfl)) d_M_makeRun_18 ⟨Nat.zero_le _, Nat.zero_le _⟩) hS (fun q _ h => hF1 q h) hF1 (fun r18 σ18 t H locs ht hvm hpost hB hz1 hk1 hS => ?_)
      obtain ⟨e1, e2⟩ := hpost
      subst e1
      subst e2
      obtain ⟨hP1, hK1, hD1⟩ := hB
      rw [ht] at hP1
      have hP := hP1
      have hD := hD1.weaken (fun _ _ _ h => hF1 _ h)
      refine lv_if_ne (tgt := 26) hx hb d_M_makeRun_21 (by decide) (fun h21 => ?_) (fun h21 => ?_)
      · rw [if_neg h21] at hM
        refine lv_aload_n hx hb d_M_makeRun_26 rfl (lv_at hl 1 rfl) ?_
        refine va_get (D := (dC, dI)) (ci := 7) (v := .int ((σ18 0).1 15)) (C := R_M) (T := F_M) (N := 33) hx hb htb in_M hown hK hP 0 (g_M) rfl 29 (by decide) (htb _ k_648) (fun _ h9 => h9) rfl d_M_makeRun_27 ?_
        refine lv_aload_n hx hb d_M_makeRun_30 rfl (lv_at hl 1 rfl) ?_
        refine va_get (D := (dC, dI)) (ci := 7) (v := .int ((σ18 0).1 2)) (C := R_M) (T := F_M) (N := 33) hx hb htb in_M hown hK hP 0 (g_M) rfl 2 (by decide) (htb _ k_621) (fun _ h9 => h9) rfl d_M_makeRun_31 ?_
        refine lv_icmp_ge (tgt := 75) hx hb d_M_makeRun_34 (by decide) (fun h34 => ?_) (fun h34 => ?_)
        · rw [if_pos h34] at hM
          refine lv_aload_n hx hb d_M_makeRun_75 rfl (lv_at hl 1 rfl) ?_
          refine lv_aload_n hx hb d_M_makeRun_76 rfl (lv_at hl 1 rfl) ?_
          refine va_get (D := (dC, dI)) (ci := 7) (v := .int ((σ18 0).1 14)) (C := R_M) (T := F_M) (N := 33) hx hb htb in_M hown hK hP 0 (g_M) rfl 26 (by decide) (htb _ k_645) (fun _ h9 => h9) rfl d_M_makeRun_77 ?_
          refine lv_iconst (v := 1) hx hb d_M_makeRun_80 (by decide) ?_
          refine lv_isub hx hb d_M_makeRun_81 ?_
          refine va_put (D := (dC, dI)) (ci := 7) (v := .int (((σ18 0).1 14) - 1)) (ty := .int) (C := R_M) (T := F_M) (N := 33) hx hb htb in_M ft_M ft_M_ok n_M hown hK hP hD hS 0 (g_M) rfl 26 (by decide) (htb _ k_645) (fun _ h9 => h9) rfl (by decide +kernel) rfl rfl (Nat.le_of_ble_eq_true rfl) d_M_makeRun_82 (fun H locs hP hD hS => ?_)
          have hP := P_eq (s_M_14) hP
          have hD := D_eq (s_M_14) hD
          refine lv_aload_n hx hb d_M_makeRun_85 rfl (lv_at hl 1 rfl) ?_
          refine va_get (D := (dC, dI)) (ci := 7) (v := .ref (ad 0 13)) (C := R_M) (T := F_M) (N := 33) hx hb htb in_M hown hK hP 0 (g_M) rfl 27 (by decide) (htb _ k_646) (fun _ h9 => h9) rfl d_M_makeRun_86 ?_
          refine lv_iload_n hx hb d_M_makeRun_89 rfl (lv_at hl 2 rfl) ?_
          refine lv_aload_n hx hb d_M_makeRun_90 rfl (lv_at hl 1 rfl) ?_
          refine va_get (D := (dC, dI)) (ci := 7) (v := .ref (ad 0 13)) (C := R_M) (T := F_M) (N := 33) hx hb htb in_M hown hK hP 0 (g_M) rfl 27 (by decide) (htb _ k_646) (fun _ h9 => h9) rfl d_M_makeRun_91 ?_
          refine lv_aload_n hx hb d_M_makeRun_94 rfl (lv_at hl 1 rfl) ?_
          refine va_get (D := (dC, dI)) (ci := 7) (v := .int (((w1 σ18 0 14 (((σ18 0).1 14) - 1)) 0).1 14)) (C := R_M) (T := F_M) (N := 33) hx hb htb in_M hown hK hP 0 (g_M) rfl 26 (by decide) (htb _ k_645) (fun _ h9 => h9) rfl d_M_makeRun_95 ?_
          have hg98 := gd_c hM
          have hM := gd_v hM
          refine va_iald hx hb hK hP 13 0 (g_M_a13) rfl (inb_in hg98) d_M_makeRun_98 ?_
          have hg99 := gd_c hM
          have hM := gd_v hM
          refine va_iast (i := v1) (x := (((w1 σ18 0 14 (((σ18 0).1 14) - 1)) 0).2 13 (((w1 σ18 0 14 (((σ18 0).1 14) - 1)) 0).1 14).toNatClampNeg)) hx hb hK hP hD hS 13 0 (g_M_a13) rfl (inb_in hg99) d_M_makeRun_99 (fun H locs hP hD hS => ?_)
          have hP := P_eq (t_M_13) hP
          have hD := D_eq (t_M_13) hD
          refine lv_aload_n hx hb d_M_makeRun_100 rfl (lv_at hl 1 rfl) ?_
          refine va_get (D := (dC, dI)) (ci := 7) (v := .ref (ad 0 14)) (C := R_M) (T := F_M) (N := 33) hx hb htb in_M hown hK hP 0 (g_M) rfl 28 (by decide) (htb _ k_647) (fun _ h9 => h9) rfl d_M_makeRun_101 ?_
          refine lv_iload_n hx hb d_M_makeRun_104 rfl (lv_at hl 2 rfl) ?_
          refine lv_aload_n hx hb d_M_makeRun_105 rfl (lv_at hl 1 rfl) ?_
          refine va_get (D := (dC, dI)) (ci := 7) (v := .ref (ad 0 14)) (C := R_M) (T := F_M) (N := 33) hx hb htb in_M hown hK hP 0 (g_M) rfl 28 (by decide) (htb _ k_647) (fun _ h9 => h9) rfl d_M_makeRun_106 ?_
          refine lv_aload_n hx hb d_M_makeRun_109 rfl (lv_at hl 1 rfl) ?_
          refine va_get (D := (dC, dI)) (ci := 7) (v := .int (((w3 (w1 σ18 0 14 (((σ18 0).1 14) - 1)) 0 13 v1 (((w1 σ18 0 14 (((σ18 0).1 14) - 1)) 0).2 13 (((w1 σ18 0 14 (((σ18 0).1 14) - 1)) 0).1 14).toNatClampNeg)) 0).1 14)) (C := R_M) (T := F_M) (N := 33) hx hb htb in_M hown hK hP 0 (g_M) rfl 26 (by decide) (htb _ k_645) (fun _ h9 => h9) rfl d_M_makeRun_110 ?_
          have hg113 := gd_c hM
          have hM := gd_v hM
          refine va_zald hx hb hK hP 14 1 (g_M_a14) rfl (inb_in hg113) d_M_makeRun_113 ?_
          have hg114 := gd_c hM
          have hM := gd_v hM
          refine va_zast (i := v1) (x := (((w3 (w1 σ18 0 14 (((σ18 0).1 14) - 1)) 0 13 v1 (((w1 σ18 0 14 (((σ18 0).1 14) - 1)) 0).2 13 (((w1 σ18 0 14 (((σ18 0).1 14) - 1)) 0).1 14).toNatClampNeg)) 0).2 14 (((w3 (w1 σ18 0 14 (((σ18 0).1 14) - 1)) 0 13 v1 (((w1 σ18 0 14 (((σ18 0).1 14) - 1)) 0).2 13 (((w1 σ18 0 14 (((σ18 0).1 14) - 1)) 0).1 14).toNatClampNeg)) 0).1 14).toNatClampNeg)) hx hb hK hP hD hS 14 1 (g_M_a14) rfl (inb_in hg114) d_M_makeRun_114 (fun H locs hP hD hS => ?_)
          have hP := P_eq (t_M_14) hP
          have hD := D_eq (t_M_14) hD
          refine lv_aload_n hx hb d_M_makeRun_115 rfl (lv_at hl 1 rfl) ?_
          obtain ⟨x116, y116, hq116, hM⟩ := bI_some hM
          refine va_calli (va_runV (As := []) (rest := []) ⟨hx, hb, hml, hown, hts⟩ (c_M_first l dC dI ad cs _ N (w3 (w3 (w1 σ18 0 14 (((σ18 0).1 14) - 1)) 0 13 v1 (((w1 σ18 0 14 (((σ18 0).1 14) - 1)) 0).2 13 (((w1 σ18 0 14 (((σ18 0).1 14) - 1)) 0).1 14).toNatClampNeg)) 0 14 v1 (vp_nar .boolean (((w3 (w1 σ18 0 14 (((σ18 0).1 14) - 1)) 0 13 v1 (((w1 σ18 0 14 (((σ18 0).1 14) - 1)) 0).2 13 (((w1 σ18 0 14 (((σ18 0).1 14) - 1)) 0).1 14).toNatClampNeg)) 0).2 14 (((w3 (w1 σ18 0 14 (((σ18 0).1 14) - 1)) 0 13 v1 (((w1 σ18 0 14 (((σ18 0).1 14) - 1)) 0).2 13 (((w1 σ18 0 14 (((σ18 0).1 14) - 1)) 0).1 14).toNatClampNeg)) 0).1 14).toNatClampNeg))) hq116) (cwV 0 hts (goodV k_779 k_781 ks_M_first k_8 k_782) rfl rfl rfl ⟨rfl, by decide, by decide, by decide +kernel⟩ ⟨Nat.le_of_ble_eq_true rfl, Nat.le_of_ble_eq_true rfl⟩) ⟨blindM, va_recv hK hP rfl (g_M), payM hP hK hD hN⟩ rfl rfl hl.1 rfl (lv_room (Nat.le_of_ble_eq_true rfl)) d_M_makeRun_116 ⟨Nat.zero_le _, Nat.zero_le _⟩) hS (fun q h0 h => absurd h0 (Nat.not_lt.mpr h)) (fun q h => hA q (Nat.le_trans hS.1 h)) (fun r116 u t H locs ht hvm hpost hB hz1 hk1 hS => ?_)
          obtain ⟨e1, e2⟩ := hpost
          subst e1
          subst e2
          have hP := keepP hP hk1
          refine lv_istore_n hx hb d_M_makeRun_119 rfl hl (by decide) (lv' := [(1, .int r116), (2, .int ((σ 0).2 13 v1.toNatClampNeg)), (0, .ref (ad 0 0))]) rfl (fun ls hl => ?_)
          refine lv_goto (tgt := 5) hx hb d_M_makeRun_120 (by decide) ?_
          exact K5 _ _ _ _ ⟨(w3 (w3 (w1 σ18 0 14 (((σ18 0).1 14) - 1)) 0 13 v1 (((w1 σ18 0 14 (((σ18 0).1 14) - 1)) 0).2 13 (((w1 σ18 0 14 (((σ18 0).1 14) - 1)) 0).1 14).toNatClampNeg)) 0 14 v1 (vp_nar .boolean (((w3 (w1 σ18 0 14 (((σ18 0).1 14) - 1)) 0 13 v1 (((w1 σ18 0 14 (((σ18 0).1 14) - 1)) 0).2 13 (((w1 σ18 0 14 (((σ18 0).1 14) - 1)) 0).1 14).toNatClampNeg)) 0).2 14 (((w3 (w1 σ18 0 14 (((σ18 0).1 14) - 1)) 0 13 v1 (((w1 σ18 0 14 (((σ18 0).1 14) - 1)) 0).2 13 (((w1 σ18 0 14 (((σ18 0).1 14) - 1)) 0).1 14).toNatClampNeg)) 0).1 14).toNatClampNeg))), r116, rfl, hM, lv_sub hl [2, 0] rfl, hP, hD, hS⟩
        · rw [if_neg h34] at hM
          refine lv_aload_n hx hb d_M_makeRun_37 rfl (lv_at hl 1 rfl) ?_
          refine va_get (D := (dC, dI)) (ci := 7) (v := .ref (ad 0 13)) (C := R_M) (T := F_M) (N := 33) hx hb htb in_M hown hK hP 0 (g_M) rfl 27 (by decide) (htb _ k_646) (fun _ h9 => h9) rfl d_M_makeRun_38 ?_
          refine lv_iload_n hx hb d_M_makeRun_41 rfl (lv_at hl 2 rfl) ?_
          refine lv_aload_n hx hb d_M_makeRun_42 rfl (lv_at hl 1 rfl) ?_
          refine va_get (D := (dC, dI)) (ci := 7) (v := .int ((σ18 0).1 15)) (C := R_M) (T := F_M) (N := 33) hx hb htb in_M hown hK hP 0 (g_M) rfl 29 (by decide) (htb _ k_648) (fun _ h9 => h9) rfl d_M_makeRun_43 ?_
          have hg46 := gd_c hM
          have hM := gd_v hM
          refine va_iast (i := v1) (x := ((σ18 0).1 15)) hx hb hK hP hD hS 13 0 (g_M_a13) rfl (inb_in hg46) d_M_makeRun_46 (fun H locs hP hD hS => ?_)
          have hP := P_eq (t_M_13) hP
          have hD := D_eq (t_M_13) hD
          refine lv_aload_n hx hb d_M_makeRun_47 rfl (lv_at hl 1 rfl) ?_
          refine va_get (D := (dC, dI)) (ci := 7) (v := .ref (ad 0 14)) (C := R_M) (T := F_M) (N := 33) hx hb htb in_M hown hK hP 0 (g_M) rfl 28 (by decide) (htb _ k_647) (fun _ h9 => h9) rfl d_M_makeRun_48 ?_
          refine lv_iload_n hx hb d_M_makeRun_51 rfl (lv_at hl 2 rfl) ?_
          refine lv_aload_n hx hb d_M_makeRun_52 rfl (lv_at hl 1 rfl) ?_
          refine lv_aload_n hx hb d_M_makeRun_53 rfl (lv_at hl 1 rfl) ?_
          refine va_get (D := (dC, dI)) (ci := 7) (v := .int (((w3 σ18 0 13 v1 ((σ18 0).1 15)) 0).1 15)) (C := R_M) (T := F_M) (N := 33) hx hb htb in_M hown hK hP 0 (g_M) rfl 29 (by decide) (htb _ k_648) (fun _ h9 => h9) rfl d_M_makeRun_54 ?_
          refine lv_iload_n hx hb d_M_makeRun_57 rfl (lv_at hl 0 rfl) ?_
          obtain ⟨x58, y58, hq58, hM⟩ := bI_some hM
          refine va_calli (va_runV (As := [.int (((w3 σ18 0 13 v1 ((σ18 0).1 15)) 0).1 15), .int ((σ 0).2 13 v1.toNatClampNeg)]) (rest := [.int v1, .ref (ad 0 14)]) ⟨hx, hb, hml, hown, hts⟩ (c_M_comesFirst l dC dI ad cs _ N (w3 σ18 0 13 v1 ((σ18 0).1 15)) (((w3 σ18 0 13 v1 ((σ18 0).1 15)) 0).1 15) ((σ 0).2 13 v1.toNatClampNeg) hq58) (cwV 2 hts (goodV k_739 k_741 ks_M_comesFirst k_8 k_742) rfl rfl rfl ⟨rfl, by decide, by decide, by decide +kernel⟩ ⟨Nat.le_of_ble_eq_true rfl, Nat.le_of_ble_eq_true rfl⟩) ⟨blindM, va_recv hK hP rfl (g_M), payM hP hK hD hN⟩ rfl rfl hl.1 rfl (lv_room (Nat.le_of_ble_eq_true rfl)) d_M_makeRun_58 ⟨Nat.zero_le _, Nat.zero_le _⟩) hS (fun q h0 h => absurd h0 (Nat.not_lt.mpr h)) (fun q h => hA q (Nat.le_trans hS.1 h)) (fun r58 u t H locs ht hvm hpost hB hz1 hk1 hS => ?_)
          obtain ⟨e1, e2⟩ := hpost
          subst e1
          subst e2
          have hP := keepP hP hk1
          have hg61 := gd_c hM
          have hM := gd_v hM
          refine va_zast (i := v1) (x := r58) hx hb hK hP hD hS 14 1 (g_M_a14) rfl (inb_in hg61) d_M_makeRun_61 (fun H locs hP hD hS => ?_)
          have hP := P_eq (t_M_14) hP
          have hD := D_eq (t_M_14) hD
          refine lv_aload_n hx hb d_M_makeRun_62 rfl (lv_at hl 1 rfl) ?_
          refine lv_aload_n hx hb d_M_makeRun_63 rfl (lv_at hl 1 rfl) ?_
          refine va_get (D := (dC, dI)) (ci := 7) (v := .int (((w3 (w3 σ18 0 13 v1 ((σ18 0).1 15)) 0 14 v1 (vp_nar .boolean r58)) 0).1 15)) (C := R_M) (T := F_M) (N := 33) hx hb htb in_M hown hK hP 0 (g_M) rfl 29 (by decide) (htb _ k_648) (fun _ h9 => h9) rfl d_M_makeRun_64 ?_
          refine lv_iconst (v := 1) hx hb d_M_makeRun_67 (by decide) ?_
          refine lv_iadd hx hb d_M_makeRun_68 ?_
          refine va_put (D := (dC, dI)) (ci := 7) (v := .int ((((w3 (w3 σ18 0 13 v1 ((σ18 0).1 15)) 0 14 v1 (vp_nar .boolean r58)) 0).1 15) + 1)) (ty := .int) (C := R_M) (T := F_M) (N := 33) hx hb htb in_M ft_M ft_M_ok n_M hown hK hP hD hS 0 (g_M) rfl 29 (by decide) (htb _ k_648) (fun _ h9 => h9) rfl (by decide +kernel) rfl rfl (Nat.le_of_ble_eq_true rfl) d_M_makeRun_69 (fun H locs hP hD hS => ?_)
          have hP := P_eq (s_M_15) hP
          have hD := D_eq (s_M_15) hD
          refine lv_goto (tgt := 115) hx hb d_M_makeRun_72 (by decide) ?_
          refine lv_aload_n hx hb d_M_makeRun_115 rfl (lv_at hl 1 rfl) ?_
          obtain ⟨x116, y116, hq116, hM⟩ := bI_some hM
          refine va_calli (va_runV (As := []) (rest := []) ⟨hx, hb, hml, hown, hts⟩ (c_M_first l dC dI ad cs _ N (w1 (w3 (w3 σ18 0 13 v1 ((σ18 0).1 15)) 0 14 v1 (vp_nar .boolean r58)) 0 15 ((((w3 (w3 σ18 0 13 v1 ((σ18 0).1 15)) 0 14 v1 (vp_nar .boolean r58)) 0).1 15) + 1)) hq116) (cwV 0 hts (goodV k_779 k_781 ks_M_first k_8 k_782) rfl rfl rfl ⟨rfl, by decide, by decide, by decide +kernel⟩ ⟨Nat.le_of_ble_eq_true rfl, Nat.le_of_ble_eq_true rfl⟩) ⟨blindM, va_recv hK hP rfl (g_M), payM hP hK hD hN⟩ rfl rfl hl.1 rfl (lv_room (Nat.le_of_ble_eq_true rfl)) d_M_makeRun_116 ⟨Nat.zero_le _, Nat.zero_le _⟩) hS (fun q h0 h => absurd h0 (Nat.not_lt.mpr h)) (fun q h => hA q (Nat.le_trans hS.1 h)) (fun r116 u t H locs ht hvm hpost hB hz1 hk1 hS => ?_)
          obtain ⟨e1, e2⟩ := hpost
          subst e1
          subst e2
          have hP := keepP hP hk1
          refine lv_istore_n hx hb d_M_makeRun_119 rfl hl (by decide) (lv' := [(1, .int r116), (2, .int ((σ 0).2 13 v1.toNatClampNeg)), (0, .ref (ad 0 0))]) rfl (fun ls hl => ?_)
          refine lv_goto (tgt := 5) hx hb d_M_makeRun_120 (by decide) ?_
          exact K5 _ _ _ _ ⟨(w1 (w3 (w3 σ18 0 13 v1 ((σ18 0).1 15)) 0 14 v1 (vp_nar .boolean r58)) 0 15 ((((w3 (w3 σ18 0 13 v1 ((σ18 0).1 15)) 0 14 v1 (vp_nar .boolean r58)) 0).1 15) + 1)), r116, rfl, hM, lv_sub hl [2, 0] rfl, hP, hD, hS⟩
      · rw [if_pos h21] at hM
        refine lv_iconst (v := 0) hx hb d_M_makeRun_24 (by decide) ?_
        have e9 := Prod.mk.inj (Option.some.inj hM)
        exact W.zret (ty := .boolean) (v := 0) hx hb hr rfl (fun t ht hW => ⟨⟨0, σ18, rfl, e9, by rw [ht]; exact hP, va_K.moved hW.alike hK, hD⟩, hS.F ht⟩) hS.2.2 d_M_makeRun_25
  intro K5
  refine lv_aload_n hx hb d_M_makeRun_0 rfl (lv_at hl 0 rfl) ?_
  obtain ⟨x1, y1, hq1, hM⟩ := bI_some hM
  refine va_calli (va_runV (As := []) (rest := []) ⟨hx, hb, hml, hown, hts⟩ (c_M_first l dC dI ad cs _ N σ hq1) (cwV 0 hts (goodV k_779 k_781 ks_M_first k_8 k_782) rfl rfl rfl ⟨rfl, by decide, by decide, by decide +kernel⟩ ⟨Nat.le_of_ble_eq_true rfl, Nat.le_of_ble_eq_true rfl⟩) ⟨blindM, va_recv hK hP rfl (g_M), payM hP hK hD hN⟩ rfl rfl hl.1 rfl (lv_room (Nat.le_of_ble_eq_true rfl)) d_M_makeRun_1 ⟨Nat.zero_le _, Nat.zero_le _⟩) hS (fun q h0 h => absurd h0 (Nat.not_lt.mpr h)) (fun q h => hA q (Nat.le_trans hS.1 h)) (fun r1 u t H locs ht hvm hpost hB hz1 hk1 hS => ?_)
  obtain ⟨e1, e2⟩ := hpost
  subst e1
  subst e2
  have hP := keepP hP hk1
  refine lv_istore_n hx hb d_M_makeRun_4 rfl hl (by decide) (lv' := [(1, .int r1), (0, .ref (ad 0 0))]) rfl (fun ls hl => ?_)
  exact K5 N _ _ _ _ ⟨σ, r1, rfl, hM, lv_sub hl [1, 0] rfl, hP, hD, hS⟩

theorem d_M_findPlace_0 : decode b_M_findPlace 0 = .ok (.aload_n 0, 1) := by decide +kernel
theorem d_M_findPlace_1 : decode b_M_findPlace 1 = .ok (.getfield 108, 3) := by decide +kernel
theorem d_M_findPlace_4 : decode b_M_findPlace 4 = .ok (.iconst 2, 1) := by decide +kernel
theorem d_M_findPlace_5 : decode b_M_findPlace 5 = .ok (.if_icmp .ge 37, 3) := by decide +kernel
theorem d_M_findPlace_8 : decode b_M_findPlace 8 = .ok (.aload_n 0, 1) := by decide +kernel
theorem d_M_findPlace_9 : decode b_M_findPlace 9 = .ok (.getfield 49, 3) := by decide +kernel
theorem d_M_findPlace_12 : decode b_M_findPlace 12 = .ok (.aload_n 0, 1) := by decide +kernel
theorem d_M_findPlace_13 : decode b_M_findPlace 13 = .ok (.getfield 108, 3) := by decide +kernel
theorem d_M_findPlace_16 : decode b_M_findPlace 16 = .ok (.iaload, 1) := by decide +kernel
theorem d_M_findPlace_17 : decode b_M_findPlace 17 = .ok (.aload_n 0, 1) := by decide +kernel
theorem d_M_findPlace_18 : decode b_M_findPlace 18 = .ok (.getfield 49, 3) := by decide +kernel
theorem d_M_findPlace_21 : decode b_M_findPlace 21 = .ok (.aload_n 0, 1) := by decide +kernel
theorem d_M_findPlace_22 : decode b_M_findPlace 22 = .ok (.getfield 108, 3) := by decide +kernel
theorem d_M_findPlace_25 : decode b_M_findPlace 25 = .ok (.iconst 1, 1) := by decide +kernel
theorem d_M_findPlace_26 : decode b_M_findPlace 26 = .ok (.iadd, 1) := by decide +kernel
theorem d_M_findPlace_27 : decode b_M_findPlace 27 = .ok (.iaload, 1) := by decide +kernel
theorem d_M_findPlace_28 : decode b_M_findPlace 28 = .ok (.if_icmp .ge 14, 3) := by decide +kernel
theorem d_M_findPlace_31 : decode b_M_findPlace 31 = .ok (.aload_n 0, 1) := by decide +kernel
theorem d_M_findPlace_32 : decode b_M_findPlace 32 = .ok (.aload_n 0, 1) := by decide +kernel
theorem d_M_findPlace_33 : decode b_M_findPlace 33 = .ok (.getfield 108, 3) := by decide +kernel
theorem d_M_findPlace_36 : decode b_M_findPlace 36 = .ok (.iconst 1, 1) := by decide +kernel
theorem d_M_findPlace_37 : decode b_M_findPlace 37 = .ok (.iadd, 1) := by decide +kernel
theorem d_M_findPlace_38 : decode b_M_findPlace 38 = .ok (.putfield 108, 3) := by decide +kernel
theorem d_M_findPlace_41 : decode b_M_findPlace 41 = .ok (.return_, 1) := by decide +kernel
theorem d_M_findPlace_42 : decode b_M_findPlace 42 = .ok (.aload_n 0, 1) := by decide +kernel
theorem d_M_findPlace_43 : decode b_M_findPlace 43 = .ok (.getfield 49, 3) := by decide +kernel
theorem d_M_findPlace_46 : decode b_M_findPlace 46 = .ok (.aload_n 0, 1) := by decide +kernel
theorem d_M_findPlace_47 : decode b_M_findPlace 47 = .ok (.getfield 108, 3) := by decide +kernel
theorem d_M_findPlace_50 : decode b_M_findPlace 50 = .ok (.iaload, 1) := by decide +kernel
theorem d_M_findPlace_51 : decode b_M_findPlace 51 = .ok (.ifCond .ne 107, 3) := by decide +kernel
theorem d_M_findPlace_54 : decode b_M_findPlace 54 = .ok (.aload_n 0, 1) := by decide +kernel
theorem d_M_findPlace_55 : decode b_M_findPlace 55 = .ok (.aload_n 0, 1) := by decide +kernel
theorem d_M_findPlace_56 : decode b_M_findPlace 56 = .ok (.getfield 105, 3) := by decide +kernel
theorem d_M_findPlace_59 : decode b_M_findPlace 59 = .ok (.iconst 1, 1) := by decide +kernel
theorem d_M_findPlace_60 : decode b_M_findPlace 60 = .ok (.iadd, 1) := by decide +kernel
theorem d_M_findPlace_61 : decode b_M_findPlace 61 = .ok (.putfield 105, 3) := by decide +kernel
theorem d_M_findPlace_64 : decode b_M_findPlace 64 = .ok (.aload_n 0, 1) := by decide +kernel
theorem d_M_findPlace_65 : decode b_M_findPlace 65 = .ok (.getfield 37, 3) := by decide +kernel
theorem d_M_findPlace_68 : decode b_M_findPlace 68 = .ok (.iconst 0, 1) := by decide +kernel
theorem d_M_findPlace_69 : decode b_M_findPlace 69 = .ok (.iaload, 1) := by decide +kernel
theorem d_M_findPlace_70 : decode b_M_findPlace 70 = .ok (.istore_n 1, 1) := by decide +kernel
theorem d_M_findPlace_71 : decode b_M_findPlace 71 = .ok (.aload_n 0, 1) := by decide +kernel
theorem d_M_findPlace_72 : decode b_M_findPlace 72 = .ok (.getfield 37, 3) := by decide +kernel
theorem d_M_findPlace_75 : decode b_M_findPlace 75 = .ok (.iconst 1, 1) := by decide +kernel
theorem d_M_findPlace_76 : decode b_M_findPlace 76 = .ok (.iaload, 1) := by decide +kernel
theorem d_M_findPlace_77 : decode b_M_findPlace 77 = .ok (.istore_n 2, 1) := by decide +kernel
theorem d_M_findPlace_78 : decode b_M_findPlace 78 = .ok (.aload_n 0, 1) := by decide +kernel
theorem d_M_findPlace_79 : decode b_M_findPlace 79 = .ok (.getfield 37, 3) := by decide +kernel
theorem d_M_findPlace_82 : decode b_M_findPlace 82 = .ok (.iconst 2, 1) := by decide +kernel
theorem d_M_findPlace_83 : decode b_M_findPlace 83 = .ok (.iaload, 1) := by decide +kernel
theorem d_M_findPlace_84 : decode b_M_findPlace 84 = .ok (.istore_n 3, 1) := by decide +kernel
theorem d_M_findPlace_85 : decode b_M_findPlace 85 = .ok (.aload_n 0, 1) := by decide +kernel
theorem d_M_findPlace_86 : decode b_M_findPlace 86 = .ok (.getfield 37, 3) := by decide +kernel
theorem d_M_findPlace_89 : decode b_M_findPlace 89 = .ok (.iconst 0, 1) := by decide +kernel
theorem d_M_findPlace_90 : decode b_M_findPlace 90 = .ok (.iload_n 1, 1) := by decide +kernel
theorem d_M_findPlace_91 : decode b_M_findPlace 91 = .ok (.iload_n 2, 1) := by decide +kernel
theorem d_M_findPlace_92 : decode b_M_findPlace 92 = .ok (.iadd, 1) := by decide +kernel
theorem d_M_findPlace_93 : decode b_M_findPlace 93 = .ok (.iastore, 1) := by decide +kernel
theorem d_M_findPlace_94 : decode b_M_findPlace 94 = .ok (.aload_n 0, 1) := by decide +kernel
theorem d_M_findPlace_95 : decode b_M_findPlace 95 = .ok (.getfield 37, 3) := by decide +kernel
theorem d_M_findPlace_98 : decode b_M_findPlace 98 = .ok (.iconst 1, 1) := by decide +kernel
theorem d_M_findPlace_99 : decode b_M_findPlace 99 = .ok (.iload_n 1, 1) := by decide +kernel
theorem d_M_findPlace_100 : decode b_M_findPlace 100 = .ok (.iload_n 3, 1) := by decide +kernel
theorem d_M_findPlace_101 : decode b_M_findPlace 101 = .ok (.iadd, 1) := by decide +kernel
theorem d_M_findPlace_102 : decode b_M_findPlace 102 = .ok (.iastore, 1) := by decide +kernel
theorem d_M_findPlace_103 : decode b_M_findPlace 103 = .ok (.aload_n 0, 1) := by decide +kernel
theorem d_M_findPlace_104 : decode b_M_findPlace 104 = .ok (.getfield 37, 3) := by decide +kernel
theorem d_M_findPlace_107 : decode b_M_findPlace 107 = .ok (.iconst 2, 1) := by decide +kernel
theorem d_M_findPlace_108 : decode b_M_findPlace 108 = .ok (.iload_n 1, 1) := by decide +kernel
theorem d_M_findPlace_109 : decode b_M_findPlace 109 = .ok (.iastore, 1) := by decide +kernel
theorem d_M_findPlace_110 : decode b_M_findPlace 110 = .ok (.aload_n 0, 1) := by decide +kernel
theorem d_M_findPlace_111 : decode b_M_findPlace 111 = .ok (.getfield 49, 3) := by decide +kernel
theorem d_M_findPlace_114 : decode b_M_findPlace 114 = .ok (.iconst 0, 1) := by decide +kernel
theorem d_M_findPlace_115 : decode b_M_findPlace 115 = .ok (.aload_n 0, 1) := by decide +kernel
theorem d_M_findPlace_116 : decode b_M_findPlace 116 = .ok (.getfield 49, 3) := by decide +kernel
theorem d_M_findPlace_119 : decode b_M_findPlace 119 = .ok (.iconst 0, 1) := by decide +kernel
theorem d_M_findPlace_120 : decode b_M_findPlace 120 = .ok (.iaload, 1) := by decide +kernel
theorem d_M_findPlace_121 : decode b_M_findPlace 121 = .ok (.iload_n 2, 1) := by decide +kernel
theorem d_M_findPlace_122 : decode b_M_findPlace 122 = .ok (.iadd, 1) := by decide +kernel
theorem d_M_findPlace_123 : decode b_M_findPlace 123 = .ok (.iastore, 1) := by decide +kernel
theorem d_M_findPlace_124 : decode b_M_findPlace 124 = .ok (.aload_n 0, 1) := by decide +kernel
theorem d_M_findPlace_125 : decode b_M_findPlace 125 = .ok (.getfield 49, 3) := by decide +kernel
theorem d_M_findPlace_128 : decode b_M_findPlace 128 = .ok (.iconst 1, 1) := by decide +kernel
theorem d_M_findPlace_129 : decode b_M_findPlace 129 = .ok (.aload_n 0, 1) := by decide +kernel
theorem d_M_findPlace_130 : decode b_M_findPlace 130 = .ok (.getfield 49, 3) := by decide +kernel
theorem d_M_findPlace_133 : decode b_M_findPlace 133 = .ok (.iconst 1, 1) := by decide +kernel
theorem d_M_findPlace_134 : decode b_M_findPlace 134 = .ok (.iaload, 1) := by decide +kernel
theorem d_M_findPlace_135 : decode b_M_findPlace 135 = .ok (.iload_n 1, 1) := by decide +kernel
theorem d_M_findPlace_136 : decode b_M_findPlace 136 = .ok (.iadd, 1) := by decide +kernel
theorem d_M_findPlace_137 : decode b_M_findPlace 137 = .ok (.iload_n 3, 1) := by decide +kernel
theorem d_M_findPlace_138 : decode b_M_findPlace 138 = .ok (.iadd, 1) := by decide +kernel
theorem d_M_findPlace_139 : decode b_M_findPlace 139 = .ok (.iload_n 2, 1) := by decide +kernel
theorem d_M_findPlace_140 : decode b_M_findPlace 140 = .ok (.isub, 1) := by decide +kernel
theorem d_M_findPlace_141 : decode b_M_findPlace 141 = .ok (.iastore, 1) := by decide +kernel
theorem d_M_findPlace_142 : decode b_M_findPlace 142 = .ok (.aload_n 0, 1) := by decide +kernel
theorem d_M_findPlace_143 : decode b_M_findPlace 143 = .ok (.getfield 49, 3) := by decide +kernel
theorem d_M_findPlace_146 : decode b_M_findPlace 146 = .ok (.iconst 2, 1) := by decide +kernel
theorem d_M_findPlace_147 : decode b_M_findPlace 147 = .ok (.aload_n 0, 1) := by decide +kernel
theorem d_M_findPlace_148 : decode b_M_findPlace 148 = .ok (.getfield 49, 3) := by decide +kernel
theorem d_M_findPlace_151 : decode b_M_findPlace 151 = .ok (.iconst 2, 1) := by decide +kernel
theorem d_M_findPlace_152 : decode b_M_findPlace 152 = .ok (.iaload, 1) := by decide +kernel
theorem d_M_findPlace_153 : decode b_M_findPlace 153 = .ok (.iload_n 1, 1) := by decide +kernel
theorem d_M_findPlace_154 : decode b_M_findPlace 154 = .ok (.iadd, 1) := by decide +kernel
theorem d_M_findPlace_155 : decode b_M_findPlace 155 = .ok (.iload_n 3, 1) := by decide +kernel
theorem d_M_findPlace_156 : decode b_M_findPlace 156 = .ok (.isub, 1) := by decide +kernel
theorem d_M_findPlace_157 : decode b_M_findPlace 157 = .ok (.iastore, 1) := by decide +kernel
theorem d_M_findPlace_158 : decode b_M_findPlace 158 = .ok (.aload_n 0, 1) := by decide +kernel
theorem d_M_findPlace_159 : decode b_M_findPlace 159 = .ok (.iconst 0, 1) := by decide +kernel
theorem d_M_findPlace_160 : decode b_M_findPlace 160 = .ok (.putfield 108, 3) := by decide +kernel
theorem d_M_findPlace_163 : decode b_M_findPlace 163 = .ok (.return_, 1) := by decide +kernel
def m_M_findPlace_42 (N : Nat) (σ : SX) : Option (SX) :=
    (if inb ((σ 0).1 13) 4 = true then (if ((σ 0).2 11 ((σ 0).1 13).toNatClampNeg) = 0 then some (w1 (w3 (w3 (w3 (w3 (w3 (w3 (w1 σ 0 12 (((σ 0).1 12) + 1)) 0 7 0 ((((w1 σ 0 12 (((σ 0).1 12) + 1)) 0).2 7 (0 : Int32).toNatClampNeg) + (((w1 σ 0 12 (((σ 0).1 12) + 1)) 0).2 7 (1 : Int32).toNatClampNeg))) 0 7 1 ((((w1 σ 0 12 (((σ 0).1 12) + 1)) 0).2 7 (0 : Int32).toNatClampNeg) + (((w1 σ 0 12 (((σ 0).1 12) + 1)) 0).2 7 (2 : Int32).toNatClampNeg))) 0 7 2 (((w1 σ 0 12 (((σ 0).1 12) + 1)) 0).2 7 (0 : Int32).toNatClampNeg)) 0 11 0 ((((w3 (w3 (w3 (w1 σ 0 12 (((σ 0).1 12) + 1)) 0 7 0 ((((w1 σ 0 12 (((σ 0).1 12) + 1)) 0).2 7 (0 : Int32).toNatClampNeg) + (((w1 σ 0 12 (((σ 0).1 12) + 1)) 0).2 7 (1 : Int32).toNatClampNeg))) 0 7 1 ((((w1 σ 0 12 (((σ 0).1 12) + 1)) 0).2 7 (0 : Int32).toNatClampNeg) + (((w1 σ 0 12 (((σ 0).1 12) + 1)) 0).2 7 (2 : Int32).toNatClampNeg))) 0 7 2 (((w1 σ 0 12 (((σ 0).1 12) + 1)) 0).2 7 (0 : Int32).toNatClampNeg)) 0).2 11 (0 : Int32).toNatClampNeg) + (((w1 σ 0 12 (((σ 0).1 12) + 1)) 0).2 7 (1 : Int32).toNatClampNeg))) 0 11 1 ((((((w3 (w3 (w3 (w3 (w1 σ 0 12 (((σ 0).1 12) + 1)) 0 7 0 ((((w1 σ 0 12 (((σ 0).1 12) + 1)) 0).2 7 (0 : Int32).toNatClampNeg) + (((w1 σ 0 12 (((σ 0).1 12) + 1)) 0).2 7 (1 : Int32).toNatClampNeg))) 0 7 1 ((((w1 σ 0 12 (((σ 0).1 12) + 1)) 0).2 7 (0 : Int32).toNatClampNeg) + (((w1 σ 0 12 (((σ 0).1 12) + 1)) 0).2 7 (2 : Int32).toNatClampNeg))) 0 7 2 (((w1 σ 0 12 (((σ 0).1 12) + 1)) 0).2 7 (0 : Int32).toNatClampNeg)) 0 11 0 ((((w3 (w3 (w3 (w1 σ 0 12 (((σ 0).1 12) + 1)) 0 7 0 ((((w1 σ 0 12 (((σ 0).1 12) + 1)) 0).2 7 (0 : Int32).toNatClampNeg) + (((w1 σ 0 12 (((σ 0).1 12) + 1)) 0).2 7 (1 : Int32).toNatClampNeg))) 0 7 1 ((((w1 σ 0 12 (((σ 0).1 12) + 1)) 0).2 7 (0 : Int32).toNatClampNeg) + (((w1 σ 0 12 (((σ 0).1 12) + 1)) 0).2 7 (2 : Int32).toNatClampNeg))) 0 7 2 (((w1 σ 0 12 (((σ 0).1 12) + 1)) 0).2 7 (0 : Int32).toNatClampNeg)) 0).2 11 (0 : Int32).toNatClampNeg) + (((w1 σ 0 12 (((σ 0).1 12) + 1)) 0).2 7 (1 : Int32).toNatClampNeg))) 0).2 11 (1 : Int32).toNatClampNeg) + (((w1 σ 0 12 (((σ 0).1 12) + 1)) 0).2 7 (0 : Int32).toNatClampNeg)) + (((w1 σ 0 12 (((σ 0).1 12) + 1)) 0).2 7 (2 : Int32).toNatClampNeg)) - (((w1 σ 0 12 (((σ 0).1 12) + 1)) 0).2 7 (1 : Int32).toNatClampNeg))) 0 11 2 (((((w3 (w3 (w3 (w3 (w3 (w1 σ 0 12 (((σ 0).1 12) + 1)) 0 7 0 ((((w1 σ 0 12 (((σ 0).1 12) + 1)) 0).2 7 (0 : Int32).toNatClampNeg) + (((w1 σ 0 12 (((σ 0).1 12) + 1)) 0).2 7 (1 : Int32).toNatClampNeg))) 0 7 1 ((((w1 σ 0 12 (((σ 0).1 12) + 1)) 0).2 7 (0 : Int32).toNatClampNeg) + (((w1 σ 0 12 (((σ 0).1 12) + 1)) 0).2 7 (2 : Int32).toNatClampNeg))) 0 7 2 (((w1 σ 0 12 (((σ 0).1 12) + 1)) 0).2 7 (0 : Int32).toNatClampNeg)) 0 11 0 ((((w3 (w3 (w3 (w1 σ 0 12 (((σ 0).1 12) + 1)) 0 7 0 ((((w1 σ 0 12 (((σ 0).1 12) + 1)) 0).2 7 (0 : Int32).toNatClampNeg) + (((w1 σ 0 12 (((σ 0).1 12) + 1)) 0).2 7 (1 : Int32).toNatClampNeg))) 0 7 1 ((((w1 σ 0 12 (((σ 0).1 12) + 1)) 0).2 7 (0 : Int32).toNatClampNeg) + (((w1 σ 0 12 (((σ 0).1 12) + 1)) 0).2 7 (2 : Int32).toNatClampNeg))) 0 7 2 (((w1 σ 0 12 (((σ 0).1 12) + 1)) 0).2 7 (0 : Int32).toNatClampNeg)) 0).2 11 (0 : Int32).toNatClampNeg) + (((w1 σ 0 12 (((σ 0).1 12) + 1)) 0).2 7 (1 : Int32).toNatClampNeg))) 0 11 1 ((((((w3 (w3 (w3 (w3 (w1 σ 0 12 (((σ 0).1 12) + 1)) 0 7 0 ((((w1 σ 0 12 (((σ 0).1 12) + 1)) 0).2 7 (0 : Int32).toNatClampNeg) + (((w1 σ 0 12 (((σ 0).1 12) + 1)) 0).2 7 (1 : Int32).toNatClampNeg))) 0 7 1 ((((w1 σ 0 12 (((σ 0).1 12) + 1)) 0).2 7 (0 : Int32).toNatClampNeg) + (((w1 σ 0 12 (((σ 0).1 12) + 1)) 0).2 7 (2 : Int32).toNatClampNeg))) 0 7 2 (((w1 σ 0 12 (((σ 0).1 12) + 1)) 0).2 7 (0 : Int32).toNatClampNeg)) 0 11 0 ((((w3 (w3 (w3 (w1 σ 0 12 (((σ 0).1 12) + 1)) 0 7 0 ((((w1 σ 0 12 (((σ 0).1 12) + 1)) 0).2 7 (0 : Int32).toNatClampNeg) + (((w1 σ 0 12 (((σ 0).1 12) + 1)) 0).2 7 (1 : Int32).toNatClampNeg))) 0 7 1 ((((w1 σ 0 12 (((σ 0).1 12) + 1)) 0).2 7 (0 : Int32).toNatClampNeg) + (((w1 σ 0 12 (((σ 0).1 12) + 1)) 0).2 7 (2 : Int32).toNatClampNeg))) 0 7 2 (((w1 σ 0 12 (((σ 0).1 12) + 1)) 0).2 7 (0 : Int32).toNatClampNeg)) 0).2 11 (0 : Int32).toNatClampNeg) + (((w1 σ 0 12 (((σ 0).1 12) + 1)) 0).2 7 (1 : Int32).toNatClampNeg))) 0).2 11 (1 : Int32).toNatClampNeg) + (((w1 σ 0 12 (((σ 0).1 12) + 1)) 0).2 7 (0 : Int32).toNatClampNeg)) + (((w1 σ 0 12 (((σ 0).1 12) + 1)) 0).2 7 (2 : Int32).toNatClampNeg)) - (((w1 σ 0 12 (((σ 0).1 12) + 1)) 0).2 7 (1 : Int32).toNatClampNeg))) 0).2 11 (2 : Int32).toNatClampNeg) + (((w1 σ 0 12 (((σ 0).1 12) + 1)) 0).2 7 (0 : Int32).toNatClampNeg)) - (((w1 σ 0 12 (((σ 0).1 12) + 1)) 0).2 7 (2 : Int32).toNatClampNeg))) 0 13 0) else some (w1 σ 0 13 0)) else none)

def m_M_findPlace (N : Nat) (σ : SX) : Option (SX) :=
  (if 2 ≤ ((σ 0).1 13) then m_M_findPlace_42 N σ else (if inb ((σ 0).1 13) 4 = true then (if inb (((σ 0).1 13) + 1) 4 = true then (if ((σ 0).2 11 (((σ 0).1 13) + 1).toNatClampNeg) ≤ ((σ 0).2 11 ((σ 0).1 13).toNatClampNeg) then m_M_findPlace_42 N σ else some (w1 σ 0 13 (((σ 0).1 13) + 1))) else none) else none))

set_option maxHeartbeats 4000000 in
set_option maxRecDepth 100000 in
theorem c_M_findPlace (l : Launch) (dC : Nat → ClassId) (dI : Nat → Nat → Nat) (ad : Nat → Nat → Nat) (cs : Nat → ClassId) (sz N : Nat) (σ : SX) {σ0 : SX} (hM : m_M_findPlace N σ = some σ0) : Met l y_M_findPlace (wd y_M_findPlace b_M_findPlace 4 none) ({ frames := 0, cells := 0, slots := 0, locals := 0 }) (va_Pc [.ref (ad 0 0)] (preM dC dI ad cs sz σ)) (va_Qv (fun (u : SX) => u = σ0) (atM dC dI ad cs (va_A (wM ad cs σ) sz)) (va_A (wM ad cs σ) sz)) 0 0 (va_A (wM ad cs σ) sz) := by
  refine Met.ofW (cc := b_M_findPlace) (maxL := 4) (ret := none) (by decide) rfl ?_
  intro p e s m args below meth c s₁ B hml hv
  obtain ⟨rfl, hsz, hP, hK, hD0, hN⟩ := hv
  have hx := B.exec
  have hb := B.bytes
  have hr := B.returns
  have hts := atoms_spec (ws := (wd y_M_findPlace b_M_findPlace 4 none)) B.pre
  have htb : ∀ w ∈ tb, w.before _ s = true := fun w h => hts w (List.mem_cons_of_mem _ h)
  have hown : s.vm.findClass R_M = some m.cls := findClass_of_methodNamed B.named
  have hlocks := B.notSynchronized
  subst hsz
  have hD := hD0.self (sz := s.heap.size)
  generalize hAe : va_A (wM ad cs σ) s.heap.size = A at hD ⊢
  have hA : ∀ q : Nat, s.heap.size ≤ q → A q := fun q h => by rw [← hAe]; exact Or.inr h
  have hS : va_S A s.heap s.heap [] := va_S.rf
  have hP : va_P (dC, dI) classes (wM ad cs σ) s.heap := hP
  have hl := lv_entry ([.ref (ad 0 0)]) (n := 4) (Nat.le_of_ble_eq_true rfl)
  rw [lg_entry_eq]
  generalize (lg_sl ([.ref (ad 0 0)]) ++ List.replicate (4 - (lg_sl ([.ref (ad 0 0)])).length) Slot.unset).toArray = ls at hl ⊢
  have hl : lv_has ls 4 [(0, .ref (ad 0 0))] := hl
  rw [m_M_findPlace] at hM
  refine W_cut (pc := 42) (fun H locs ls st => ∃ (σ : SX), st = [] ∧ m_M_findPlace_42 N σ = some σ0 ∧ lv_has ls 4 [(0, .ref (ad 0 0))] ∧ va_P (dC, dI) classes (wM ad cs σ) H ∧ va_D A (wM ad cs σ) ∧ va_S A s.heap H locs) ?_ ?_
  · intro H locs ls st hI
    obtain ⟨σ, rfl, hM, hl, hP, hD, hS⟩ := hI
    rw [m_M_findPlace_42] at hM
    refine lv_aload_n hx hb d_M_findPlace_42 rfl (lv_at hl 0 rfl) ?_
    refine va_get (D := (dC, dI)) (ci := 7) (v := .ref (ad 0 11)) (C := R_M) (T := F_M) (N := 33) hx hb htb in_M hown hK hP 0 (g_M) rfl 24 (by decide) (htb _ k_643) (fun _ h9 => h9) rfl d_M_findPlace_43 ?_
    refine lv_aload_n hx hb d_M_findPlace_46 rfl (lv_at hl 0 rfl) ?_
    refine va_get (D := (dC, dI)) (ci := 7) (v := .int ((σ 0).1 13)) (C := R_M) (T := F_M) (N := 33) hx hb htb in_M hown hK hP 0 (g_M) rfl 20 (by decide) (htb _ k_639) (fun _ h9 => h9) rfl d_M_findPlace_47 ?_
    have hg50 := gd_c hM
    have hM := gd_v hM
    refine va_iald hx hb hK hP 11 0 (g_M_a11) rfl (inb_in hg50) d_M_findPlace_50 ?_
    refine lv_if_ne (tgt := 158) hx hb d_M_findPlace_51 (by decide) (fun h51 => ?_) (fun h51 => ?_)
    · rw [if_neg h51] at hM
      refine lv_aload_n hx hb d_M_findPlace_158 rfl (lv_at hl 0 rfl) ?_
      refine lv_iconst (v := 0) hx hb d_M_findPlace_159 (by decide) ?_
      refine va_put (D := (dC, dI)) (ci := 7) (v := .int 0) (ty := .int) (C := R_M) (T := F_M) (N := 33) hx hb htb in_M ft_M ft_M_ok n_M hown hK hP hD hS 0 (g_M) rfl 20 (by decide) (htb _ k_639) (fun _ h9 => h9) rfl (by decide +kernel) rfl rfl (Nat.le_of_ble_eq_true rfl) d_M_findPlace_160 (fun H locs hP hD hS => ?_)
      have hP := P_eq (s_M_13) hP
      have hD := D_eq (s_M_13) hD
      have e9 := Option.some.inj hM
      exact W.vret hx hb hr (fun t ht hW => ⟨⟨(w1 σ 0 13 0), rfl, e9, by rw [ht]; exact hP, va_K.moved hW.alike hK, hD⟩, hS.F ht⟩) hS.2.2 d_M_findPlace_163
    · rw [if_pos h51] at hM
      refine lv_aload_n hx hb d_M_findPlace_54 rfl (lv_at hl 0 rfl) ?_
      refine lv_aload_n hx hb d_M_findPlace_55 rfl (lv_at hl 0 rfl) ?_
      refine va_get (D := (dC, dI)) (ci := 7) (v := .int ((σ 0).1 12)) (C := R_M) (T := F_M) (N := 33) hx hb htb in_M hown hK hP 0 (g_M) rfl 19 (by decide) (htb _ k_638) (fun _ h9 => h9) rfl d_M_findPlace_56 ?_
      refine lv_iconst (v := 1) hx hb d_M_findPlace_59 (by decide) ?_
      refine lv_iadd hx hb d_M_findPlace_60 ?_
      refine va_put (D := (dC, dI)) (ci := 7) (v := .int (((σ 0).1 12) + 1)) (ty := .int) (C := R_M) (T := F_M) (N := 33) hx hb htb in_M ft_M ft_M_ok n_M hown hK hP hD hS 0 (g_M) rfl 19 (by decide) (htb _ k_638) (fun _ h9 => h9) rfl (by decide +kernel) rfl rfl (Nat.le_of_ble_eq_true rfl) d_M_findPlace_61 (fun H locs hP hD hS => ?_)
      have hP := P_eq (s_M_12) hP
      have hD := D_eq (s_M_12) hD
      refine lv_aload_n hx hb d_M_findPlace_64 rfl (lv_at hl 0 rfl) ?_
      refine va_get (D := (dC, dI)) (ci := 7) (v := .ref (ad 0 7)) (C := R_M) (T := F_M) (N := 33) hx hb htb in_M hown hK hP 0 (g_M) rfl 18 (by decide) (htb _ k_637) (fun _ h9 => h9) rfl d_M_findPlace_65 ?_
      refine lv_iconst (v := 0) hx hb d_M_findPlace_68 (by decide) ?_
      refine va_iald hx hb hK hP 7 0 (g_M_a7) rfl (inb_in (by decide)) d_M_findPlace_69 ?_
      refine lv_istore_n hx hb d_M_findPlace_70 rfl hl (by decide) (lv' := [(1, .int (((w1 σ 0 12 (((σ 0).1 12) + 1)) 0).2 7 (0 : Int32).toNatClampNeg)), (0, .ref (ad 0 0))]) rfl (fun ls hl => ?_)
      refine lv_aload_n hx hb d_M_findPlace_71 rfl (lv_at hl 1 rfl) ?_
      refine va_get (D := (dC, dI)) (ci := 7) (v := .ref (ad 0 7)) (C := R_M) (T := F_M) (N := 33) hx hb htb in_M hown hK hP 0 (g_M) rfl 18 (by decide) (htb _ k_637) (fun _ h9 => h9) rfl d_M_findPlace_72 ?_
      refine lv_iconst (v := 1) hx hb d_M_findPlace_75 (by decide) ?_
      refine va_iald hx hb hK hP 7 0 (g_M_a7) rfl (inb_in (by decide)) d_M_findPlace_76 ?_
      refine lv_istore_n hx hb d_M_findPlace_77 rfl hl (by decide) (lv' := [(2, .int (((w1 σ 0 12 (((σ 0).1 12) + 1)) 0).2 7 (1 : Int32).toNatClampNeg)), (1, .int (((w1 σ 0 12 (((σ 0).1 12) + 1)) 0).2 7 (0 : Int32).toNatClampNeg)), (0, .ref (ad 0 0))]) rfl (fun ls hl => ?_)
      refine lv_aload_n hx hb d_M_findPlace_78 rfl (lv_at hl 2 rfl) ?_
      refine va_get (D := (dC, dI)) (ci := 7) (v := .ref (ad 0 7)) (C := R_M) (T := F_M) (N := 33) hx hb htb in_M hown hK hP 0 (g_M) rfl 18 (by decide) (htb _ k_637) (fun _ h9 => h9) rfl d_M_findPlace_79 ?_
      refine lv_iconst (v := 2) hx hb d_M_findPlace_82 (by decide) ?_
      refine va_iald hx hb hK hP 7 0 (g_M_a7) rfl (inb_in (by decide)) d_M_findPlace_83 ?_
      refine lv_istore_n hx hb d_M_findPlace_84 rfl hl (by decide) (lv' := [(3, .int (((w1 σ 0 12 (((σ 0).1 12) + 1)) 0).2 7 (2 : Int32).toNatClampNeg)), (2, .int (((w1 σ 0 12 (((σ 0).1 12) + 1)) 0).2 7 (1 : Int32).toNatClampNeg)), (1, .int (((w1 σ 0 12 (((σ 0).1 12) + 1)) 0).2 7 (0 : Int32).toNatClampNeg)), (0, .ref (ad 0 0))]) rfl (fun ls hl => ?_)
      refine lv_aload_n hx hb d_M_findPlace_85 rfl (lv_at hl 3 rfl) ?_
      refine va_get (D := (dC, dI)) (ci := 7) (v := .ref (ad 0 7)) (C := R_M) (T := F_M) (N := 33) hx hb htb in_M hown hK hP 0 (g_M) rfl 18 (by decide) (htb _ k_637) (fun _ h9 => h9) rfl d_M_findPlace_86 ?_
      refine lv_iconst (v := 0) hx hb d_M_findPlace_89 (by decide) ?_
      refine lv_iload_n hx hb d_M_findPlace_90 rfl (lv_at hl 2 rfl) ?_
      refine lv_iload_n hx hb d_M_findPlace_91 rfl (lv_at hl 1 rfl) ?_
      refine lv_iadd hx hb d_M_findPlace_92 ?_
      refine va_iast (i := 0) (x := ((((w1 σ 0 12 (((σ 0).1 12) + 1)) 0).2 7 (0 : Int32).toNatClampNeg) + (((w1 σ 0 12 (((σ 0).1 12) + 1)) 0).2 7 (1 : Int32).toNatClampNeg))) hx hb hK hP hD hS 7 0 (g_M_a7) rfl (inb_in (by decide)) d_M_findPlace_93 (fun H locs hP hD hS => ?_)
      have hP := P_eq (t_M_7) hP
      have hD := D_eq (t_M_7) hD
      refine lv_aload_n hx hb d_M_findPlace_94 rfl (lv_at hl 3 rfl) ?_
      refine va_get (D := (dC, dI)) (ci := 7) (v := .ref (ad 0 7)) (C := R_M) (T := F_M) (N := 33) hx hb htb in_M hown hK hP 0 (g_M) rfl 18 (by decide) (htb _ k_637) (fun _ h9 => h9) rfl d_M_findPlace_95 ?_
      refine lv_iconst (v := 1) hx hb d_M_findPlace_98 (by decide) ?_
      refine lv_iload_n hx hb d_M_findPlace_99 rfl (lv_at hl 2 rfl) ?_
      refine lv_iload_n hx hb d_M_findPlace_100 rfl (lv_at hl 0 rfl) ?_
      refine lv_iadd hx hb d_M_findPlace_101 ?_
      refine va_iast (i := 1) (x := ((((w1 σ 0 12 (((σ 0).1 12) + 1)) 0).2 7 (0 : Int32).toNatClampNeg) + (((w1 σ 0 12 (((σ 0).1 12) + 1)) 0).2 7 (2 : Int32).toNatClampNeg))) hx hb hK hP hD hS 7 0 (g_M_a7) rfl (inb_in (by decide)) d_M_findPlace_102 (fun H locs hP hD hS => ?_)
      have hP := P_eq (t_M_7) hP
      have hD := D_eq (t_M_7) hD
      refine lv_aload_n hx hb d_M_findPlace_103 rfl (lv_at hl 3 rfl) ?_
      refine va_get (D := (dC, dI)) (ci := 7) (v := .ref (ad 0 7)) (C := R_M) (T := F_M) (N := 33) hx hb htb in_M hown hK hP 0 (g_M) rfl 18 (by decide) (htb _ k_637) (fun _ h9 => h9) rfl d_M_findPlace_104 ?_
      refine lv_iconst (v := 2) hx hb d_M_findPlace_107 (by decide) ?_
      refine lv_iload_n hx hb d_M_findPlace_108 rfl (lv_at hl 2 rfl) ?_
      refine va_iast (i := 2) (x := (((w1 σ 0 12 (((σ 0).1 12) + 1)) 0).2 7 (0 : Int32).toNatClampNeg)) hx hb hK hP hD hS 7 0 (g_M_a7) rfl (inb_in (by decide)) d_M_findPlace_109 (fun H locs hP hD hS => ?_)
      have hP := P_eq (t_M_7) hP
      have hD := D_eq (t_M_7) hD
      refine lv_aload_n hx hb d_M_findPlace_110 rfl (lv_at hl 3 rfl) ?_
      refine va_get (D := (dC, dI)) (ci := 7) (v := .ref (ad 0 11)) (C := R_M) (T := F_M) (N := 33) hx hb htb in_M hown hK hP 0 (g_M) rfl 24 (by decide) (htb _ k_643) (fun _ h9 => h9) rfl d_M_findPlace_111 ?_
      refine lv_iconst (v := 0) hx hb d_M_findPlace_114 (by decide) ?_
      refine lv_aload_n hx hb d_M_findPlace_115 rfl (lv_at hl 3 rfl) ?_
      refine va_get (D := (dC, dI)) (ci := 7) (v := .ref (ad 0 11)) (C := R_M) (T := F_M) (N := 33) hx hb htb in_M hown hK hP 0 (g_M) rfl 24 (by decide) (htb _ k_643) (fun _ h9 => h9) rfl d_M_findPlace_116 ?_
      refine lv_iconst (v := 0) hx hb d_M_findPlace_119 (by decide) ?_
      refine va_iald hx hb hK hP 11 0 (g_M_a11) rfl (inb_in (by decide)) d_M_findPlace_120 ?_
      refine lv_iload_n hx hb d_M_findPlace_121 rfl (lv_at hl 1 rfl) ?_
      refine lv_iadd hx hb d_M_findPlace_122 ?_
      refine va_iast (i := 0) (x := ((((w3 (w3 (w3 (w1 σ 0 12 (((σ 0).1 12) + 1)) 0 7 0 ((((w1 σ 0 12 (((σ 0).1 12) + 1)) 0).2 7 (0 : Int32).toNatClampNeg) + (((w1 σ 0 12 (((σ 0).1 12) + 1)) 0).2 7 (1 : Int32).toNatClampNeg))) 0 7 1 ((((w1 σ 0 12 (((σ 0).1 12) + 1)) 0).2 7 (0 : Int32).toNatClampNeg) + (((w1 σ 0 12 (((σ 0).1 12) + 1)) 0).2 7 (2 : Int32).toNatClampNeg))) 0 7 2 (((w1 σ 0 12 (((σ 0).1 12) + 1)) 0).2 7 (0 : Int32).toNatClampNeg)) 0).2 11 (0 : Int32).toNatClampNeg) + (((w1 σ 0 12 (((σ 0).1 12) + 1)) 0).2 7 (1 : Int32).toNatClampNeg))) hx hb hK hP hD hS 11 0 (g_M_a11) rfl (inb_in (by decide)) d_M_findPlace_123 (fun H locs hP hD hS => ?_)
      have hP := P_eq (t_M_11) hP
      have hD := D_eq (t_M_11) hD
      refine lv_aload_n hx hb d_M_findPlace_124 rfl (lv_at hl 3 rfl) ?_
      refine va_get (D := (dC, dI)) (ci := 7) (v := .ref (ad 0 11)) (C := R_M) (T := F_M) (N := 33) hx hb htb in_M hown hK hP 0 (g_M) rfl 24 (by decide) (htb _ k_643) (fun _ h9 => h9) rfl d_M_findPlace_125 ?_
      refine lv_iconst (v := 1) hx hb d_M_findPlace_128 (by decide) ?_
      refine lv_aload_n hx hb d_M_findPlace_129 rfl (lv_at hl 3 rfl) ?_
      refine va_get (D := (dC, dI)) (ci := 7) (v := .ref (ad 0 11)) (C := R_M) (T := F_M) (N := 33) hx hb htb in_M hown hK hP 0 (g_M) rfl 24 (by decide) (htb _ k_643) (fun _ h9 => h9) rfl d_M_findPlace_130 ?_
      refine lv_iconst (v := 1) hx hb d_M_findPlace_133 (by decide) ?_
      refine va_iald hx hb hK hP 11 0 (g_M_a11) rfl (inb_in (by decide)) d_M_findPlace_134 ?_
      refine lv_iload_n hx hb d_M_findPlace_135 rfl (lv_at hl 2 rfl) ?_
      refine lv_iadd hx hb d_M_findPlace_136 ?_
      refine lv_iload_n hx hb d_M_findPlace_137 rfl (lv_at hl 0 rfl) ?_
      refine lv_iadd hx hb d_M_findPlace_138 ?_
      refine lv_iload_n hx hb d_M_findPlace_139 rfl (lv_at hl 1 rfl) ?_
      refine lv_isub hx hb d_M_findPlace_140 ?_
      refine va_iast (i := 1) (x := ((((((w3 (w3 (w3 (w3 (w1 σ 0 12 (((σ 0).1 12) + 1)) 0 7 0 ((((w1 σ 0 12 (((σ 0).1 12) + 1)) 0).2 7 (0 : Int32).toNatClampNeg) + (((w1 σ 0 12 (((σ 0).1 12) + 1)) 0).2 7 (1 : Int32).toNatClampNeg))) 0 7 1 ((((w1 σ 0 12 (((σ 0).1 12) + 1)) 0).2 7 (0 : Int32).toNatClampNeg) + (((w1 σ 0 12 (((σ 0).1 12) + 1)) 0).2 7 (2 : Int32).toNatClampNeg))) 0 7 2 (((w1 σ 0 12 (((σ 0).1 12) + 1)) 0).2 7 (0 : Int32).toNatClampNeg)) 0 11 0 ((((w3 (w3 (w3 (w1 σ 0 12 (((σ 0).1 12) + 1)) 0 7 0 ((((w1 σ 0 12 (((σ 0).1 12) + 1)) 0).2 7 (0 : Int32).toNatClampNeg) + (((w1 σ 0 12 (((σ 0).1 12) + 1)) 0).2 7 (1 : Int32).toNatClampNeg))) 0 7 1 ((((w1 σ 0 12 (((σ 0).1 12) + 1)) 0).2 7 (0 : Int32).toNatClampNeg) + (((w1 σ 0 12 (((σ 0).1 12) + 1)) 0).2 7 (2 : Int32).toNatClampNeg))) 0 7 2 (((w1 σ 0 12 (((σ 0).1 12) + 1)) 0).2 7 (0 : Int32).toNatClampNeg)) 0).2 11 (0 : Int32).toNatClampNeg) + (((w1 σ 0 12 (((σ 0).1 12) + 1)) 0).2 7 (1 : Int32).toNatClampNeg))) 0).2 11 (1 : Int32).toNatClampNeg) + (((w1 σ 0 12 (((σ 0).1 12) + 1)) 0).2 7 (0 : Int32).toNatClampNeg)) + (((w1 σ 0 12 (((σ 0).1 12) + 1)) 0).2 7 (2 : Int32).toNatClampNeg)) - (((w1 σ 0 12 (((σ 0).1 12) + 1)) 0).2 7 (1 : Int32).toNatClampNeg))) hx hb hK hP hD hS 11 0 (g_M_a11) rfl (inb_in (by decide)) d_M_findPlace_141 (fun H locs hP hD hS => ?_)
      have hP := P_eq (t_M_11) hP
      have hD := D_eq (t_M_11) hD
      refine lv_aload_n hx hb d_M_findPlace_142 rfl (lv_at hl 3 rfl) ?_
      refine va_get (D := (dC, dI)) (ci := 7) (v := .ref (ad 0 11)) (C := R_M) (T := F_M) (N := 33) hx hb htb in_M hown hK hP 0 (g_M) rfl 24 (by decide) (htb _ k_643) (fun _ h9 => h9) rfl d_M_findPlace_143 ?_
      refine lv_iconst (v := 2) hx hb d_M_findPlace_146 (by decide) ?_
      refine lv_aload_n hx hb d_M_findPlace_147 rfl (lv_at hl 3 rfl) ?_
      refine va_get (D := (dC, dI)) (ci := 7) (v := .ref (ad 0 11)) (C := R_M) (T := F_M) (N := 33) hx hb htb in_M hown hK hP 0 (g_M) rfl 24 (by decide) (htb _ k_643) (fun _ h9 => h9) rfl d_M_findPlace_148 ?_
      refine lv_iconst (v := 2) hx hb d_M_findPlace_151 (by decide) ?_
      refine va_iald hx hb hK hP 11 0 (g_M_a11) rfl (inb_in (by decide)) d_M_findPlace_152 ?_
      refine lv_iload_n hx hb d_M_findPlace_153 rfl (lv_at hl 2 rfl) ?_
      refine lv_iadd hx hb d_M_findPlace_154 ?_
      refine lv_iload_n hx hb d_M_findPlace_155 rfl (lv_at hl 0 rfl) ?_
      refine lv_isub hx hb d_M_findPlace_156 ?_
      refine va_iast (i := 2) (x := (((((w3 (w3 (w3 (w3 (w3 (w1 σ 0 12 (((σ 0).1 12) + 1)) 0 7 0 ((((w1 σ 0 12 (((σ 0).1 12) + 1)) 0).2 7 (0 : Int32).toNatClampNeg) + (((w1 σ 0 12 (((σ 0).1 12) + 1)) 0).2 7 (1 : Int32).toNatClampNeg))) 0 7 1 ((((w1 σ 0 12 (((σ 0).1 12) + 1)) 0).2 7 (0 : Int32).toNatClampNeg) + (((w1 σ 0 12 (((σ 0).1 12) + 1)) 0).2 7 (2 : Int32).toNatClampNeg))) 0 7 2 (((w1 σ 0 12 (((σ 0).1 12) + 1)) 0).2 7 (0 : Int32).toNatClampNeg)) 0 11 0 ((((w3 (w3 (w3 (w1 σ 0 12 (((σ 0).1 12) + 1)) 0 7 0 ((((w1 σ 0 12 (((σ 0).1 12) + 1)) 0).2 7 (0 : Int32).toNatClampNeg) + (((w1 σ 0 12 (((σ 0).1 12) + 1)) 0).2 7 (1 : Int32).toNatClampNeg))) 0 7 1 ((((w1 σ 0 12 (((σ 0).1 12) + 1)) 0).2 7 (0 : Int32).toNatClampNeg) + (((w1 σ 0 12 (((σ 0).1 12) + 1)) 0).2 7 (2 : Int32).toNatClampNeg))) 0 7 2 (((w1 σ 0 12 (((σ 0).1 12) + 1)) 0).2 7 (0 : Int32).toNatClampNeg)) 0).2 11 (0 : Int32).toNatClampNeg) + (((w1 σ 0 12 (((σ 0).1 12) + 1)) 0).2 7 (1 : Int32).toNatClampNeg))) 0 11 1 ((((((w3 (w3 (w3 (w3 (w1 σ 0 12 (((σ 0).1 12) + 1)) 0 7 0 ((((w1 σ 0 12 (((σ 0).1 12) + 1)) 0).2 7 (0 : Int32).toNatClampNeg) + (((w1 σ 0 12 (((σ 0).1 12) + 1)) 0).2 7 (1 : Int32).toNatClampNeg))) 0 7 1 ((((w1 σ 0 12 (((σ 0).1 12) + 1)) 0).2 7 (0 : Int32).toNatClampNeg) + (((w1 σ 0 12 (((σ 0).1 12) + 1)) 0).2 7 (2 : Int32).toNatClampNeg))) 0 7 2 (((w1 σ 0 12 (((σ 0).1 12) + 1)) 0).2 7 (0 : Int32).toNatClampNeg)) 0 11 0 ((((w3 (w3 (w3 (w1 σ 0 12 (((σ 0).1 12) + 1)) 0 7 0 ((((w1 σ 0 12 (((σ 0).1 12) + 1)) 0).2 7 (0 : Int32).toNatClampNeg) + (((w1 σ 0 12 (((σ 0).1 12) + 1)) 0).2 7 (1 : Int32).toNatClampNeg))) 0 7 1 ((((w1 σ 0 12 (((σ 0).1 12) + 1)) 0).2 7 (0 : Int32).toNatClampNeg) + (((w1 σ 0 12 (((σ 0).1 12) + 1)) 0).2 7 (2 : Int32).toNatClampNeg))) 0 7 2 (((w1 σ 0 12 (((σ 0).1 12) + 1)) 0).2 7 (0 : Int32).toNatClampNeg)) 0).2 11 (0 : Int32).toNatClampNeg) + (((w1 σ 0 12 (((σ 0).1 12) + 1)) 0).2 7 (1 : Int32).toNatClampNeg))) 0).2 11 (1 : Int32).toNatClampNeg) + (((w1 σ 0 12 (((σ 0).1 12) + 1)) 0).2 7 (0 : Int32).toNatClampNeg)) + (((w1 σ 0 12 (((σ 0).1 12) + 1)) 0).2 7 (2 : Int32).toNatClampNeg)) - (((w1 σ 0 12 (((σ 0).1 12) + 1)) 0).2 7 (1 : Int32).toNatClampNeg))) 0).2 11 (2 : Int32).toNatClampNeg) + (((w1 σ 0 12 (((σ 0).1 12) + 1)) 0).2 7 (0 : Int32).toNatClampNeg)) - (((w1 σ 0 12 (((σ 0).1 12) + 1)) 0).2 7 (2 : Int32).toNatClampNeg))) hx hb hK hP hD hS 11 0 (g_M_a11) rfl (inb_in (by decide)) d_M_findPlace_157 (fun H locs hP hD hS => ?_)
      have hP := P_eq (t_M_11) hP
      have hD := D_eq (t_M_11) hD
      refine lv_aload_n hx hb d_M_findPlace_158 rfl (lv_at hl 3 rfl) ?_
      refine lv_iconst (v := 0) hx hb d_M_findPlace_159 (by decide) ?_
      refine va_put (D := (dC, dI)) (ci := 7) (v := .int 0) (ty := .int) (C := R_M) (T := F_M) (N := 33) hx hb htb in_M ft_M ft_M_ok n_M hown hK hP hD hS 0 (g_M) rfl 20 (by decide) (htb _ k_639) (fun _ h9 => h9) rfl (by decide +kernel) rfl rfl (Nat.le_of_ble_eq_true rfl) d_M_findPlace_160 (fun H locs hP hD hS => ?_)
      have hP := P_eq (s_M_13) hP
      have hD := D_eq (s_M_13) hD
      have e9 := Option.some.inj hM
      exact W.vret hx hb hr (fun t ht hW => ⟨⟨(w1 (w3 (w3 (w3 (w3 (w3 (w3 (w1 σ 0 12 (((σ 0).1 12) + 1)) 0 7 0 ((((w1 σ 0 12 (((σ 0).1 12) + 1)) 0).2 7 (0 : Int32).toNatClampNeg) + (((w1 σ 0 12 (((σ 0).1 12) + 1)) 0).2 7 (1 : Int32).toNatClampNeg))) 0 7 1 ((((w1 σ 0 12 (((σ 0).1 12) + 1)) 0).2 7 (0 : Int32).toNatClampNeg) + (((w1 σ 0 12 (((σ 0).1 12) + 1)) 0).2 7 (2 : Int32).toNatClampNeg))) 0 7 2 (((w1 σ 0 12 (((σ 0).1 12) + 1)) 0).2 7 (0 : Int32).toNatClampNeg)) 0 11 0 ((((w3 (w3 (w3 (w1 σ 0 12 (((σ 0).1 12) + 1)) 0 7 0 ((((w1 σ 0 12 (((σ 0).1 12) + 1)) 0).2 7 (0 : Int32).toNatClampNeg) + (((w1 σ 0 12 (((σ 0).1 12) + 1)) 0).2 7 (1 : Int32).toNatClampNeg))) 0 7 1 ((((w1 σ 0 12 (((σ 0).1 12) + 1)) 0).2 7 (0 : Int32).toNatClampNeg) + (((w1 σ 0 12 (((σ 0).1 12) + 1)) 0).2 7 (2 : Int32).toNatClampNeg))) 0 7 2 (((w1 σ 0 12 (((σ 0).1 12) + 1)) 0).2 7 (0 : Int32).toNatClampNeg)) 0).2 11 (0 : Int32).toNatClampNeg) + (((w1 σ 0 12 (((σ 0).1 12) + 1)) 0).2 7 (1 : Int32).toNatClampNeg))) 0 11 1 ((((((w3 (w3 (w3 (w3 (w1 σ 0 12 (((σ 0).1 12) + 1)) 0 7 0 ((((w1 σ 0 12 (((σ 0).1 12) + 1)) 0).2 7 (0 : Int32).toNatClampNeg) + (((w1 σ 0 12 (((σ 0).1 12) + 1)) 0).2 7 (1 : Int32).toNatClampNeg))) 0 7 1 ((((w1 σ 0 12 (((σ 0).1 12) + 1)) 0).2 7 (0 : Int32).toNatClampNeg) + (((w1 σ 0 12 (((σ 0).1 12) + 1)) 0).2 7 (2 : Int32).toNatClampNeg))) 0 7 2 (((w1 σ 0 12 (((σ 0).1 12) + 1)) 0).2 7 (0 : Int32).toNatClampNeg)) 0 11 0 ((((w3 (w3 (w3 (w1 σ 0 12 (((σ 0).1 12) + 1)) 0 7 0 ((((w1 σ 0 12 (((σ 0).1 12) + 1)) 0).2 7 (0 : Int32).toNatClampNeg) + (((w1 σ 0 12 (((σ 0).1 12) + 1)) 0).2 7 (1 : Int32).toNatClampNeg))) 0 7 1 ((((w1 σ 0 12 (((σ 0).1 12) + 1)) 0).2 7 (0 : Int32).toNatClampNeg) + (((w1 σ 0 12 (((σ 0).1 12) + 1)) 0).2 7 (2 : Int32).toNatClampNeg))) 0 7 2 (((w1 σ 0 12 (((σ 0).1 12) + 1)) 0).2 7 (0 : Int32).toNatClampNeg)) 0).2 11 (0 : Int32).toNatClampNeg) + (((w1 σ 0 12 (((σ 0).1 12) + 1)) 0).2 7 (1 : Int32).toNatClampNeg))) 0).2 11 (1 : Int32).toNatClampNeg) + (((w1 σ 0 12 (((σ 0).1 12) + 1)) 0).2 7 (0 : Int32).toNatClampNeg)) + (((w1 σ 0 12 (((σ 0).1 12) + 1)) 0).2 7 (2 : Int32).toNatClampNeg)) - (((w1 σ 0 12 (((σ 0).1 12) + 1)) 0).2 7 (1 : Int32).toNatClampNeg))) 0 11 2 (((((w3 (w3 (w3 (w3 (w3 (w1 σ 0 12 (((σ 0).1 12) + 1)) 0 7 0 ((((w1 σ 0 12 (((σ 0).1 12) + 1)) 0).2 7 (0 : Int32).toNatClampNeg) + (((w1 σ 0 12 (((σ 0).1 12) + 1)) 0).2 7 (1 : Int32).toNatClampNeg))) 0 7 1 ((((w1 σ 0 12 (((σ 0).1 12) + 1)) 0).2 7 (0 : Int32).toNatClampNeg) + (((w1 σ 0 12 (((σ 0).1 12) + 1)) 0).2 7 (2 : Int32).toNatClampNeg))) 0 7 2 (((w1 σ 0 12 (((σ 0).1 12) + 1)) 0).2 7 (0 : Int32).toNatClampNeg)) 0 11 0 ((((w3 (w3 (w3 (w1 σ 0 12 (((σ 0).1 12) + 1)) 0 7 0 ((((w1 σ 0 12 (((σ 0).1 12) + 1)) 0).2 7 (0 : Int32).toNatClampNeg) + (((w1 σ 0 12 (((σ 0).1 12) + 1)) 0).2 7 (1 : Int32).toNatClampNeg))) 0 7 1 ((((w1 σ 0 12 (((σ 0).1 12) + 1)) 0).2 7 (0 : Int32).toNatClampNeg) + (((w1 σ 0 12 (((σ 0).1 12) + 1)) 0).2 7 (2 : Int32).toNatClampNeg))) 0 7 2 (((w1 σ 0 12 (((σ 0).1 12) + 1)) 0).2 7 (0 : Int32).toNatClampNeg)) 0).2 11 (0 : Int32).toNatClampNeg) + (((w1 σ 0 12 (((σ 0).1 12) + 1)) 0).2 7 (1 : Int32).toNatClampNeg))) 0 11 1 ((((((w3 (w3 (w3 (w3 (w1 σ 0 12 (((σ 0).1 12) + 1)) 0 7 0 ((((w1 σ 0 12 (((σ 0).1 12) + 1)) 0).2 7 (0 : Int32).toNatClampNeg) + (((w1 σ 0 12 (((σ 0).1 12) + 1)) 0).2 7 (1 : Int32).toNatClampNeg))) 0 7 1 ((((w1 σ 0 12 (((σ 0).1 12) + 1)) 0).2 7 (0 : Int32).toNatClampNeg) + (((w1 σ 0 12 (((σ 0).1 12) + 1)) 0).2 7 (2 : Int32).toNatClampNeg))) 0 7 2 (((w1 σ 0 12 (((σ 0).1 12) + 1)) 0).2 7 (0 : Int32).toNatClampNeg)) 0 11 0 ((((w3 (w3 (w3 (w1 σ 0 12 (((σ 0).1 12) + 1)) 0 7 0 ((((w1 σ 0 12 (((σ 0).1 12) + 1)) 0).2 7 (0 : Int32).toNatClampNeg) + (((w1 σ 0 12 (((σ 0).1 12) + 1)) 0).2 7 (1 : Int32).toNatClampNeg))) 0 7 1 ((((w1 σ 0 12 (((σ 0).1 12) + 1)) 0).2 7 (0 : Int32).toNatClampNeg) + (((w1 σ 0 12 (((σ 0).1 12) + 1)) 0).2 7 (2 : Int32).toNatClampNeg))) 0 7 2 (((w1 σ 0 12 (((σ 0).1 12) + 1)) 0).2 7 (0 : Int32).toNatClampNeg)) 0).2 11 (0 : Int32).toNatClampNeg) + (((w1 σ 0 12 (((σ 0).1 12) + 1)) 0).2 7 (1 : Int32).toNatClampNeg))) 0).2 11 (1 : Int32).toNatClampNeg) + (((w1 σ 0 12 (((σ 0).1 12) + 1)) 0).2 7 (0 : Int32).toNatClampNeg)) + (((w1 σ 0 12 (((σ 0).1 12) + 1)) 0).2 7 (2 : Int32).toNatClampNeg)) - (((w1 σ 0 12 (((σ 0).1 12) + 1)) 0).2 7 (1 : Int32).toNatClampNeg))) 0).2 11 (2 : Int32).toNatClampNeg) + (((w1 σ 0 12 (((σ 0).1 12) + 1)) 0).2 7 (0 : Int32).toNatClampNeg)) - (((w1 σ 0 12 (((σ 0).1 12) + 1)) 0).2 7 (2 : Int32).toNatClampNeg))) 0 13 0), rfl, e9, by rw [ht]; exact hP, va_K.moved hW.alike hK, hD⟩, hS.F ht⟩) hS.2.2 d_M_findPlace_163
  intro K42
  refine lv_aload_n hx hb d_M_findPlace_0 rfl (lv_at hl 0 rfl) ?_
  refine va_get (D := (dC, dI)) (ci := 7) (v := .int ((σ 0).1 13)) (C := R_M) (T := F_M) (N := 33) hx hb htb in_M hown hK hP 0 (g_M) rfl 20 (by decide) (htb _ k_639) (fun _ h9 => h9) rfl d_M_findPlace_1 ?_
  refine lv_iconst (v := 2) hx hb d_M_findPlace_4 (by decide) ?_
  refine lv_icmp_ge (tgt := 42) hx hb d_M_findPlace_5 (by decide) (fun h5 => ?_) (fun h5 => ?_)
  · rw [if_pos h5] at hM
    exact K42 _ _ _ _ ⟨σ, rfl, hM, lv_sub hl [0] rfl, hP, hD, hS⟩
  · rw [if_neg h5] at hM
    refine lv_aload_n hx hb d_M_findPlace_8 rfl (lv_at hl 0 rfl) ?_
    refine va_get (D := (dC, dI)) (ci := 7) (v := .ref (ad 0 11)) (C := R_M) (T := F_M) (N := 33) hx hb htb in_M hown hK hP 0 (g_M) rfl 24 (by decide) (htb _ k_643) (fun _ h9 => h9) rfl d_M_findPlace_9 ?_
    refine lv_aload_n hx hb d_M_findPlace_12 rfl (lv_at hl 0 rfl) ?_
    refine va_get (D := (dC, dI)) (ci := 7) (v := .int ((σ 0).1 13)) (C := R_M) (T := F_M) (N := 33) hx hb htb in_M hown hK hP 0 (g_M) rfl 20 (by decide) (htb _ k_639) (fun _ h9 => h9) rfl d_M_findPlace_13 ?_
    have hg16 := gd_c hM
    have hM := gd_v hM
    refine va_iald hx hb hK hP 11 0 (g_M_a11) rfl (inb_in hg16) d_M_findPlace_16 ?_
    refine lv_aload_n hx hb d_M_findPlace_17 rfl (lv_at hl 0 rfl) ?_
    refine va_get (D := (dC, dI)) (ci := 7) (v := .ref (ad 0 11)) (C := R_M) (T := F_M) (N := 33) hx hb htb in_M hown hK hP 0 (g_M) rfl 24 (by decide) (htb _ k_643) (fun _ h9 => h9) rfl d_M_findPlace_18 ?_
    refine lv_aload_n hx hb d_M_findPlace_21 rfl (lv_at hl 0 rfl) ?_
    refine va_get (D := (dC, dI)) (ci := 7) (v := .int ((σ 0).1 13)) (C := R_M) (T := F_M) (N := 33) hx hb htb in_M hown hK hP 0 (g_M) rfl 20 (by decide) (htb _ k_639) (fun _ h9 => h9) rfl d_M_findPlace_22 ?_
    refine lv_iconst (v := 1) hx hb d_M_findPlace_25 (by decide) ?_
    refine lv_iadd hx hb d_M_findPlace_26 ?_
    have hg27 := gd_c hM
    have hM := gd_v hM
    refine va_iald hx hb hK hP 11 0 (g_M_a11) rfl (inb_in hg27) d_M_findPlace_27 ?_
    refine lv_icmp_ge (tgt := 42) hx hb d_M_findPlace_28 (by decide) (fun h28 => ?_) (fun h28 => ?_)
    · rw [if_pos h28] at hM
      exact K42 _ _ _ _ ⟨σ, rfl, hM, lv_sub hl [0] rfl, hP, hD, hS⟩
    · rw [if_neg h28] at hM
      refine lv_aload_n hx hb d_M_findPlace_31 rfl (lv_at hl 0 rfl) ?_
      refine lv_aload_n hx hb d_M_findPlace_32 rfl (lv_at hl 0 rfl) ?_
      refine va_get (D := (dC, dI)) (ci := 7) (v := .int ((σ 0).1 13)) (C := R_M) (T := F_M) (N := 33) hx hb htb in_M hown hK hP 0 (g_M) rfl 20 (by decide) (htb _ k_639) (fun _ h9 => h9) rfl d_M_findPlace_33 ?_
      refine lv_iconst (v := 1) hx hb d_M_findPlace_36 (by decide) ?_
      refine lv_iadd hx hb d_M_findPlace_37 ?_
      refine va_put (D := (dC, dI)) (ci := 7) (v := .int (((σ 0).1 13) + 1)) (ty := .int) (C := R_M) (T := F_M) (N := 33) hx hb htb in_M ft_M ft_M_ok n_M hown hK hP hD hS 0 (g_M) rfl 20 (by decide) (htb _ k_639) (fun _ h9 => h9) rfl (by decide +kernel) rfl rfl (Nat.le_of_ble_eq_true rfl) d_M_findPlace_38 (fun H locs hP hD hS => ?_)
      have hP := P_eq (s_M_13) hP
      have hD := D_eq (s_M_13) hD
      have e9 := Option.some.inj hM
      exact W.vret hx hb hr (fun t ht hW => ⟨⟨(w1 σ 0 13 (((σ 0).1 13) + 1)), rfl, e9, by rw [ht]; exact hP, va_K.moved hW.alike hK, hD⟩, hS.F ht⟩) hS.2.2 d_M_findPlace_41
