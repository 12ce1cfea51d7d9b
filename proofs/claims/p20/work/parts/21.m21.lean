theorem d_M_clear_0 : decode b_M_clear 0 = .ok (.aload_n 0, 1) := by decide +kernel
theorem d_M_clear_1 : decode b_M_clear 1 = .ok (.iconst 0, 1) := by decide +kernel
theorem d_M_clear_2 : decode b_M_clear 2 = .ok (.putfield 70, 3) := by decide +kernel
theorem d_M_clear_5 : decode b_M_clear 5 = .ok (.aload_n 0, 1) := by decide +kernel
theorem d_M_clear_6 : decode b_M_clear 6 = .ok (.getfield 76, 3) := by decide +kernel
theorem d_M_clear_9 : decode b_M_clear 9 = .ok (.istore_n 1, 1) := by decide +kernel
theorem d_M_clear_10 : decode b_M_clear 10 = .ok (.aload_n 0, 1) := by decide +kernel
theorem d_M_clear_11 : decode b_M_clear 11 = .ok (.invokevirtual 111, 3) := by decide +kernel
theorem d_M_clear_14 : decode b_M_clear 14 = .ok (.aload_n 0, 1) := by decide +kernel
theorem d_M_clear_15 : decode b_M_clear 15 = .ok (.iconst 0, 1) := by decide +kernel
theorem d_M_clear_16 : decode b_M_clear 16 = .ok (.putfield 76, 3) := by decide +kernel
theorem d_M_clear_19 : decode b_M_clear 19 = .ok (.aload_n 0, 1) := by decide +kernel
theorem d_M_clear_20 : decode b_M_clear 20 = .ok (.iconst 0, 1) := by decide +kernel
theorem d_M_clear_21 : decode b_M_clear 21 = .ok (.putfield 79, 3) := by decide +kernel
theorem d_M_clear_24 : decode b_M_clear 24 = .ok (.aload_n 0, 1) := by decide +kernel
theorem d_M_clear_25 : decode b_M_clear 25 = .ok (.iconst 0, 1) := by decide +kernel
theorem d_M_clear_26 : decode b_M_clear 26 = .ok (.putfield 73, 3) := by decide +kernel
theorem d_M_clear_29 : decode b_M_clear 29 = .ok (.aload_n 0, 1) := by decide +kernel
theorem d_M_clear_30 : decode b_M_clear 30 = .ok (.iconst 1, 1) := by decide +kernel
theorem d_M_clear_31 : decode b_M_clear 31 = .ok (.putfield 19, 3) := by decide +kernel
theorem d_M_clear_34 : decode b_M_clear 34 = .ok (.aload_n 0, 1) := by decide +kernel
theorem d_M_clear_35 : decode b_M_clear 35 = .ok (.iconst (-1), 1) := by decide +kernel
theorem d_M_clear_36 : decode b_M_clear 36 = .ok (.putfield 23, 3) := by decide +kernel
theorem d_M_clear_39 : decode b_M_clear 39 = .ok (.aload_n 0, 1) := by decide +kernel
theorem d_M_clear_40 : decode b_M_clear 40 = .ok (.iconst 0, 1) := by decide +kernel
theorem d_M_clear_41 : decode b_M_clear 41 = .ok (.putfield 114, 3) := by decide +kernel
theorem d_M_clear_44 : decode b_M_clear 44 = .ok (.aload_n 0, 1) := by decide +kernel
theorem d_M_clear_45 : decode b_M_clear 45 = .ok (.iconst 0, 1) := by decide +kernel
theorem d_M_clear_46 : decode b_M_clear 46 = .ok (.putfield 117, 3) := by decide +kernel
theorem d_M_clear_49 : decode b_M_clear 49 = .ok (.iconst 0, 1) := by decide +kernel
theorem d_M_clear_50 : decode b_M_clear 50 = .ok (.istore_n 2, 1) := by decide +kernel
theorem d_M_clear_51 : decode b_M_clear 51 = .ok (.iload_n 2, 1) := by decide +kernel
theorem d_M_clear_52 : decode b_M_clear 52 = .ok (.iconst 4, 1) := by decide +kernel
theorem d_M_clear_53 : decode b_M_clear 53 = .ok (.if_icmp .ge 16, 3) := by decide +kernel
theorem d_M_clear_56 : decode b_M_clear 56 = .ok (.aload_n 0, 1) := by decide +kernel
theorem d_M_clear_57 : decode b_M_clear 57 = .ok (.getfield 27, 3) := by decide +kernel
theorem d_M_clear_60 : decode b_M_clear 60 = .ok (.iload_n 2, 1) := by decide +kernel
theorem d_M_clear_61 : decode b_M_clear 61 = .ok (.iconst 0, 1) := by decide +kernel
theorem d_M_clear_62 : decode b_M_clear 62 = .ok (.iastore, 1) := by decide +kernel
theorem d_M_clear_63 : decode b_M_clear 63 = .ok (.iinc 2 1, 3) := by decide +kernel
theorem d_M_clear_66 : decode b_M_clear 66 = .ok (.goto (-15), 3) := by decide +kernel
theorem d_M_clear_69 : decode b_M_clear 69 = .ok (.iload_n 1, 1) := by decide +kernel
theorem d_M_clear_70 : decode b_M_clear 70 = .ok (.ireturn, 1) := by decide +kernel
def m_M_clear_51 (N : Nat) : Nat → SX → Int32 → Int32 → Option (Int32 × SX)
  | 0, _, _, _ => none
  | n51 + 1, σ, v1, v2 =>
    (if 4 ≤ v2 then some (v1, σ) else (if inb v2 4 = true then m_M_clear_51 N n51 (w3 σ 0 4 v2 0) v1 (v2 + 1) else none))

def m_M_clear (N : Nat) (σ : SX) : Option (Int32 × SX) :=
  (bV (m_M_reset N (w1 σ 0 0 0)) fun σ11 => m_M_clear_51 N N (w1 (w1 (w1 (w1 (w1 (w1 (w1 σ11 0 2 0) 0 3 0) 0 4 0) 0 5 1) 0 6 (-1)) 0 7 0) 0 8 0) (((w1 σ 0 0 0) 0).1 2) 0)

set_option maxHeartbeats 4000000 in
set_option maxRecDepth 100000 in
theorem c_M_clear (l : Launch) (dC : Nat → ClassId) (dI : Nat → Nat → Nat) (ad : Nat → Nat → Nat) (cs : Nat → ClassId) (sz N : Nat) (σ : SX) {r0 : Int32} {σ0 : SX} (hM : m_M_clear N σ = some (r0, σ0)) : Met l y_M_clear (wd y_M_clear b_M_clear 3 (some .int)) ({ frames := 1, cells := 0, slots := 0, locals := 21 }) (va_Pc [.ref (ad 0 0)] (preM dC dI ad cs sz σ)) (va_Qi (fun (r : Int32) (u : SX) => r = r0 ∧ u = σ0) (atM dC dI ad cs (va_A (wM ad cs σ) sz)) (va_A (wM ad cs σ) sz)) 0 0 (va_A (wM ad cs σ) sz) := by
  refine Met.ofW (cc := b_M_clear) (maxL := 3) (ret := (some .int)) (by decide) rfl ?_
  intro p e s m args below meth c s₁ B hml hv
  obtain ⟨rfl, hsz, hP, hK, hD0, hN⟩ := hv
  have hx := B.exec
  have hb := B.bytes
  have hr := B.returns
  have hts := atoms_spec (ws := (wd y_M_clear b_M_clear 3 (some .int))) B.pre
  have htb : ∀ w ∈ tb, w.before _ s = true := fun w h => hts w (List.mem_cons_of_mem _ h)
  have hown : s.vm.findClass R_M = some m.cls := findClass_of_methodNamed B.named
  have hlocks := B.notSynchronized
  subst hsz
  have hD := hD0.self (sz := s.heap.size)
  generalize hAe : va_A (wM ad cs σ) s.heap.size = A at hD ⊢
  have hA : ∀ q : Nat, s.heap.size ≤ q → A q := fun q h => by rw [← hAe]; exact Or.inr h
  have hS : va_S A s.heap s.heap [] := va_S.rf
  have hP : va_P (dC, dI) classes (wM ad cs σ) s.heap := hP
  have hl := lv_entry ([.ref (ad 0 0)]) (n := 3) (Nat.le_of_ble_eq_true rfl)
  rw [lg_entry_eq]
  generalize (lg_sl ([.ref (ad 0 0)]) ++ List.replicate (3 - (lg_sl ([.ref (ad 0 0)])).length) Slot.unset).toArray = ls at hl ⊢
  have hl : lv_has ls 3 [(0, .ref (ad 0 0))] := hl
  rw [m_M_clear] at hM
  refine W_loop (pc := 51) (fun n51 H locs ls st => ∃ (σ : SX) (v1 : Int32) (v2 : Int32), st = [] ∧ m_M_clear_51 N n51 σ v1 v2 = some (r0, σ0) ∧ lv_has ls 3 [(0, .ref (ad 0 0)), (1, .int v1), (2, .int v2)] ∧ va_P (dC, dI) classes (wM ad cs σ) H ∧ va_D A (wM ad cs σ) ∧ va_S A s.heap H locs) ?_ ?_ ?_
  · rintro H locs ls st ⟨σ, v1, v2, -, hM, -⟩
    rw [m_M_clear_51] at hM; cases hM
  · intro n51 K51 H locs ls st hI
    obtain ⟨σ, v1, v2, rfl, hM, hl, hP, hD, hS⟩ := hI
    rw [m_M_clear_51] at hM
    refine lv_iload_n hx hb d_M_clear_51 rfl (lv_at hl 2 rfl) ?_
    refine lv_iconst (v := 4) hx hb d_M_clear_52 (by decide) ?_
    refine lv_icmp_ge (tgt := 69) hx hb d_M_clear_53 (by decide) (fun h53 => ?_) (fun h53 => ?_)
    · rw [if_pos h53] at hM
      refine lv_iload_n hx hb d_M_clear_69 rfl (lv_at hl 1 rfl) ?_
      have e9 := Prod.mk.inj (Option.some.inj hM)
      exact W.iret (v := v1) hx hb hr (fun t ht hW => ⟨⟨v1, σ, rfl, e9, by rw [ht]; exact hP, va_K.moved hW.alike hK, hD⟩, hS.F ht⟩) hS.2.2 d_M_clear_70
    · rw [if_neg h53] at hM
      refine lv_aload_n hx hb d_M_clear_56 rfl (lv_at hl 0 rfl) ?_
      refine va_get (D := (dC, dI)) (ci := 7) (v := .ref (ad 0 4)) (C := R_M) (T := F_M) (N := 33) hx hb htb in_M hown hK hP 0 (g_M) rfl 12 (by decide) (htb _ k_631) (fun _ h9 => h9) rfl d_M_clear_57 ?_
      refine lv_iload_n hx hb d_M_clear_60 rfl (lv_at hl 2 rfl) ?_
      refine lv_iconst (v := 0) hx hb d_M_clear_61 (by decide) ?_
      have hg62 := gd_c hM
      have hM := gd_v hM
      refine va_iast (i := v2) (x := 0) hx hb hK hP hD hS 4 0 (g_M_a4) rfl (inb_in hg62) d_M_clear_62 (fun H locs hP hD hS => ?_)
      have hP := P_eq (t_M_4) hP
      have hD := D_eq (t_M_4) hD
      refine lv_iinc (k := 2) (v := (v2 + 1)) hx hb d_M_clear_63 hl rfl rfl (by decide) (lv' := [(2, .int (v2 + 1)), (0, .ref (ad 0 0)), (1, .int v1)]) rfl (fun ls hl => ?_)
      refine lv_goto (tgt := 51) hx hb d_M_clear_66 (by decide) ?_
      exact K51 _ _ _ _ ⟨(w3 σ 0 4 v2 0), v1, (v2 + 1), rfl, hM, lv_sub hl [1, 2, 0] rfl, hP, hD, hS⟩
  intro K51
  refine lv_aload_n hx hb d_M_clear_0 rfl (lv_at hl 0 rfl) ?_
  refine lv_iconst (v := 0) hx hb d_M_clear_1 (by decide) ?_
  refine va_put (D := (dC, dI)) (ci := 7) (v := .int 0) (ty := .int) (C := R_M) (T := F_M) (N := 33) hx hb htb in_M ft_M ft_M_ok n_M hown hK hP hD hS 0 (g_M) rfl 0 (by decide) (htb _ k_619) (fun _ h9 => h9) rfl (by decide +kernel) rfl rfl (Nat.le_of_ble_eq_true rfl) d_M_clear_2 (fun H locs hP hD hS => ?_)
  have hP := P_eq (s_M_0) hP
  have hD := D_eq (s_M_0) hD
  refine lv_aload_n hx hb d_M_clear_5 rfl (lv_at hl 0 rfl) ?_
  refine va_get (D := (dC, dI)) (ci := 7) (v := .int (((w1 σ 0 0 0) 0).1 2)) (C := R_M) (T := F_M) (N := 33) hx hb htb in_M hown hK hP 0 (g_M) rfl 2 (by decide) (htb _ k_621) (fun _ h9 => h9) rfl d_M_clear_6 ?_
  refine lv_istore_n hx hb d_M_clear_9 rfl hl (by decide) (lv' := [(1, .int (((w1 σ 0 0 0) 0).1 2)), (0, .ref (ad 0 0))]) rfl (fun ls hl => ?_)
  refine lv_aload_n hx hb d_M_clear_10 rfl (lv_at hl 1 rfl) ?_
  have hF1 := free_all hD hS hA
  obtain ⟨y11, hq11, hM⟩ := bV_some hM
  refine va_callv (va_runV (As := []) (rest := []) ⟨hx, hb, hml, hown, hts⟩ (c_M_reset l dC dI ad cs _ N (w1 σ 0 0 0) hq11) (cwV 0 hts (goodV k_751 k_753 ks_M_reset k_8 k_754) rfl rfl rfl ⟨rfl, by decide, by decide, by decide +kernel⟩ ⟨Nat.le_of_ble_eq_true rfl, Nat.le_of_ble_eq_true rfl⟩) ⟨blindM, va_recv hK hP rfl (g_M), payM hP hK hD hN⟩ rfl rfl hl.1 rfl (lv_room (Nat.le_of_ble_eq_true rfl)) d_M_clear_11 ⟨Nat.zero_le _, Nat.zero_le _⟩) hS (fun q _ h => hF1 q h) hF1 (fun σ11 t H locs ht hvm hpost hB hz1 hk1 hS => ?_)
  subst hpost
  obtain ⟨hP1, hK1, hD1⟩ := hB
  rw [ht] at hP1
  have hP := hP1
  have hD := hD1.weaken (fun _ _ _ h => hF1 _ h)
  refine lv_aload_n hx hb d_M_clear_14 rfl (lv_at hl 1 rfl) ?_
  refine lv_iconst (v := 0) hx hb d_M_clear_15 (by decide) ?_
  refine va_put (D := (dC, dI)) (ci := 7) (v := .int 0) (ty := .int) (C := R_M) (T := F_M) (N := 33) hx hb htb in_M ft_M ft_M_ok n_M hown hK hP hD hS 0 (g_M) rfl 2 (by decide) (htb _ k_621) (fun _ h9 => h9) rfl (by decide +kernel) rfl rfl (Nat.le_of_ble_eq_true rfl) d_M_clear_16 (fun H locs hP hD hS => ?_)
  have hP := P_eq (s_M_2) hP
  have hD := D_eq (s_M_2) hD
  refine lv_aload_n hx hb d_M_clear_19 rfl (lv_at hl 1 rfl) ?_
  refine lv_iconst (v := 0) hx hb d_M_clear_20 (by decide) ?_
  refine va_put (D := (dC, dI)) (ci := 7) (v := .int 0) (ty := .int) (C := R_M) (T := F_M) (N := 33) hx hb htb in_M ft_M ft_M_ok n_M hown hK hP hD hS 0 (g_M) rfl 4 (by decide) (htb _ k_623) (fun _ h9 => h9) rfl (by decide +kernel) rfl rfl (Nat.le_of_ble_eq_true rfl) d_M_clear_21 (fun H locs hP hD hS => ?_)
  have hP := P_eq (s_M_3) hP
  have hD := D_eq (s_M_3) hD
  refine lv_aload_n hx hb d_M_clear_24 rfl (lv_at hl 1 rfl) ?_
  refine lv_iconst (v := 0) hx hb d_M_clear_25 (by decide) ?_
  refine va_put (D := (dC, dI)) (ci := 7) (v := .int 0) (ty := .int) (C := R_M) (T := F_M) (N := 33) hx hb htb in_M ft_M ft_M_ok n_M hown hK hP hD hS 0 (g_M) rfl 7 (by decide) (htb _ k_626) (fun _ h9 => h9) rfl (by decide +kernel) rfl rfl (Nat.le_of_ble_eq_true rfl) d_M_clear_26 (fun H locs hP hD hS => ?_)
  have hP := P_eq (s_M_4) hP
  have hD := D_eq (s_M_4) hD
  refine lv_aload_n hx hb d_M_clear_29 rfl (lv_at hl 1 rfl) ?_
  refine lv_iconst (v := 1) hx hb d_M_clear_30 (by decide) ?_
  refine va_put (D := (dC, dI)) (ci := 7) (v := .int 1) (ty := .boolean) (C := R_M) (T := F_M) (N := 33) hx hb htb in_M ft_M ft_M_ok n_M hown hK hP hD hS 0 (g_M) rfl 8 (by decide) (htb _ k_627) (fun _ h9 => h9) rfl (by decide +kernel) rfl rfl (Nat.le_of_ble_eq_true rfl) d_M_clear_31 (fun H locs hP hD hS => ?_)
  have hP := P_eq (s_M_5) hP
  have hD := D_eq (s_M_5) hD
  refine lv_aload_n hx hb d_M_clear_34 rfl (lv_at hl 1 rfl) ?_
  refine lv_iconst (v := (-1)) hx hb d_M_clear_35 (by decide) ?_
  refine va_put (D := (dC, dI)) (ci := 7) (v := .int (-1)) (ty := .int) (C := R_M) (T := F_M) (N := 33) hx hb htb in_M ft_M ft_M_ok n_M hown hK hP hD hS 0 (g_M) rfl 9 (by decide) (htb _ k_628) (fun _ h9 => h9) rfl (by decide +kernel) rfl rfl (Nat.le_of_ble_eq_true rfl) d_M_clear_36 (fun H locs hP hD hS => ?_)
  have hP := P_eq (s_M_6) hP
  have hD := D_eq (s_M_6) hD
  refine lv_aload_n hx hb d_M_clear_39 rfl (lv_at hl 1 rfl) ?_
  refine lv_iconst (v := 0) hx hb d_M_clear_40 (by decide) ?_
  refine va_put (D := (dC, dI)) (ci := 7) (v := .int 0) (ty := .int) (C := R_M) (T := F_M) (N := 33) hx hb htb in_M ft_M ft_M_ok n_M hown hK hP hD hS 0 (g_M) rfl 10 (by decide) (htb _ k_629) (fun _ h9 => h9) rfl (by decide +kernel) rfl rfl (Nat.le_of_ble_eq_true rfl) d_M_clear_41 (fun H locs hP hD hS => ?_)
  have hP := P_eq (s_M_7) hP
  have hD := D_eq (s_M_7) hD
  refine lv_aload_n hx hb d_M_clear_44 rfl (lv_at hl 1 rfl) ?_
  refine lv_iconst (v := 0) hx hb d_M_clear_45 (by decide) ?_
  refine va_put (D := (dC, dI)) (ci := 7) (v := .int 0) (ty := .int) (C := R_M) (T := F_M) (N := 33) hx hb htb in_M ft_M ft_M_ok n_M hown hK hP hD hS 0 (g_M) rfl 11 (by decide) (htb _ k_630) (fun _ h9 => h9) rfl (by decide +kernel) rfl rfl (Nat.le_of_ble_eq_true rfl) d_M_clear_46 (fun H locs hP hD hS => ?_)
  have hP := P_eq (s_M_8) hP
  have hD := D_eq (s_M_8) hD
  refine lv_iconst (v := 0) hx hb d_M_clear_49 (by decide) ?_
  refine lv_istore_n hx hb d_M_clear_50 rfl hl (by decide) (lv' := [(2, .int 0), (1, .int (((w1 σ 0 0 0) 0).1 2)), (0, .ref (ad 0 0))]) rfl (fun ls hl => ?_)
  exact K51 N _ _ _ _ ⟨(w1 (w1 (w1 (w1 (w1 (w1 (w1 σ11 0 2 0) 0 3 0) 0 4 0) 0 5 1) 0 6 (-1)) 0 7 0) 0 8 0), (((w1 σ 0 0 0) 0).1 2), 0, rfl, hM, lv_sub hl [2, 1, 0] rfl, hP, hD, hS⟩

theorem d_M_write_0 : decode b_M_write 0 = .ok (.aload_n 0, 1) := by decide +kernel
theorem d_M_write_1 : decode b_M_write 1 = .ok (.getfield 23, 3) := by decide +kernel
theorem d_M_write_4 : decode b_M_write 4 = .ok (.ifCond .ne 15, 3) := by decide +kernel
theorem d_M_write_7 : decode b_M_write 7 = .ok (.aload_n 0, 1) := by decide +kernel
theorem d_M_write_8 : decode b_M_write 8 = .ok (.iconst 0, 1) := by decide +kernel
theorem d_M_write_9 : decode b_M_write 9 = .ok (.putfield 19, 3) := by decide +kernel
theorem d_M_write_12 : decode b_M_write 12 = .ok (.aload_n 0, 1) := by decide +kernel
theorem d_M_write_13 : decode b_M_write 13 = .ok (.iconst (-1), 1) := by decide +kernel
theorem d_M_write_14 : decode b_M_write 14 = .ok (.putfield 23, 3) := by decide +kernel
theorem d_M_write_17 : decode b_M_write 17 = .ok (.iconst 0, 1) := by decide +kernel
theorem d_M_write_18 : decode b_M_write 18 = .ok (.ireturn, 1) := by decide +kernel
theorem d_M_write_19 : decode b_M_write 19 = .ok (.aload_n 0, 1) := by decide +kernel
theorem d_M_write_20 : decode b_M_write 20 = .ok (.aload_n 0, 1) := by decide +kernel
theorem d_M_write_21 : decode b_M_write 21 = .ok (.getfield 23, 3) := by decide +kernel
theorem d_M_write_24 : decode b_M_write 24 = .ok (.ifCond .le 12, 3) := by decide +kernel
theorem d_M_write_27 : decode b_M_write 27 = .ok (.aload_n 0, 1) := by decide +kernel
theorem d_M_write_28 : decode b_M_write 28 = .ok (.getfield 23, 3) := by decide +kernel
theorem d_M_write_31 : decode b_M_write 31 = .ok (.iconst 1, 1) := by decide +kernel
theorem d_M_write_32 : decode b_M_write 32 = .ok (.isub, 1) := by decide +kernel
theorem d_M_write_33 : decode b_M_write 33 = .ok (.goto 7, 3) := by decide +kernel
theorem d_M_write_36 : decode b_M_write 36 = .ok (.aload_n 0, 1) := by decide +kernel
theorem d_M_write_37 : decode b_M_write 37 = .ok (.getfield 23, 3) := by decide +kernel
theorem d_M_write_40 : decode b_M_write 40 = .ok (.putfield 23, 3) := by decide +kernel
theorem d_M_write_43 : decode b_M_write 43 = .ok (.aload_n 0, 1) := by decide +kernel
theorem d_M_write_44 : decode b_M_write 44 = .ok (.aload_n 0, 1) := by decide +kernel
theorem d_M_write_45 : decode b_M_write 45 = .ok (.getfield 114, 3) := by decide +kernel
theorem d_M_write_48 : decode b_M_write 48 = .ok (.iconst 1, 1) := by decide +kernel
theorem d_M_write_49 : decode b_M_write 49 = .ok (.iadd, 1) := by decide +kernel
theorem d_M_write_50 : decode b_M_write 50 = .ok (.putfield 114, 3) := by decide +kernel
theorem d_M_write_53 : decode b_M_write 53 = .ok (.aload_n 0, 1) := by decide +kernel
theorem d_M_write_54 : decode b_M_write 54 = .ok (.getfield 61, 3) := by decide +kernel
theorem d_M_write_57 : decode b_M_write 57 = .ok (.aload_n 0, 1) := by decide +kernel
theorem d_M_write_58 : decode b_M_write 58 = .ok (.getfield 120, 3) := by decide +kernel
theorem d_M_write_61 : decode b_M_write 61 = .ok (.iload_n 1, 1) := by decide +kernel
theorem d_M_write_62 : decode b_M_write 62 = .ok (.iastore, 1) := by decide +kernel
theorem d_M_write_63 : decode b_M_write 63 = .ok (.aload_n 0, 1) := by decide +kernel
theorem d_M_write_64 : decode b_M_write 64 = .ok (.aload_n 0, 1) := by decide +kernel
theorem d_M_write_65 : decode b_M_write 65 = .ok (.getfield 120, 3) := by decide +kernel
theorem d_M_write_68 : decode b_M_write 68 = .ok (.iconst 1, 1) := by decide +kernel
theorem d_M_write_69 : decode b_M_write 69 = .ok (.iadd, 1) := by decide +kernel
theorem d_M_write_70 : decode b_M_write 70 = .ok (.putfield 120, 3) := by decide +kernel
theorem d_M_write_73 : decode b_M_write 73 = .ok (.iconst 1, 1) := by decide +kernel
theorem d_M_write_74 : decode b_M_write 74 = .ok (.ireturn, 1) := by decide +kernel
def m_M_write_40 (N : Nat) (σ : SX) (v1 : Int32) (s0 : Int32) : Option (Int32 × SX) :=
    (if inb (((w1 (w1 σ 0 6 s0) 0 7 ((((w1 σ 0 6 s0) 0).1 7) + 1)) 0).1 16) 150 = true then some (1, (w1 (w3 (w1 (w1 σ 0 6 s0) 0 7 ((((w1 σ 0 6 s0) 0).1 7) + 1)) 0 15 (((w1 (w1 σ 0 6 s0) 0 7 ((((w1 σ 0 6 s0) 0).1 7) + 1)) 0).1 16) v1) 0 16 ((((w3 (w1 (w1 σ 0 6 s0) 0 7 ((((w1 σ 0 6 s0) 0).1 7) + 1)) 0 15 (((w1 (w1 σ 0 6 s0) 0 7 ((((w1 σ 0 6 s0) 0).1 7) + 1)) 0).1 16) v1) 0).1 16) + 1))) else none)

def m_M_write (N : Nat) (σ : SX) (a1 : Int32) : Option (Int32 × SX) :=
  (if ((σ 0).1 6) = 0 then some (0, (w1 (w1 σ 0 5 0) 0 6 (-1))) else (if ((σ 0).1 6) ≤ 0 then m_M_write_40 N σ a1 ((σ 0).1 6) else m_M_write_40 N σ a1 (((σ 0).1 6) - 1)))

set_option maxHeartbeats 4000000 in
set_option maxRecDepth 100000 in
theorem c_M_write (l : Launch) (dC : Nat → ClassId) (dI : Nat → Nat → Nat) (ad : Nat → Nat → Nat) (cs : Nat → ClassId) (sz N : Nat) (σ : SX) (a1 : Int32) {r0 : Int32} {σ0 : SX} (hM : m_M_write N σ a1 = some (r0, σ0)) : Met l y_M_write (wd y_M_write b_M_write 2 (some .boolean)) ({ frames := 0, cells := 0, slots := 0, locals := 0 }) (va_Pc [.ref (ad 0 0), .int a1] (preM dC dI ad cs sz σ)) (va_Qi (fun (r : Int32) (u : SX) => r = r0 ∧ u = σ0) (atM dC dI ad cs (va_A (wM ad cs σ) sz)) (va_A (wM ad cs σ) sz)) 0 0 (va_A (wM ad cs σ) sz) := by
  refine Met.ofW (cc := b_M_write) (maxL := 2) (ret := (some .boolean)) (by decide) rfl ?_
  intro p e s m args below meth c s₁ B hml hv
  obtain ⟨rfl, hsz, hP, hK, hD0, hN⟩ := hv
  have hx := B.exec
  have hb := B.bytes
  have hr := B.returns
  have hts := atoms_spec (ws := (wd y_M_write b_M_write 2 (some .boolean))) B.pre
  have htb : ∀ w ∈ tb, w.before _ s = true := fun w h => hts w (List.mem_cons_of_mem _ h)
  have hown : s.vm.findClass R_M = some m.cls := findClass_of_methodNamed B.named
  have hlocks := B.notSynchronized
  subst hsz
  have hD := hD0.self (sz := s.heap.size)
  generalize hAe : va_A (wM ad cs σ) s.heap.size = A at hD ⊢
  have hA : ∀ q : Nat, s.heap.size ≤ q → A q := fun q h => by rw [← hAe]; exact Or.inr h
  have hS : va_S A s.heap s.heap [] := va_S.rf
  have hP : va_P (dC, dI) classes (wM ad cs σ) s.heap := hP
  have hl := lv_entry ([.ref (ad 0 0), .int a1]) (n := 2) (Nat.le_of_ble_eq_true rfl)
  rw [lg_entry_eq]
  generalize (lg_sl ([.ref (ad 0 0), .int a1]) ++ List.replicate (2 - (lg_sl ([.ref (ad 0 0), .int a1])).length) Slot.unset).toArray = ls at hl ⊢
  have hl : lv_has ls 2 [(0, .ref (ad 0 0)), (1, .int a1)] := hl
  rw [m_M_write] at hM
  refine W_cut (pc := 40) (fun H locs ls st => ∃ (σ : SX) (v1 : Int32) (s0 : Int32), st = [.int s0, .ref (ad 0 0)] ∧ m_M_write_40 N σ v1 s0 = some (r0, σ0) ∧ lv_has ls 2 [(0, .ref (ad 0 0)), (1, .int v1)] ∧ va_P (dC, dI) classes (wM ad cs σ) H ∧ va_D A (wM ad cs σ) ∧ va_S A s.heap H locs) ?_ ?_
  · intro H locs ls st hI
    obtain ⟨σ, v1, s0, rfl, hM, hl, hP, hD, hS⟩ := hI
    rw [m_M_write_40] at hM
    refine va_put (D := (dC, dI)) (ci := 7) (v := .int s0) (ty := .int) (C := R_M) (T := F_M) (N := 33) hx hb htb in_M ft_M ft_M_ok n_M hown hK hP hD hS 0 (g_M) rfl 9 (by decide) (htb _ k_628) (fun _ h9 => h9) rfl (by decide +kernel) rfl rfl (Nat.le_of_ble_eq_true rfl) d_M_write_40 (fun H locs hP hD hS => ?_)
    have hP := P_eq (s_M_6) hP
    have hD := D_eq (s_M_6) hD
    refine lv_aload_n hx hb d_M_write_43 rfl (lv_at hl 0 rfl) ?_
    refine lv_aload_n hx hb d_M_write_44 rfl (lv_at hl 0 rfl) ?_
    refine va_get (D := (dC, dI)) (ci := 7) (v := .int (((w1 σ 0 6 s0) 0).1 7)) (C := R_M) (T := F_M) (N := 33) hx hb htb in_M hown hK hP 0 (g_M) rfl 10 (by decide) (htb _ k_629) (fun _ h9 => h9) rfl d_M_write_45 ?_
    refine lv_iconst (v := 1) hx hb d_M_write_48 (by decide) ?_
    refine lv_iadd hx hb d_M_write_49 ?_
    refine va_put (D := (dC, dI)) (ci := 7) (v := .int ((((w1 σ 0 6 s0) 0).1 7) + 1)) (ty := .int) (C := R_M) (T := F_M) (N := 33) hx hb htb in_M ft_M ft_M_ok n_M hown hK hP hD hS 0 (g_M) rfl 10 (by decide) (htb _ k_629) (fun _ h9 => h9) rfl (by decide +kernel) rfl rfl (Nat.le_of_ble_eq_true rfl) d_M_write_50 (fun H locs hP hD hS => ?_)
    have hP := P_eq (s_M_7) hP
    have hD := D_eq (s_M_7) hD
    refine lv_aload_n hx hb d_M_write_53 rfl (lv_at hl 0 rfl) ?_
    refine va_get (D := (dC, dI)) (ci := 7) (v := .ref (ad 0 15)) (C := R_M) (T := F_M) (N := 33) hx hb htb in_M hown hK hP 0 (g_M) rfl 31 (by decide) (htb _ k_650) (fun _ h9 => h9) rfl d_M_write_54 ?_
    refine lv_aload_n hx hb d_M_write_57 rfl (lv_at hl 0 rfl) ?_
    refine va_get (D := (dC, dI)) (ci := 7) (v := .int (((w1 (w1 σ 0 6 s0) 0 7 ((((w1 σ 0 6 s0) 0).1 7) + 1)) 0).1 16)) (C := R_M) (T := F_M) (N := 33) hx hb htb in_M hown hK hP 0 (g_M) rfl 30 (by decide) (htb _ k_649) (fun _ h9 => h9) rfl d_M_write_58 ?_
    refine lv_iload_n hx hb d_M_write_61 rfl (lv_at hl 1 rfl) ?_
    have hg62 := gd_c hM
    have hM := gd_v hM
    refine va_iast (i := (((w1 (w1 σ 0 6 s0) 0 7 ((((w1 σ 0 6 s0) 0).1 7) + 1)) 0).1 16)) (x := v1) hx hb hK hP hD hS 15 0 (g_M_a15) rfl (inb_in hg62) d_M_write_62 (fun H locs hP hD hS => ?_)
    have hP := P_eq (t_M_15) hP
    have hD := D_eq (t_M_15) hD
    refine lv_aload_n hx hb d_M_write_63 rfl (lv_at hl 0 rfl) ?_
    refine lv_aload_n hx hb d_M_write_64 rfl (lv_at hl 0 rfl) ?_
    refine va_get (D := (dC, dI)) (ci := 7) (v := .int (((w3 (w1 (w1 σ 0 6 s0) 0 7 ((((w1 σ 0 6 s0) 0).1 7) + 1)) 0 15 (((w1 (w1 σ 0 6 s0) 0 7 ((((w1 σ 0 6 s0) 0).1 7) + 1)) 0).1 16) v1) 0).1 16)) (C := R_M) (T := F_M) (N := 33) hx hb htb in_M hown hK hP 0 (g_M) rfl 30 (by decide) (htb _ k_649) (fun _ h9 => h9) rfl d_M_write_65 ?_
    refine lv_iconst (v := 1) hx hb d_M_write_68 (by decide) ?_
    refine lv_iadd hx hb d_M_write_69 ?_
    refine va_put (D := (dC, dI)) (ci := 7) (v := .int ((((w3 (w1 (w1 σ 0 6 s0) 0 7 ((((w1 σ 0 6 s0) 0).1 7) + 1)) 0 15 (((w1 (w1 σ 0 6 s0) 0 7 ((((w1 σ 0 6 s0) 0).1 7) + 1)) 0).1 16) v1) 0).1 16) + 1)) (ty := .int) (C := R_M) (T := F_M) (N := 33) hx hb htb in_M ft_M ft_M_ok n_M hown hK hP hD hS 0 (g_M) rfl 30 (by decide) (htb _ k_649) (fun _ h9 => h9) rfl (by decide +kernel) rfl rfl (Nat.le_of_ble_eq_true rfl) d_M_write_70 (fun H locs hP hD hS => ?_)
    have hP := P_eq (s_M_16) hP
    have hD := D_eq (s_M_16) hD
    refine lv_iconst (v := 1) hx hb d_M_write_73 (by decide) ?_
    have e9 := Prod.mk.inj (Option.some.inj hM)
    exact W.zret (ty := .boolean) (v := 1) hx hb hr rfl (fun t ht hW => ⟨⟨1, (w1 (w3 (w1 (w1 σ 0 6 s0) 0 7 ((((w1 σ 0 6 s0) 0).1 7) + 1)) 0 15 (((w1 (w1 σ 0 6 s0) 0 7 ((((w1 σ 0 6 s0) 0).1 7) + 1)) 0).1 16) v1) 0 16 ((((w3 (w1 (w1 σ 0 6 s0) 0 7 ((((w1 σ 0 6 s0) 0).1 7) + 1)) 0 15 (((w1 (w1 σ 0 6 s0) 0 7 ((((w1 σ 0 6 s0) 0).1 7) + 1)) 0).1 16) v1) 0).1 16) + 1)), rfl, e9, by rw [ht]; exact hP, va_K.moved hW.alike hK, hD⟩, hS.F ht⟩) hS.2.2 d_M_write_74
  intro K40
  refine lv_aload_n hx hb d_M_write_0 rfl (lv_at hl 0 rfl) ?_
  refine va_get (D := (dC, dI)) (ci := 7) (v := .int ((σ 0).1 6)) (C := R_M) (T := F_M) (N := 33) hx hb htb in_M hown hK hP 0 (g_M) rfl 9 (by decide) (htb _ k_628) (fun _ h9 => h9) rfl d_M_write_1 ?_
  refine lv_if_ne (tgt := 19) hx hb d_M_write_4 (by decide) (fun h4 => ?_) (fun h4 => ?_)
  · rw [if_neg h4] at hM
    refine lv_aload_n hx hb d_M_write_19 rfl (lv_at hl 0 rfl) ?_
    refine lv_aload_n hx hb d_M_write_20 rfl (lv_at hl 0 rfl) ?_
    refine va_get (D := (dC, dI)) (ci := 7) (v := .int ((σ 0).1 6)) (C := R_M) (T := F_M) (N := 33) hx hb htb in_M hown hK hP 0 (g_M) rfl 9 (by decide) (htb _ k_628) (fun _ h9 => h9) rfl d_M_write_21 ?_
    refine lv_if_le (tgt := 36) hx hb d_M_write_24 (by decide) (fun h24 => ?_) (fun h24 => ?_)
    · rw [if_pos h24] at hM
      refine lv_aload_n hx hb d_M_write_36 rfl (lv_at hl 0 rfl) ?_
      refine va_get (D := (dC, dI)) (ci := 7) (v := .int ((σ 0).1 6)) (C := R_M) (T := F_M) (N := 33) hx hb htb in_M hown hK hP 0 (g_M) rfl 9 (by decide) (htb _ k_628) (fun _ h9 => h9) rfl d_M_write_37 ?_
      exact K40 _ _ _ _ ⟨σ, a1, ((σ 0).1 6), rfl, hM, lv_sub hl [0, 1] rfl, hP, hD, hS⟩
    · rw [if_neg h24] at hM
      refine lv_aload_n hx hb d_M_write_27 rfl (lv_at hl 0 rfl) ?_
      refine va_get (D := (dC, dI)) (ci := 7) (v := .int ((σ 0).1 6)) (C := R_M) (T := F_M) (N := 33) hx hb htb in_M hown hK hP 0 (g_M) rfl 9 (by decide) (htb _ k_628) (fun _ h9 => h9) rfl d_M_write_28 ?_
      refine lv_iconst (v := 1) hx hb d_M_write_31 (by decide) ?_
      refine lv_isub hx hb d_M_write_32 ?_
      refine lv_goto (tgt := 40) hx hb d_M_write_33 (by decide) ?_
      exact K40 _ _ _ _ ⟨σ, a1, (((σ 0).1 6) - 1), rfl, hM, lv_sub hl [0, 1] rfl, hP, hD, hS⟩
  · rw [if_pos h4] at hM
    refine lv_aload_n hx hb d_M_write_7 rfl (lv_at hl 0 rfl) ?_
    refine lv_iconst (v := 0) hx hb d_M_write_8 (by decide) ?_
    refine va_put (D := (dC, dI)) (ci := 7) (v := .int 0) (ty := .boolean) (C := R_M) (T := F_M) (N := 33) hx hb htb in_M ft_M ft_M_ok n_M hown hK hP hD hS 0 (g_M) rfl 8 (by decide) (htb _ k_627) (fun _ h9 => h9) rfl (by decide +kernel) rfl rfl (Nat.le_of_ble_eq_true rfl) d_M_write_9 (fun H locs hP hD hS => ?_)
    have hP := P_eq (s_M_5) hP
    have hD := D_eq (s_M_5) hD
    refine lv_aload_n hx hb d_M_write_12 rfl (lv_at hl 0 rfl) ?_
    refine lv_iconst (v := (-1)) hx hb d_M_write_13 (by decide) ?_
    refine va_put (D := (dC, dI)) (ci := 7) (v := .int (-1)) (ty := .int) (C := R_M) (T := F_M) (N := 33) hx hb htb in_M ft_M ft_M_ok n_M hown hK hP hD hS 0 (g_M) rfl 9 (by decide) (htb _ k_628) (fun _ h9 => h9) rfl (by decide +kernel) rfl rfl (Nat.le_of_ble_eq_true rfl) d_M_write_14 (fun H locs hP hD hS => ?_)
    have hP := P_eq (s_M_6) hP
    have hD := D_eq (s_M_6) hD
    refine lv_iconst (v := 0) hx hb d_M_write_17 (by decide) ?_
    have e9 := Prod.mk.inj (Option.some.inj hM)
    exact W.zret (ty := .boolean) (v := 0) hx hb hr rfl (fun t ht hW => ⟨⟨0, (w1 (w1 σ 0 5 0) 0 6 (-1)), rfl, e9, by rw [ht]; exact hP, va_K.moved hW.alike hK, hD⟩, hS.F ht⟩) hS.2.2 d_M_write_18

theorem d_M_first_0 : decode b_M_first 0 = .ok (.iconst (-1), 1) := by decide +kernel
theorem d_M_first_1 : decode b_M_first 1 = .ok (.istore_n 1, 1) := by decide +kernel
theorem d_M_first_2 : decode b_M_first 2 = .ok (.iconst 0, 1) := by decide +kernel
theorem d_M_first_3 : decode b_M_first 3 = .ok (.istore_n 2, 1) := by decide +kernel
theorem d_M_first_4 : decode b_M_first 4 = .ok (.iload_n 2, 1) := by decide +kernel
theorem d_M_first_5 : decode b_M_first 5 = .ok (.aload_n 0, 1) := by decide +kernel
theorem d_M_first_6 : decode b_M_first 6 = .ok (.getfield 123, 3) := by decide +kernel
theorem d_M_first_9 : decode b_M_first 9 = .ok (.if_icmp .ge 47, 3) := by decide +kernel
theorem d_M_first_12 : decode b_M_first 12 = .ok (.aload_n 0, 1) := by decide +kernel
theorem d_M_first_13 : decode b_M_first 13 = .ok (.getfield 58, 3) := by decide +kernel
theorem d_M_first_16 : decode b_M_first 16 = .ok (.iload_n 2, 1) := by decide +kernel
theorem d_M_first_17 : decode b_M_first 17 = .ok (.baload, 1) := by decide +kernel
theorem d_M_first_18 : decode b_M_first 18 = .ok (.ifCond .ne 30, 3) := by decide +kernel
theorem d_M_first_21 : decode b_M_first 21 = .ok (.iload_n 1, 1) := by decide +kernel
theorem d_M_first_22 : decode b_M_first 22 = .ok (.ifCond .lt 22, 3) := by decide +kernel
theorem d_M_first_25 : decode b_M_first 25 = .ok (.aload_n 0, 1) := by decide +kernel
theorem d_M_first_26 : decode b_M_first 26 = .ok (.aload_n 0, 1) := by decide +kernel
theorem d_M_first_27 : decode b_M_first 27 = .ok (.getfield 55, 3) := by decide +kernel
theorem d_M_first_30 : decode b_M_first 30 = .ok (.iload_n 2, 1) := by decide +kernel
theorem d_M_first_31 : decode b_M_first 31 = .ok (.iaload, 1) := by decide +kernel
theorem d_M_first_32 : decode b_M_first 32 = .ok (.aload_n 0, 1) := by decide +kernel
theorem d_M_first_33 : decode b_M_first 33 = .ok (.getfield 55, 3) := by decide +kernel
theorem d_M_first_36 : decode b_M_first 36 = .ok (.iload_n 1, 1) := by decide +kernel
theorem d_M_first_37 : decode b_M_first 37 = .ok (.iaload, 1) := by decide +kernel
theorem d_M_first_38 : decode b_M_first 38 = .ok (.invokevirtual 92, 3) := by decide +kernel
theorem d_M_first_41 : decode b_M_first 41 = .ok (.ifCond .eq 7, 3) := by decide +kernel
theorem d_M_first_44 : decode b_M_first 44 = .ok (.iload_n 2, 1) := by decide +kernel
theorem d_M_first_45 : decode b_M_first 45 = .ok (.goto 4, 3) := by decide +kernel
theorem d_M_first_48 : decode b_M_first 48 = .ok (.iload_n 1, 1) := by decide +kernel
theorem d_M_first_49 : decode b_M_first 49 = .ok (.istore_n 1, 1) := by decide +kernel
theorem d_M_first_50 : decode b_M_first 50 = .ok (.iinc 2 1, 3) := by decide +kernel
theorem d_M_first_53 : decode b_M_first 53 = .ok (.goto (-49), 3) := by decide +kernel
theorem d_M_first_56 : decode b_M_first 56 = .ok (.iload_n 1, 1) := by decide +kernel
theorem d_M_first_57 : decode b_M_first 57 = .ok (.ireturn, 1) := by decide +kernel
def m_M_first_4 (N : Nat) : Nat → SX → Int32 → Int32 → Option (Int32 × SX)
  | 0, _, _, _ => none
  | n4 + 1, σ, v1, v2 =>
    (if ((σ 0).1 14) ≤ v2 then some (v1, σ) else (if inb v2 8 = true then (if ((σ 0).2 14 v2.toNatClampNeg) = 0 then (if v1 < 0 then m_M_first_4 N n4 σ v2 (v2 + 1) else (if inb v2 8 = true then (if inb v1 8 = true then (bI (m_M_comesFirst N σ ((σ 0).2 13 v2.toNatClampNeg) ((σ 0).2 13 v1.toNatClampNeg)) fun r38 σ38 => (if r38 = 0 then m_M_first_4 N n4 σ v1 (v2 + 1) else m_M_first_4 N n4 σ v2 (v2 + 1))) else none) else none)) else m_M_first_4 N n4 σ v1 (v2 + 1)) else none))

def m_M_first (N : Nat) (σ : SX) : Option (Int32 × SX) :=
  m_M_first_4 N N σ (-1) 0

set_option maxHeartbeats 4000000 in
set_option maxRecDepth 100000 in
theorem c_M_first (l : Launch) (dC : Nat → ClassId) (dI : Nat → Nat → Nat) (ad : Nat → Nat → Nat) (cs : Nat → ClassId) (sz N : Nat) (σ : SX) {r0 : Int32} {σ0 : SX} (hM : m_M_first N σ = some (r0, σ0)) : Met l y_M_first (wd y_M_first b_M_first 3 (some .int)) ({ frames := 2, cells := 0, slots := 0, locals := 48 }) (va_Pc [.ref (ad 0 0)] (preM dC dI ad cs sz σ)) (va_Qi (fun (r : Int32) (_ : Unit) => r = r0 ∧ σ = σ0) (fun _ _ => True) (fun q => sz ≤ q)) 0 0 (fun q => sz ≤ q) := by
  refine Met.ofW (cc := b_M_first) (maxL := 3) (ret := (some .int)) (by decide) rfl ?_
  intro p e s m args below meth c s₁ B hml hv
  obtain ⟨rfl, hsz, hP, hK, hD0, hN⟩ := hv
  have hx := B.exec
  have hb := B.bytes
  have hr := B.returns
  have hts := atoms_spec (ws := (wd y_M_first b_M_first 3 (some .int))) B.pre
  have htb : ∀ w ∈ tb, w.before _ s = true := fun w h => hts w (List.mem_cons_of_mem _ h)
  have hown : s.vm.findClass R_M = some m.cls := findClass_of_methodNamed B.named
  have hlocks := B.notSynchronized
  subst hsz
  have hD := hD0
  have hA : ∀ q : Nat, s.heap.size ≤ q → s.heap.size ≤ q := fun q h => h
  have hS : va_S (fun q => s.heap.size ≤ q) s.heap s.heap [] := va_S.rf
  have hP : va_P (dC, dI) classes (wM ad cs σ) s.heap := hP
  have hl := lv_entry ([.ref (ad 0 0)]) (n := 3) (Nat.le_of_ble_eq_true rfl)
  rw [lg_entry_eq]
  generalize (lg_sl ([.ref (ad 0 0)]) ++ List.replicate (3 - (lg_sl ([.ref (ad 0 0)])).length) Slot.unset).toArray = ls at hl ⊢
  have hl : lv_has ls 3 [(0, .ref (ad 0 0))] := hl
  rw [m_M_first] at hM
  refine W_loop (pc := 4) (fun n4 H locs ls st => ∃ (v1 : Int32) (v2 : Int32), st = [] ∧ m_M_first_4 N n4 σ v1 v2 = some (r0, σ0) ∧ lv_has ls 3 [(0, .ref (ad 0 0)), (1, .int v1), (2, .int v2)] ∧ va_P (dC, dI) classes (wM ad cs σ) H ∧ va_D (fun _ => True) (wM ad cs σ) ∧ va_S (fun q => s.heap.size ≤ q) s.heap H locs) ?_ ?_ ?_
  · rintro H locs ls st ⟨v1, v2, -, hM, -⟩
    rw [m_M_first_4] at hM; cases hM
  · intro n4 K4 H locs ls st hI
    obtain ⟨v1, v2, rfl, hM, hl, hP, hD, hS⟩ := hI
    rw [m_M_first_4] at hM
    refine lv_iload_n hx hb d_M_first_4 rfl (lv_at hl 2 rfl) ?_
    refine lv_aload_n hx hb d_M_first_5 rfl (lv_at hl 0 rfl) ?_
    refine va_get (D := (dC, dI)) (ci := 7) (v := .int ((σ 0).1 14)) (C := R_M) (T := F_M) (N := 33) hx hb htb in_M hown hK hP 0 (g_M) rfl 26 (by decide) (htb _ k_645) (fun _ h9 => h9) rfl d_M_first_6 ?_
    refine lv_icmp_ge (tgt := 56) hx hb d_M_first_9 (by decide) (fun h9 => ?_) (fun h9 => ?_)
    · rw [if_pos h9] at hM
      refine lv_iload_n hx hb d_M_first_56 rfl (lv_at hl 1 rfl) ?_
      have e9 := Prod.mk.inj (Option.some.inj hM)
      exact W.iret (v := v1) hx hb hr (fun t ht hW => ⟨⟨v1, (), rfl, e9, trivial⟩, hS.F ht⟩) hS.2.2 d_M_first_57
    · rw [if_neg h9] at hM
      refine lv_aload_n hx hb d_M_first_12 rfl (lv_at hl 0 rfl) ?_
      refine va_get (D := (dC, dI)) (ci := 7) (v := .ref (ad 0 14)) (C := R_M) (T := F_M) (N := 33) hx hb htb in_M hown hK hP 0 (g_M) rfl 28 (by decide) (htb _ k_647) (fun _ h9 => h9) rfl d_M_first_13 ?_
      refine lv_iload_n hx hb d_M_first_16 rfl (lv_at hl 2 rfl) ?_
      have hg17 := gd_c hM
      have hM := gd_v hM
      refine va_zald hx hb hK hP 14 1 (g_M_a14) rfl (inb_in hg17) d_M_first_17 ?_
      refine lv_if_ne (tgt := 48) hx hb d_M_first_18 (by decide) (fun h18 => ?_) (fun h18 => ?_)
      · rw [if_neg h18] at hM
        refine lv_iload_n hx hb d_M_first_48 rfl (lv_at hl 1 rfl) ?_
        refine lv_istore_n hx hb d_M_first_49 rfl hl (by decide) (lv' := [(1, .int v1), (0, .ref (ad 0 0)), (2, .int v2)]) rfl (fun ls hl => ?_)
        refine lv_iinc (k := 2) (v := (v2 + 1)) hx hb d_M_first_50 hl rfl rfl (by decide) (lv' := [(2, .int (v2 + 1)), (1, .int v1), (0, .ref (ad 0 0))]) rfl (fun ls hl => ?_)
        refine lv_goto (tgt := 4) hx hb d_M_first_53 (by decide) ?_
        exact K4 _ _ _ _ ⟨v1, (v2 + 1), rfl, hM, lv_sub hl [2, 1, 0] rfl, hP, hD, hS⟩
      · rw [if_pos h18] at hM
        refine lv_iload_n hx hb d_M_first_21 rfl (lv_at hl 1 rfl) ?_
        refine lv_if_lt (tgt := 44) hx hb d_M_first_22 (by decide) (fun h22 => ?_) (fun h22 => ?_)
        · rw [if_pos h22] at hM
          refine lv_iload_n hx hb d_M_first_44 rfl (lv_at hl 2 rfl) ?_
          refine lv_goto (tgt := 49) hx hb d_M_first_45 (by decide) ?_
          refine lv_istore_n hx hb d_M_first_49 rfl hl (by decide) (lv' := [(1, .int v2), (0, .ref (ad 0 0)), (2, .int v2)]) rfl (fun ls hl => ?_)
          refine lv_iinc (k := 2) (v := (v2 + 1)) hx hb d_M_first_50 hl rfl rfl (by decide) (lv' := [(2, .int (v2 + 1)), (1, .int v2), (0, .ref (ad 0 0))]) rfl (fun ls hl => ?_)
          refine lv_goto (tgt := 4) hx hb d_M_first_53 (by decide) ?_
          exact K4 _ _ _ _ ⟨v2, (v2 + 1), rfl, hM, lv_sub hl [2, 1, 0] rfl, hP, hD, hS⟩
        · rw [if_neg h22] at hM
          refine lv_aload_n hx hb d_M_first_25 rfl (lv_at hl 0 rfl) ?_
          refine lv_aload_n hx hb d_M_first_26 rfl (lv_at hl 0 rfl) ?_
          refine va_get (D := (dC, dI)) (ci := 7) (v := .ref (ad 0 13)) (C := R_M) (T := F_M) (N := 33) hx hb htb in_M hown hK hP 0 (g_M) rfl 27 (by decide) (htb _ k_646) (fun _ h9 => h9) rfl d_M_first_27 ?_
          refine lv_iload_n hx hb d_M_first_30 rfl (lv_at hl 2 rfl) ?_
          have hg31 := gd_c hM
          have hM := gd_v hM
          refine va_iald hx hb hK hP 13 0 (g_M_a13) rfl (inb_in hg31) d_M_first_31 ?_
          refine lv_aload_n hx hb d_M_first_32 rfl (lv_at hl 0 rfl) ?_
          refine va_get (D := (dC, dI)) (ci := 7) (v := .ref (ad 0 13)) (C := R_M) (T := F_M) (N := 33) hx hb htb in_M hown hK hP 0 (g_M) rfl 27 (by decide) (htb _ k_646) (fun _ h9 => h9) rfl d_M_first_33 ?_
          refine lv_iload_n hx hb d_M_first_36 rfl (lv_at hl 1 rfl) ?_
          have hg37 := gd_c hM
          have hM := gd_v hM
          refine va_iald hx hb hK hP 13 0 (g_M_a13) rfl (inb_in hg37) d_M_first_37 ?_
          obtain ⟨x38, y38, hq38, hM⟩ := bI_some hM
          refine va_calli (va_runV (As := [.int ((σ 0).2 13 v2.toNatClampNeg), .int ((σ 0).2 13 v1.toNatClampNeg)]) (rest := []) ⟨hx, hb, hml, hown, hts⟩ (c_M_comesFirst l dC dI ad cs _ N σ ((σ 0).2 13 v2.toNatClampNeg) ((σ 0).2 13 v1.toNatClampNeg) hq38) (cwV 2 hts (goodV k_735 k_737 ks_M_comesFirst k_8 k_738) rfl rfl rfl ⟨rfl, by decide, by decide, by decide +kernel⟩ ⟨Nat.le_of_ble_eq_true rfl, Nat.le_of_ble_eq_true rfl⟩) ⟨blindM, va_recv hK hP rfl (g_M), payM hP hK hD hN⟩ rfl rfl hl.1 rfl (lv_room (Nat.le_of_ble_eq_true rfl)) d_M_first_38 ⟨Nat.zero_le _, Nat.zero_le _⟩) hS (fun q h0 h => absurd h0 (Nat.not_lt.mpr h)) (fun q h => hA q (Nat.le_trans hS.1 h)) (fun r38 u t H locs ht hvm hpost hB hz1 hk1 hS => ?_)
          obtain ⟨e1, e2⟩ := hpost
          subst e1
          subst e2
          have hP := keepP hP hk1
          refine lv_if_eq (tgt := 48) hx hb d_M_first_41 (by decide) (fun h41 => ?_) (fun h41 => ?_)
          · rw [if_pos h41] at hM
            refine lv_iload_n hx hb d_M_first_48 rfl (lv_at hl 1 rfl) ?_
            refine lv_istore_n hx hb d_M_first_49 rfl hl (by decide) (lv' := [(1, .int v1), (0, .ref (ad 0 0)), (2, .int v2)]) rfl (fun ls hl => ?_)
            refine lv_iinc (k := 2) (v := (v2 + 1)) hx hb d_M_first_50 hl rfl rfl (by decide) (lv' := [(2, .int (v2 + 1)), (1, .int v1), (0, .ref (ad 0 0))]) rfl (fun ls hl => ?_)
            refine lv_goto (tgt := 4) hx hb d_M_first_53 (by decide) ?_
            exact K4 _ _ _ _ ⟨v1, (v2 + 1), rfl, hM, lv_sub hl [2, 1, 0] rfl, hP, hD, hS⟩
          · rw [if_neg h41] at hM
            refine lv_iload_n hx hb d_M_first_44 rfl (lv_at hl 2 rfl) ?_
            refine lv_goto (tgt := 49) hx hb d_M_first_45 (by decide) ?_
            refine lv_istore_n hx hb d_M_first_49 rfl hl (by decide) (lv' := [(1, .int v2), (0, .ref (ad 0 0)), (2, .int v2)]) rfl (fun ls hl => ?_)
            refine lv_iinc (k := 2) (v := (v2 + 1)) hx hb d_M_first_50 hl rfl rfl (by decide) (lv' := [(2, .int (v2 + 1)), (1, .int v2), (0, .ref (ad 0 0))]) rfl (fun ls hl => ?_)
            refine lv_goto (tgt := 4) hx hb d_M_first_53 (by decide) ?_
            exact K4 _ _ _ _ ⟨v2, (v2 + 1), rfl, hM, lv_sub hl [2, 1, 0] rfl, hP, hD, hS⟩
  intro K4
  refine lv_iconst (v := (-1)) hx hb d_M_first_0 (by decide) ?_
  refine lv_istore_n hx hb d_M_first_1 rfl hl (by decide) (lv' := [(1, .int (-1)), (0, .ref (ad 0 0))]) rfl (fun ls hl => ?_)
  refine lv_iconst (v := 0) hx hb d_M_first_2 (by decide) ?_
  refine lv_istore_n hx hb d_M_first_3 rfl hl (by decide) (lv' := [(2, .int 0), (1, .int (-1)), (0, .ref (ad 0 0))]) rfl (fun ls hl => ?_)
  exact K4 N _ _ _ _ ⟨(-1), 0, rfl, hM, lv_sub hl [2, 1, 0] rfl, hP, hD, hS⟩

theorem d_M_putAside_0 : decode b_M_putAside 0 = .ok (.aload_n 0, 1) := by decide +kernel
theorem d_M_putAside_1 : decode b_M_putAside 1 = .ok (.aload_n 0, 1) := by decide +kernel
theorem d_M_putAside_2 : decode b_M_putAside 2 = .ok (.getfield 96, 3) := by decide +kernel
theorem d_M_putAside_5 : decode b_M_putAside 5 = .ok (.putfield 123, 3) := by decide +kernel
theorem d_M_putAside_8 : decode b_M_putAside 8 = .ok (.aload_n 0, 1) := by decide +kernel
theorem d_M_putAside_9 : decode b_M_putAside 9 = .ok (.aload_n 0, 1) := by decide +kernel
theorem d_M_putAside_10 : decode b_M_putAside 10 = .ok (.getfield 99, 3) := by decide +kernel
theorem d_M_putAside_13 : decode b_M_putAside 13 = .ok (.putfield 126, 3) := by decide +kernel
theorem d_M_putAside_16 : decode b_M_putAside 16 = .ok (.aload_n 0, 1) := by decide +kernel
theorem d_M_putAside_17 : decode b_M_putAside 17 = .ok (.iconst 0, 1) := by decide +kernel
theorem d_M_putAside_18 : decode b_M_putAside 18 = .ok (.putfield 120, 3) := by decide +kernel
theorem d_M_putAside_21 : decode b_M_putAside 21 = .ok (.iconst 0, 1) := by decide +kernel
theorem d_M_putAside_22 : decode b_M_putAside 22 = .ok (.istore_n 1, 1) := by decide +kernel
theorem d_M_putAside_23 : decode b_M_putAside 23 = .ok (.iload_n 1, 1) := by decide +kernel
theorem d_M_putAside_24 : decode b_M_putAside 24 = .ok (.bipush 8, 2) := by decide +kernel
theorem d_M_putAside_26 : decode b_M_putAside 26 = .ok (.if_icmp .ge 33, 3) := by decide +kernel
theorem d_M_putAside_29 : decode b_M_putAside 29 = .ok (.aload_n 0, 1) := by decide +kernel
theorem d_M_putAside_30 : decode b_M_putAside 30 = .ok (.getfield 55, 3) := by decide +kernel
theorem d_M_putAside_33 : decode b_M_putAside 33 = .ok (.iload_n 1, 1) := by decide +kernel
theorem d_M_putAside_34 : decode b_M_putAside 34 = .ok (.aload_n 0, 1) := by decide +kernel
theorem d_M_putAside_35 : decode b_M_putAside 35 = .ok (.getfield 30, 3) := by decide +kernel
theorem d_M_putAside_38 : decode b_M_putAside 38 = .ok (.iload_n 1, 1) := by decide +kernel
theorem d_M_putAside_39 : decode b_M_putAside 39 = .ok (.iaload, 1) := by decide +kernel
theorem d_M_putAside_40 : decode b_M_putAside 40 = .ok (.iastore, 1) := by decide +kernel
theorem d_M_putAside_41 : decode b_M_putAside 41 = .ok (.aload_n 0, 1) := by decide +kernel
theorem d_M_putAside_42 : decode b_M_putAside 42 = .ok (.getfield 58, 3) := by decide +kernel
theorem d_M_putAside_45 : decode b_M_putAside 45 = .ok (.iload_n 1, 1) := by decide +kernel
theorem d_M_putAside_46 : decode b_M_putAside 46 = .ok (.aload_n 0, 1) := by decide +kernel
theorem d_M_putAside_47 : decode b_M_putAside 47 = .ok (.getfield 33, 3) := by decide +kernel
theorem d_M_putAside_50 : decode b_M_putAside 50 = .ok (.iload_n 1, 1) := by decide +kernel
theorem d_M_putAside_51 : decode b_M_putAside 51 = .ok (.baload, 1) := by decide +kernel
theorem d_M_putAside_52 : decode b_M_putAside 52 = .ok (.bastore, 1) := by decide +kernel
theorem d_M_putAside_53 : decode b_M_putAside 53 = .ok (.iinc 1 1, 3) := by decide +kernel
theorem d_M_putAside_56 : decode b_M_putAside 56 = .ok (.goto (-33), 3) := by decide +kernel
theorem d_M_putAside_59 : decode b_M_putAside 59 = .ok (.return_, 1) := by decide +kernel
def m_M_putAside_23 (N : Nat) : Nat → SX → Int32 → Option (SX)
  | 0, _, _ => none
  | n23 + 1, σ, v1 =>
    (if 8 ≤ v1 then some σ else (if inb v1 8 = true then (if inb v1 8 = true then (if inb v1 8 = true then (if inb v1 8 = true then m_M_putAside_23 N n23 (w3 (w3 σ 0 13 v1 ((σ 0).2 5 v1.toNatClampNeg)) 0 14 v1 (vp_nar .boolean (((w3 σ 0 13 v1 ((σ 0).2 5 v1.toNatClampNeg)) 0).2 6 v1.toNatClampNeg))) (v1 + 1) else none) else none) else none) else none))

def m_M_putAside (N : Nat) (σ : SX) : Option (SX) :=
  m_M_putAside_23 N N (w1 (w1 (w1 σ 0 14 ((σ 0).1 9)) 0 15 (((w1 σ 0 14 ((σ 0).1 9)) 0).1 10)) 0 16 0) 0

set_option maxHeartbeats 4000000 in
set_option maxRecDepth 100000 in
theorem c_M_putAside (l : Launch) (dC : Nat → ClassId) (dI : Nat → Nat → Nat) (ad : Nat → Nat → Nat) (cs : Nat → ClassId) (sz N : Nat) (σ : SX) {σ0 : SX} (hM : m_M_putAside N σ = some σ0) : Met l y_M_putAside (wd y_M_putAside b_M_putAside 2 none) ({ frames := 0, cells := 0, slots := 0, locals := 0 }) (va_Pc [.ref (ad 0 0)] (preM dC dI ad cs sz σ)) (va_Qv (fun (u : SX) => u = σ0) (atM dC dI ad cs (va_A (wM ad cs σ) sz)) (va_A (wM ad cs σ) sz)) 0 0 (va_A (wM ad cs σ) sz) := by
  refine Met.ofW (cc := b_M_putAside) (maxL := 2) (ret := none) (by decide) rfl ?_
  intro p e s m args below meth c s₁ B hml hv
  obtain ⟨rfl, hsz, hP, hK, hD0, hN⟩ := hv
  have hx := B.exec
  have hb := B.bytes
  have hr := B.returns
  have hts := atoms_spec (ws := (wd y_M_putAside b_M_putAside 2 none)) B.pre
  have htb : ∀ w ∈ tb, w.before _ s = true := fun w h => hts w (List.mem_cons_of_mem _ h)
  have hown : s.vm.findClass R_M = some m.cls := findClass_of_methodNamed B.named
  have hlocks := B.notSynchronized
  subst hsz
  have hD := hD0.self (sz := s.heap.size)
  generalize hAe : va_A (wM ad cs σ) s.heap.size = A at hD ⊢
  have hA : ∀ q : Nat, s.heap.size ≤ q → A q := fun q h => by rw [← hAe]; exact Or.inr h
  have hS : va_S A s.heap s.heap [] := va_S.rf
  have hP : va_P (dC, dI) classes (wM ad cs σ) s.heap := hP
  have hl := lv_entry ([.ref (ad 0 0)]) (n := 2) (Nat.le_of_ble_eq_true rfl)
  rw [lg_entry_eq]
  generalize (lg_sl ([.ref (ad 0 0)]) ++ List.replicate (2 - (lg_sl ([.ref (ad 0 0)])).length) Slot.unset).toArray = ls at hl ⊢
  have hl : lv_has ls 2 [(0, .ref (ad 0 0))] := hl
  rw [m_M_putAside] at hM
  refine W_loop (pc := 23) (fun n23 H locs ls st => ∃ (σ : SX) (v1 : Int32), st = [] ∧ m_M_putAside_23 N n23 σ v1 = some σ0 ∧ lv_has ls 2 [(0, .ref (ad 0 0)), (1, .int v1)] ∧ va_P (dC, dI) classes (wM ad cs σ) H ∧ va_D A (wM ad cs σ) ∧ va_S A s.heap H locs) ?_ ?_ ?_
  · rintro H locs ls st ⟨σ, v1, -, hM, -⟩
    rw [m_M_putAside_23] at hM; cases hM
  · intro n23 K23 H locs ls st hI
    obtain ⟨σ, v1, rfl, hM, hl, hP, hD, hS⟩ := hI
    rw [m_M_putAside_23] at hM
    refine lv_iload_n hx hb d_M_putAside_23 rfl (lv_at hl 1 rfl) ?_
    refine lv_bipush (v := 8) hx hb d_M_putAside_24 (by decide) ?_
    refine lv_icmp_ge (tgt := 59) hx hb d_M_putAside_26 (by decide) (fun h26 => ?_) (fun h26 => ?_)
    · rw [if_pos h26] at hM
      have e9 := Option.some.inj hM
      exact W.vret hx hb hr (fun t ht hW => ⟨⟨σ, rfl, e9, by rw [ht]; exact hP, va_K.moved hW.alike hK, hD⟩, hS.F ht⟩) hS.2.2 d_M_putAside_59
    · rw [if_neg h26] at hM
      refine lv_aload_n hx hb d_M_putAside_29 rfl (lv_at hl 0 rfl) ?_
      refine va_get (D := (dC, dI)) (ci := 7) (v := .ref (ad 0 13)) (C := R_M) (T := F_M) (N := 33) hx hb htb in_M hown hK hP 0 (g_M) rfl 27 (by decide) (htb _ k_646) (fun _ h9 => h9) rfl d_M_putAside_30 ?_
      refine lv_iload_n hx hb d_M_putAside_33 rfl (lv_at hl 1 rfl) ?_
      refine lv_aload_n hx hb d_M_putAside_34 rfl (lv_at hl 0 rfl) ?_
      refine va_get (D := (dC, dI)) (ci := 7) (v := .ref (ad 0 5)) (C := R_M) (T := F_M) (N := 33) hx hb htb in_M hown hK hP 0 (g_M) rfl 14 (by decide) (htb _ k_633) (fun _ h9 => h9) rfl d_M_putAside_35 ?_
      refine lv_iload_n hx hb d_M_putAside_38 rfl (lv_at hl 1 rfl) ?_
      have hg39 := gd_c hM
      have hM := gd_v hM
      refine va_iald hx hb hK hP 5 0 (g_M_a5) rfl (inb_in hg39) d_M_putAside_39 ?_
      have hg40 := gd_c hM
      have hM := gd_v hM
      refine va_iast (i := v1) (x := ((σ 0).2 5 v1.toNatClampNeg)) hx hb hK hP hD hS 13 0 (g_M_a13) rfl (inb_in hg40) d_M_putAside_40 (fun H locs hP hD hS => ?_)
      have hP := P_eq (t_M_13) hP
      have hD := D_eq (t_M_13) hD
      refine lv_aload_n hx hb d_M_putAside_41 rfl (lv_at hl 0 rfl) ?_
      refine va_get (D := (dC, dI)) (ci := 7) (v := .ref (ad 0 14)) (C := R_M) (T := F_M) (N := 33) hx hb htb in_M hown hK hP 0 (g_M) rfl 28 (by decide) (htb _ k_647) (fun _ h9 => h9) rfl d_M_putAside_42 ?_
      refine lv_iload_n hx hb d_M_putAside_45 rfl (lv_at hl 1 rfl) ?_
      refine lv_aload_n hx hb d_M_putAside_46 rfl (lv_at hl 0 rfl) ?_
      refine va_get (D := (dC, dI)) (ci := 7) (v := .ref (ad 0 6)) (C := R_M) (T := F_M) (N := 33) hx hb htb in_M hown hK hP 0 (g_M) rfl 15 (by decide) (htb _ k_634) (fun _ h9 => h9) rfl d_M_putAside_47 ?_
      refine lv_iload_n hx hb d_M_putAside_50 rfl (lv_at hl 1 rfl) ?_
      have hg51 := gd_c hM
      have hM := gd_v hM
      refine va_zald hx hb hK hP 6 1 (g_M_a6) rfl (inb_in hg51) d_M_putAside_51 ?_
      have hg52 := gd_c hM
      have hM := gd_v hM
      refine va_zast (i := v1) (x := (((w3 σ 0 13 v1 ((σ 0).2 5 v1.toNatClampNeg)) 0).2 6 v1.toNatClampNeg)) hx hb hK hP hD hS 14 1 (g_M_a14) rfl (inb_in hg52) d_M_putAside_52 (fun H locs hP hD hS => ?_)
      have hP := P_eq (t_M_14) hP
      have hD := D_eq (t_M_14) hD
      refine lv_iinc (k := 1) (v := (v1 + 1)) hx hb d_M_putAside_53 hl rfl rfl (by decide) (lv' := [(1, .int (v1 + 1)), (0, .ref (ad 0 0))]) rfl (fun ls hl => ?_)
      refine lv_goto (tgt := 23) hx hb d_M_putAside_56 (by decide) ?_
      exact K23 _ _ _ _ ⟨(w3 (w3 σ 0 13 v1 ((σ 0).2 5 v1.toNatClampNeg)) 0 14 v1 (vp_nar .boolean (((w3 σ 0 13 v1 ((σ 0).2 5 v1.toNatClampNeg)) 0).2 6 v1.toNatClampNeg))), (v1 + 1), rfl, hM, lv_sub hl [1, 0] rfl, hP, hD, hS⟩
  intro K23
  refine lv_aload_n hx hb d_M_putAside_0 rfl (lv_at hl 0 rfl) ?_
  refine lv_aload_n hx hb d_M_putAside_1 rfl (lv_at hl 0 rfl) ?_
  refine va_get (D := (dC, dI)) (ci := 7) (v := .int ((σ 0).1 9)) (C := R_M) (T := F_M) (N := 33) hx hb htb in_M hown hK hP 0 (g_M) rfl 13 (by decide) (htb _ k_632) (fun _ h9 => h9) rfl d_M_putAside_2 ?_
  refine va_put (D := (dC, dI)) (ci := 7) (v := .int ((σ 0).1 9)) (ty := .int) (C := R_M) (T := F_M) (N := 33) hx hb htb in_M ft_M ft_M_ok n_M hown hK hP hD hS 0 (g_M) rfl 26 (by decide) (htb _ k_645) (fun _ h9 => h9) rfl (by decide +kernel) rfl rfl (Nat.le_of_ble_eq_true rfl) d_M_putAside_5 (fun H locs hP hD hS => ?_)
  have hP := P_eq (s_M_14) hP
  have hD := D_eq (s_M_14) hD
  refine lv_aload_n hx hb d_M_putAside_8 rfl (lv_at hl 0 rfl) ?_
  refine lv_aload_n hx hb d_M_putAside_9 rfl (lv_at hl 0 rfl) ?_
  refine va_get (D := (dC, dI)) (ci := 7) (v := .int (((w1 σ 0 14 ((σ 0).1 9)) 0).1 10)) (C := R_M) (T := F_M) (N := 33) hx hb htb in_M hown hK hP 0 (g_M) rfl 16 (by decide) (htb _ k_635) (fun _ h9 => h9) rfl d_M_putAside_10 ?_
  refine va_put (D := (dC, dI)) (ci := 7) (v := .int (((w1 σ 0 14 ((σ 0).1 9)) 0).1 10)) (ty := .int) (C := R_M) (T := F_M) (N := 33) hx hb htb in_M ft_M ft_M_ok n_M hown hK hP hD hS 0 (g_M) rfl 29 (by decide) (htb _ k_648) (fun _ h9 => h9) rfl (by decide +kernel) rfl rfl (Nat.le_of_ble_eq_true rfl) d_M_putAside_13 (fun H locs hP hD hS => ?_)
  have hP := P_eq (s_M_15) hP
  have hD := D_eq (s_M_15) hD
  refine lv_aload_n hx hb d_M_putAside_16 rfl (lv_at hl 0 rfl) ?_
  refine lv_iconst (v := 0) hx hb d_M_putAside_17 (by decide) ?_
  refine va_put (D := (dC, dI)) (ci := 7) (v := .int 0) (ty := .int) (C := R_M) (T := F_M) (N := 33) hx hb htb in_M ft_M ft_M_ok n_M hown hK hP hD hS 0 (g_M) rfl 30 (by decide) (htb _ k_649) (fun _ h9 => h9) rfl (by decide +kernel) rfl rfl (Nat.le_of_ble_eq_true rfl) d_M_putAside_18 (fun H locs hP hD hS => ?_)
  have hP := P_eq (s_M_16) hP
  have hD := D_eq (s_M_16) hD
  refine lv_iconst (v := 0) hx hb d_M_putAside_21 (by decide) ?_
  refine lv_istore_n hx hb d_M_putAside_22 rfl hl (by decide) (lv' := [(1, .int 0), (0, .ref (ad 0 0))]) rfl (fun ls hl => ?_)
  exact K23 N _ _ _ _ ⟨(w1 (w1 (w1 σ 0 14 ((σ 0).1 9)) 0 15 (((w1 σ 0 14 ((σ 0).1 9)) 0).1 10)) 0 16 0), 0, rfl, hM, lv_sub hl [1, 0] rfl, hP, hD, hS⟩

theorem d_M_takeBack_0 : decode b_M_takeBack 0 = .ok (.aload_n 0, 1) := by decide +kernel
theorem d_M_takeBack_1 : decode b_M_takeBack 1 = .ok (.aload_n 0, 1) := by decide +kernel
theorem d_M_takeBack_2 : decode b_M_takeBack 2 = .ok (.getfield 123, 3) := by decide +kernel
theorem d_M_takeBack_5 : decode b_M_takeBack 5 = .ok (.putfield 96, 3) := by decide +kernel
theorem d_M_takeBack_8 : decode b_M_takeBack 8 = .ok (.aload_n 0, 1) := by decide +kernel
theorem d_M_takeBack_9 : decode b_M_takeBack 9 = .ok (.aload_n 0, 1) := by decide +kernel
theorem d_M_takeBack_10 : decode b_M_takeBack 10 = .ok (.getfield 126, 3) := by decide +kernel
theorem d_M_takeBack_13 : decode b_M_takeBack 13 = .ok (.putfield 99, 3) := by decide +kernel
theorem d_M_takeBack_16 : decode b_M_takeBack 16 = .ok (.iconst 0, 1) := by decide +kernel
theorem d_M_takeBack_17 : decode b_M_takeBack 17 = .ok (.istore_n 1, 1) := by decide +kernel
theorem d_M_takeBack_18 : decode b_M_takeBack 18 = .ok (.iload_n 1, 1) := by decide +kernel
theorem d_M_takeBack_19 : decode b_M_takeBack 19 = .ok (.bipush 8, 2) := by decide +kernel
theorem d_M_takeBack_21 : decode b_M_takeBack 21 = .ok (.if_icmp .ge 28, 3) := by decide +kernel
theorem d_M_takeBack_24 : decode b_M_takeBack 24 = .ok (.aload_n 0, 1) := by decide +kernel
theorem d_M_takeBack_25 : decode b_M_takeBack 25 = .ok (.getfield 30, 3) := by decide +kernel
theorem d_M_takeBack_28 : decode b_M_takeBack 28 = .ok (.iload_n 1, 1) := by decide +kernel
theorem d_M_takeBack_29 : decode b_M_takeBack 29 = .ok (.aload_n 0, 1) := by decide +kernel
theorem d_M_takeBack_30 : decode b_M_takeBack 30 = .ok (.getfield 55, 3) := by decide +kernel
theorem d_M_takeBack_33 : decode b_M_takeBack 33 = .ok (.iload_n 1, 1) := by decide +kernel
theorem d_M_takeBack_34 : decode b_M_takeBack 34 = .ok (.iaload, 1) := by decide +kernel
theorem d_M_takeBack_35 : decode b_M_takeBack 35 = .ok (.iastore, 1) := by decide +kernel
theorem d_M_takeBack_36 : decode b_M_takeBack 36 = .ok (.aload_n 0, 1) := by decide +kernel
theorem d_M_takeBack_37 : decode b_M_takeBack 37 = .ok (.getfield 33, 3) := by decide +kernel
theorem d_M_takeBack_40 : decode b_M_takeBack 40 = .ok (.iload_n 1, 1) := by decide +kernel
theorem d_M_takeBack_41 : decode b_M_takeBack 41 = .ok (.iconst 0, 1) := by decide +kernel
theorem d_M_takeBack_42 : decode b_M_takeBack 42 = .ok (.bastore, 1) := by decide +kernel
theorem d_M_takeBack_43 : decode b_M_takeBack 43 = .ok (.iinc 1 1, 3) := by decide +kernel
theorem d_M_takeBack_46 : decode b_M_takeBack 46 = .ok (.goto (-28), 3) := by decide +kernel
theorem d_M_takeBack_49 : decode b_M_takeBack 49 = .ok (.return_, 1) := by decide +kernel
def m_M_takeBack_18 (N : Nat) : Nat → SX → Int32 → Option (SX)
  | 0, _, _ => none
  | n18 + 1, σ, v1 =>
    (if 8 ≤ v1 then some σ else (if inb v1 8 = true then (if inb v1 8 = true then (if inb v1 8 = true then m_M_takeBack_18 N n18 (w3 (w3 σ 0 5 v1 ((σ 0).2 13 v1.toNatClampNeg)) 0 6 v1 (vp_nar .boolean 0)) (v1 + 1) else none) else none) else none))

def m_M_takeBack (N : Nat) (σ : SX) : Option (SX) :=
  m_M_takeBack_18 N N (w1 (w1 σ 0 9 ((σ 0).1 14)) 0 10 (((w1 σ 0 9 ((σ 0).1 14)) 0).1 15)) 0

set_option maxHeartbeats 4000000 in
set_option maxRecDepth 100000 in
theorem c_M_takeBack (l : Launch) (dC : Nat → ClassId) (dI : Nat → Nat → Nat) (ad : Nat → Nat → Nat) (cs : Nat → ClassId) (sz N : Nat) (σ : SX) {σ0 : SX} (hM : m_M_takeBack N σ = some σ0) : Met l y_M_takeBack (wd y_M_takeBack b_M_takeBack 2 none) ({ frames := 0, cells := 0, slots := 0, locals := 0 }) (va_Pc [.ref (ad 0 0)] (preM dC dI ad cs sz σ)) (va_Qv (fun (u : SX) => u = σ0) (atM dC dI ad cs (va_A (wM ad cs σ) sz)) (va_A (wM ad cs σ) sz)) 0 0 (va_A (wM ad cs σ) sz) := by
  refine Met.ofW (cc := b_M_takeBack) (maxL := 2) (ret := none) (by decide) rfl ?_
  intro p e s m args below meth c s₁ B hml hv
  obtain ⟨rfl, hsz, hP, hK, hD0, hN⟩ := hv
  have hx := B.exec
  have hb := B.bytes
  have hr := B.returns
  have hts := atoms_spec (ws := (wd y_M_takeBack b_M_takeBack 2 none)) B.pre
  have htb : ∀ w ∈ tb, w.before _ s = true := fun w h => hts w (List.mem_cons_of_mem _ h)
  have hown : s.vm.findClass R_M = some m.cls := findClass_of_methodNamed B.named
  have hlocks := B.notSynchronized
  subst hsz
  have hD := hD0.self (sz := s.heap.size)
  generalize hAe : va_A (wM ad cs σ) s.heap.size = A at hD ⊢
  have hA : ∀ q : Nat, s.heap.size ≤ q → A q := fun q h => by rw [← hAe]; exact Or.inr h
  have hS : va_S A s.heap s.heap [] := va_S.rf
  have hP : va_P (dC, dI) classes (wM ad cs σ) s.heap := hP
  have hl := lv_entry ([.ref (ad 0 0)]) (n := 2) (Nat.le_of_ble_eq_true rfl)
  rw [lg_entry_eq]
  generalize (lg_sl ([.ref (ad 0 0)]) ++ List.replicate (2 - (lg_sl ([.ref (ad 0 0)])).length) Slot.unset).toArray = ls at hl ⊢
  have hl : lv_has ls 2 [(0, .ref (ad 0 0))] := hl
  rw [m_M_takeBack] at hM
  refine W_loop (pc := 18) (fun n18 H locs ls st => ∃ (σ : SX) (v1 : Int32), st = [] ∧ m_M_takeBack_18 N n18 σ v1 = some σ0 ∧ lv_has ls 2 [(0, .ref (ad 0 0)), (1, .int v1)] ∧ va_P (dC, dI) classes (wM ad cs σ) H ∧ va_D A (wM ad cs σ) ∧ va_S A s.heap H locs) ?_ ?_ ?_
  · rintro H locs ls st ⟨σ, v1, -, hM, -⟩
    rw [m_M_takeBack_18] at hM; cases hM
  · intro n18 K18 H locs ls st hI
    obtain ⟨σ, v1, rfl, hM, hl, hP, hD, hS⟩ := hI
    rw [m_M_takeBack_18] at hM
    refine lv_iload_n hx hb d_M_takeBack_18 rfl (lv_at hl 1 rfl) ?_
    refine lv_bipush (v := 8) hx hb d_M_takeBack_19 (by decide) ?_
    refine lv_icmp_ge (tgt := 49) hx hb d_M_takeBack_21 (by decide) (fun h21 => ?_) (fun h21 => ?_)
    · rw [if_pos h21] at hM
      have e9 := Option.some.inj hM
      exact W.vret hx hb hr (fun t ht hW => ⟨⟨σ, rfl, e9, by rw [ht]; exact hP, va_K.moved hW.alike hK, hD⟩, hS.F ht⟩) hS.2.2 d_M_takeBack_49
    · rw [if_neg h21] at hM
      refine lv_aload_n hx hb d_M_takeBack_24 rfl (lv_at hl 0 rfl) ?_
      refine va_get (D := (dC, dI)) (ci := 7) (v := .ref (ad 0 5)) (C := R_M) (T := F_M) (N := 33) hx hb htb in_M hown hK hP 0 (g_M) rfl 14 (by decide) (htb _ k_633) (fun _ h9 => h9) rfl d_M_takeBack_25 ?_
      refine lv_iload_n hx hb d_M_takeBack_28 rfl (lv_at hl 1 rfl) ?_
      refine lv_aload_n hx hb d_M_takeBack_29 rfl (lv_at hl 0 rfl) ?_
      refine va_get (D := (dC, dI)) (ci := 7) (v := .ref (ad 0 13)) (C := R_M) (T := F_M) (N := 33) hx hb htb in_M hown hK hP 0 (g_M) rfl 27 (by decide) (htb _ k_646) (fun _ h9 => h9) rfl d_M_takeBack_30 ?_
      refine lv_iload_n hx hb d_M_takeBack_33 rfl (lv_at hl 1 rfl) ?_
      have hg34 := gd_c hM
      have hM := gd_v hM
      refine va_iald hx hb hK hP 13 0 (g_M_a13) rfl (inb_in hg34) d_M_takeBack_34 ?_
      have hg35 := gd_c hM
      have hM := gd_v hM
      refine va_iast (i := v1) (x := ((σ 0).2 13 v1.toNatClampNeg)) hx hb hK hP hD hS 5 0 (g_M_a5) rfl (inb_in hg35) d_M_takeBack_35 (fun H locs hP hD hS => ?_)
      have hP := P_eq (t_M_5) hP
      have hD := D_eq (t_M_5) hD
      refine lv_aload_n hx hb d_M_takeBack_36 rfl (lv_at hl 0 rfl) ?_
      refine va_get (D := (dC, dI)) (ci := 7) (v := .ref (ad 0 6)) (C := R_M) (T := F_M) (N := 33) hx hb htb in_M hown hK hP 0 (g_M) rfl 15 (by decide) (htb _ k_634) (fun _ h9 => h9) rfl d_M_takeBack_37 ?_
      refine lv_iload_n hx hb d_M_takeBack_40 rfl (lv_at hl 1 rfl) ?_
      refine lv_iconst (v := 0) hx hb d_M_takeBack_41 (by decide) ?_
      have hg42 := gd_c hM
      have hM := gd_v hM
      refine va_zast (i := v1) (x := 0) hx hb hK hP hD hS 6 1 (g_M_a6) rfl (inb_in hg42) d_M_takeBack_42 (fun H locs hP hD hS => ?_)
      have hP := P_eq (t_M_6) hP
      have hD := D_eq (t_M_6) hD
      refine lv_iinc (k := 1) (v := (v1 + 1)) hx hb d_M_takeBack_43 hl rfl rfl (by decide) (lv' := [(1, .int (v1 + 1)), (0, .ref (ad 0 0))]) rfl (fun ls hl => ?_)
      refine lv_goto (tgt := 18) hx hb d_M_takeBack_46 (by decide) ?_
      exact K18 _ _ _ _ ⟨(w3 (w3 σ 0 5 v1 ((σ 0).2 13 v1.toNatClampNeg)) 0 6 v1 (vp_nar .boolean 0)), (v1 + 1), rfl, hM, lv_sub hl [1, 0] rfl, hP, hD, hS⟩
  intro K18
  refine lv_aload_n hx hb d_M_takeBack_0 rfl (lv_at hl 0 rfl) ?_
  refine lv_aload_n hx hb d_M_takeBack_1 rfl (lv_at hl 0 rfl) ?_
  refine va_get (D := (dC, dI)) (ci := 7) (v := .int ((σ 0).1 14)) (C := R_M) (T := F_M) (N := 33) hx hb htb in_M hown hK hP 0 (g_M) rfl 26 (by decide) (htb _ k_645) (fun _ h9 => h9) rfl d_M_takeBack_2 ?_
  refine va_put (D := (dC, dI)) (ci := 7) (v := .int ((σ 0).1 14)) (ty := .int) (C := R_M) (T := F_M) (N := 33) hx hb htb in_M ft_M ft_M_ok n_M hown hK hP hD hS 0 (g_M) rfl 13 (by decide) (htb _ k_632) (fun _ h9 => h9) rfl (by decide +kernel) rfl rfl (Nat.le_of_ble_eq_true rfl) d_M_takeBack_5 (fun H locs hP hD hS => ?_)
  have hP := P_eq (s_M_9) hP
  have hD := D_eq (s_M_9) hD
  refine lv_aload_n hx hb d_M_takeBack_8 rfl (lv_at hl 0 rfl) ?_
  refine lv_aload_n hx hb d_M_takeBack_9 rfl (lv_at hl 0 rfl) ?_
  refine va_get (D := (dC, dI)) (ci := 7) (v := .int (((w1 σ 0 9 ((σ 0).1 14)) 0).1 15)) (C := R_M) (T := F_M) (N := 33) hx hb htb in_M hown hK hP 0 (g_M) rfl 29 (by decide) (htb _ k_648) (fun _ h9 => h9) rfl d_M_takeBack_10 ?_
  refine va_put (D := (dC, dI)) (ci := 7) (v := .int (((w1 σ 0 9 ((σ 0).1 14)) 0).1 15)) (ty := .int) (C := R_M) (T := F_M) (N := 33) hx hb htb in_M ft_M ft_M_ok n_M hown hK hP hD hS 0 (g_M) rfl 16 (by decide) (htb _ k_635) (fun _ h9 => h9) rfl (by decide +kernel) rfl rfl (Nat.le_of_ble_eq_true rfl) d_M_takeBack_13 (fun H locs hP hD hS => ?_)
  have hP := P_eq (s_M_10) hP
  have hD := D_eq (s_M_10) hD
  refine lv_iconst (v := 0) hx hb d_M_takeBack_16 (by decide) ?_
  refine lv_istore_n hx hb d_M_takeBack_17 rfl hl (by decide) (lv' := [(1, .int 0), (0, .ref (ad 0 0))]) rfl (fun ls hl => ?_)
  exact K18 N _ _ _ _ ⟨(w1 (w1 σ 0 9 ((σ 0).1 14)) 0 10 (((w1 σ 0 9 ((σ 0).1 14)) 0).1 15)), 0, rfl, hM, lv_sub hl [1, 0] rfl, hP, hD, hS⟩

theorem d_M_makeRun_0 : decode b_M_makeRun 0 = .ok (.aload_n 0, 1) := by decide +kernel
theorem d_M_makeRun_1 : decode b_M_makeRun 1 = .ok (.invokevirtual 129, 3) := by decide +kernel
theorem d_M_makeRun_4 : decode b_M_makeRun 4 = .ok (.istore_n 1, 1) := by decide +kernel
theorem d_M_makeRun_5 : decode b_M_makeRun 5 = .ok (.iload_n 1, 1) := by decide +kernel
theorem d_M_makeRun_6 : decode b_M_makeRun 6 = .ok (.ifCond .lt 117, 3) := by decide +kernel
theorem d_M_makeRun_9 : decode b_M_makeRun 9 = .ok (.aload_n 0, 1) := by decide +kernel
theorem d_M_makeRun_10 : decode b_M_makeRun 10 = .ok (.getfield 55, 3) := by decide +kernel
theorem d_M_makeRun_13 : decode b_M_makeRun 13 = .ok (.iload_n 1, 1) := by decide +kernel
theorem d_M_makeRun_14 : decode b_M_makeRun 14 = .ok (.iaload, 1) := by decide +kernel
theorem d_M_makeRun_15 : decode b_M_makeRun 15 = .ok (.istore_n 2, 1) := by decide +kernel
theorem d_M_makeRun_16 : decode b_M_makeRun 16 = .ok (.aload_n 0, 1) := by decide +kernel
theorem d_M_makeRun_17 : decode b_M_makeRun 17 = .ok (.iload_n 2, 1) := by decide +kernel
theorem d_M_makeRun_18 : decode b_M_makeRun 18 = .ok (.invokevirtual 133, 3) := by decide +kernel
theorem d_M_makeRun_21 : decode b_M_makeRun 21 = .ok (.ifCond .ne 5, 3) := by decide +kernel
theorem d_M_makeRun_24 : decode b_M_makeRun 24 = .ok (.iconst 0, 1) := by decide +kernel
theorem d_M_makeRun_25 : decode b_M_makeRun 25 = .ok (.ireturn, 1) := by decide +kernel
theorem d_M_makeRun_26 : decode b_M_makeRun 26 = .ok (.aload_n 0, 1) := by decide +kernel
theorem d_M_makeRun_27 : decode b_M_makeRun 27 = .ok (.getfield 126, 3) := by decide +kernel
theorem d_M_makeRun_30 : decode b_M_makeRun 30 = .ok (.aload_n 0, 1) := by decide +kernel
theorem d_M_makeRun_31 : decode b_M_makeRun 31 = .ok (.getfield 76, 3) := by decide +kernel
theorem d_M_makeRun_34 : decode b_M_makeRun 34 = .ok (.if_icmp .ge 41, 3) := by decide +kernel
theorem d_M_makeRun_37 : decode b_M_makeRun 37 = .ok (.aload_n 0, 1) := by decide +kernel
theorem d_M_makeRun_38 : decode b_M_makeRun 38 = .ok (.getfield 55, 3) := by decide +kernel
theorem d_M_makeRun_41 : decode b_M_makeRun 41 = .ok (.iload_n 1, 1) := by decide +kernel
theorem d_M_makeRun_42 : decode b_M_makeRun 42 = .ok (.aload_n 0, 1) := by decide +kernel
theorem d_M_makeRun_43 : decode b_M_makeRun 43 = .ok (.getfield 126, 3) := by decide +kernel
theorem d_M_makeRun_46 : decode b_M_makeRun 46 = .ok (.iastore, 1) := by decide +kernel
theorem d_M_makeRun_47 : decode b_M_makeRun 47 = .ok (.aload_n 0, 1) := by decide +kernel
theorem d_M_makeRun_48 : decode b_M_makeRun 48 = .ok (.getfield 58, 3) := by decide +kernel
theorem d_M_makeRun_51 : decode b_M_makeRun 51 = .ok (.iload_n 1, 1) := by decide +kernel
theorem d_M_makeRun_52 : decode b_M_makeRun 52 = .ok (.aload_n 0, 1) := by decide +kernel
theorem d_M_makeRun_53 : decode b_M_makeRun 53 = .ok (.aload_n 0, 1) := by decide +kernel
theorem d_M_makeRun_54 : decode b_M_makeRun 54 = .ok (.getfield 126, 3) := by decide +kernel
theorem d_M_makeRun_57 : decode b_M_makeRun 57 = .ok (.iload_n 2, 1) := by decide +kernel
theorem d_M_makeRun_58 : decode b_M_makeRun 58 = .ok (.invokevirtual 92, 3) := by decide +kernel
theorem d_M_makeRun_61 : decode b_M_makeRun 61 = .ok (.bastore, 1) := by decide +kernel
theorem d_M_makeRun_62 : decode b_M_makeRun 62 = .ok (.aload_n 0, 1) := by decide +kernel
theorem d_M_makeRun_63 : decode b_M_makeRun 63 = .ok (.aload_n 0, 1) := by decide +kernel
theorem d_M_makeRun_64 : decode b_M_makeRun 64 = .ok (.getfield 126, 3) := by decide +kernel
theorem d_M_makeRun_67 : decode b_M_makeRun 67 = .ok (.iconst 1, 1) := by decide +kernel
theorem d_M_makeRun_68 : decode b_M_makeRun 68 = .ok (.iadd, 1) := by decide +kernel
theorem d_M_makeRun_69 : decode b_M_makeRun 69 = .ok (.putfield 126, 3) := by decide +kernel
theorem d_M_makeRun_72 : decode b_M_makeRun 72 = .ok (.goto 43, 3) := by decide +kernel
theorem d_M_makeRun_75 : decode b_M_makeRun 75 = .ok (.aload_n 0, 1) := by decide +kernel
theorem d_M_makeRun_76 : decode b_M_makeRun 76 = .ok (.aload_n 0, 1) := by decide +kernel
theorem d_M_makeRun_77 : decode b_M_makeRun 77 = .ok (.getfield 123, 3) := by decide +kernel
theorem d_M_makeRun_80 : decode b_M_makeRun 80 = .ok (.iconst 1, 1) := by decide +kernel
theorem d_M_makeRun_81 : decode b_M_makeRun 81 = .ok (.isub, 1) := by decide +kernel
theorem d_M_makeRun_82 : decode b_M_makeRun 82 = .ok (.putfield 123, 3) := by decide +kernel
theorem d_M_makeRun_85 : decode b_M_makeRun 85 = .ok (.aload_n 0, 1) := by decide +kernel
theorem d_M_makeRun_86 : decode b_M_makeRun 86 = .ok (.getfield 55, 3) := by decide +kernel
theorem d_M_makeRun_89 : decode b_M_makeRun 89 = .ok (.iload_n 1, 1) := by decide +kernel
theorem d_M_makeRun_90 : decode b_M_makeRun 90 = .ok (.aload_n 0, 1) := by decide +kernel
theorem d_M_makeRun_91 : decode b_M_makeRun 91 = .ok (.getfield 55, 3) := by decide +kernel
theorem d_M_makeRun_94 : decode b_M_makeRun 94 = .ok (.aload_n 0, 1) := by decide +kernel
theorem d_M_makeRun_95 : decode b_M_makeRun 95 = .ok (.getfield 123, 3) := by decide +kernel
theorem d_M_makeRun_98 : decode b_M_makeRun 98 = .ok (.iaload, 1) := by decide +kernel
theorem d_M_makeRun_99 : decode b_M_makeRun 99 = .ok (.iastore, 1) := by decide +kernel
theorem d_M_makeRun_100 : decode b_M_makeRun 100 = .ok (.aload_n 0, 1) := by decide +kernel
theorem d_M_makeRun_101 : decode b_M_makeRun 101 = .ok (.getfield 58, 3) := by decide +kernel
theorem d_M_makeRun_104 : decode b_M_makeRun 104 = .ok (.iload_n 1, 1) := by decide +kernel
theorem d_M_makeRun_105 : decode b_M_makeRun 105 = .ok (.aload_n 0, 1) := by decide +kernel
theorem d_M_makeRun_106 : decode b_M_makeRun 106 = .ok (.getfield 58, 3) := by decide +kernel
theorem d_M_makeRun_109 : decode b_M_makeRun 109 = .ok (.aload_n 0, 1) := by decide +kernel
theorem d_M_makeRun_110 : decode b_M_makeRun 110 = .ok (.getfield 123, 3) := by decide +kernel
theorem d_M_makeRun_113 : decode b_M_makeRun 113 = .ok (.baload, 1) := by decide +kernel
theorem d_M_makeRun_114 : decode b_M_makeRun 114 = .ok (.bastore, 1) := by decide +kernel
theorem d_M_makeRun_115 : decode b_M_makeRun 115 = .ok (.aload_n 0, 1) := by decide +kernel
theorem d_M_makeRun_116 : decode b_M_makeRun 116 = .ok (.invokevirtual 129, 3) := by decide +kernel
theorem d_M_makeRun_119 : decode b_M_makeRun 119 = .ok (.istore_n 1, 1) := by decide +kernel
theorem d_M_makeRun_120 : decode b_M_makeRun 120 = .ok (.goto (-115), 3) := by decide +kernel
theorem d_M_makeRun_123 : decode b_M_makeRun 123 = .ok (.iconst 1, 1) := by decide +kernel
theorem d_M_makeRun_124 : decode b_M_makeRun 124 = .ok (.ireturn, 1) := by decide +kernel
def m_M_makeRun_5 (N : Nat) : Nat → SX → Int32 → Option (Int32 × SX)
  | 0, _, _ => none
  | n5 + 1, σ, v1 =>
    (if v1 < 0 then some (1, σ) else (if inb v1 8 = true then (bI (m_M_write N σ ((σ 0).2 13 v1.toNatClampNeg)) fun r18 σ18 => (if r18 = 0 then some (0, σ18) else (if ((σ18 0).1 2) ≤ ((σ18 0).1 15) then (if inb (((w1 σ18 0 14 (((σ18 0).1 14) - 1)) 0).1 14) 8 = true then (if inb v1 8 = true then (if inb (((w3 (w1 σ18 0 14 (((σ18 0).1 14) - 1)) 0 13 v1 (((w1 σ18 0 14 (((σ18 0).1 14) - 1)) 0).2 13 (((w1 σ18 0 14 (((σ18 0).1 14) - 1)) 0).1 14).toNatClampNeg)) 0).1 14) 8 = true then (if inb v1 8 = true then (bI (m_M_first N (w3 (w3 (w1 σ18 0 14 (((σ18 0).1 14) - 1)) 0 13 v1 (((w1 σ18 0 14 (((σ18 0).1 14) - 1)) 0).2 13 (((w1 σ18 0 14 (((σ18 0).1 14) - 1)) 0).1 14).toNatClampNeg)) 0 14 v1 (vp_nar .boolean (((w3 (w1 σ18 0 14 (((σ18 0).1 14) - 1)) 0 13 v1 (((w1 σ18 0 14 (((σ18 0).1 14) - 1)) 0).2 13 (((w1 σ18 0 14 (((σ18 0).1 14) - 1)) 0).1 14).toNatClampNeg)) 0).2 14 (((w3 (w1 σ18 0 14 (((σ18 0).1 14) - 1)) 0 13 v1 (((w1 σ18 0 14 (((σ18 0).1 14) - 1)) 0).2 13 (((w1 σ18 0 14 (((σ18 0).1 14) - 1)) 0).1 14).toNatClampNeg)) 0).1 14).toNatClampNeg)))) fun r116 σ116 => m_M_makeRun_5 N n5 (w3 (w3 (w1 σ18 0 14 (((σ18 0).1 14) - 1)) 0 13 v1 (((w1 σ18 0 14 (((σ18 0).1 14) - 1)) 0).2 13 (((w1 σ18 0 14 (((σ18 0).1 14) - 1)) 0).1 14).toNatClampNeg)) 0 14 v1 (vp_nar .boolean (((w3 (w1 σ18 0 14 (((σ18 0).1 14) - 1)) 0 13 v1 (((w1 σ18 0 14 (((σ18 0).1 14) - 1)) 0).2 13 (((w1 σ18 0 14 (((σ18 0).1 14) - 1)) 0).1 14).toNatClampNeg)) 0).2 14 (((w3 (w1 σ18 0 14 (((σ18 0).1 14) - 1)) 0 13 v1 (((w1 σ18 0 14 (((σ18 0).1 14) - 1)) 0).2 13 (((w1 σ18 0 14 (((σ18 0).1 14) - 1)) 0).1 14).toNatClampNeg)) 0).1 14).toNatClampNeg))) r116) else none) else none) else none) else none) else (if inb v1 8 = true then (bI (m_M_comesFirst N (w3 σ18 0 13 v1 ((σ18 0).1 15)) (((w3 σ18 0 13 v1 ((σ18 0).1 15)) 0).1 15) ((σ 0).2 13 v1.toNatClampNeg)) fun r58 σ58 => (if inb v1 8 = true then (bI (m_M_first N (w1 (w3 (w3 σ18 0 13 v1 ((σ18 0).1 15)) 0 14 v1 (vp_nar .boolean r58)) 0 15 ((((w3 (w3 σ18 0 13 v1 ((σ18 0).1 15)) 0 14 v1 (vp_nar .boolean r58)) 0).1 15) + 1))) fun r116 σ116 => m_M_makeRun_5 N n5 (w1 (w3 (w3 σ18 0 13 v1 ((σ18 0).1 15)) 0 14 v1 (vp_nar .boolean r58)) 0 15 ((((w3 (w3 σ18 0 13 v1 ((σ18 0).1 15)) 0 14 v1 (vp_nar .boolean r58)) 0).1 15) + 1)) r116) else none)) else none)))) else none))

def m_M_makeRun (N : Nat) (σ : SX) : Option (Int32 × SX) :=
  (bI (m_M_first N σ) fun r1 σ1 => m_M_makeRun_5 N N σ r1)

set_option maxHeartbeats 4000000 in
set_option maxRecDepth 100000 in
theorem c_M_makeRun (l : Launch) (dC : Nat → ClassId) (dI : Nat → Nat → Nat) (ad : Nat → Nat → Nat) (cs : Nat → ClassId) (sz N : Nat) (σ : SX) {r0 : Int32} {σ0 : SX} (hM : m_M_makeRun N σ = some (r0, σ0)) : Met l y_M_makeRun (wd y_M_makeRun b_M_makeRun 3 (some .boolean)) ({ frames := 3, cells := 0, slots := 0, locals := 70 }) (va_Pc [.ref (ad 0 0)] (preM dC dI ad cs sz σ)) (va_Qi (fun (r : Int32) (u : SX) => r = r0 ∧ u = σ0) (atM dC dI ad cs (va_A (wM ad cs σ) sz)) (va_A (wM ad cs σ) sz)) 0 0 (va_A (wM ad cs σ) sz) := by
  refine Met.ofW (cc := b_M_makeRun) (maxL := 3) (ret := (some .boolean)) (by decide) rfl ?_
  intro p e s m args below meth c s₁ B hml hv
  obtain ⟨rfl, hsz, hP, hK, hD0, hN⟩ := hv
  have hx := B.exec
  have hb := B.bytes
  have hr := B.returns
  have hts := atoms_spec (ws := (wd y_M_makeRun b_M_makeRun 3 (some .boolean))) B.pre
  have htb : ∀ w ∈ tb, w.before _ s = true := fun w h => hts w (List.mem_cons_of_mem _ h)
  have hown : s.vm.findClass R_M = some m.cls := findClass_of_methodNamed B.named
  have hlocks := B.notSynchronized
  subst hsz
  have hD := hD0.self (sz := s.heap.size)
  generalize hAe : va_A (wM ad cs σ) s.heap.size = A at hD ⊢
  have hA : ∀ q : Nat, s.heap.size ≤ q → A q := fun q h => by rw [← hAe]; exact Or.inr h
  have hS : va_S A s.heap s.heap [] := va_S.rf
  have hP : va_P (dC, dI) classes (wM ad cs σ) s.heap := hP
  have hl := lv_entry ([.ref (ad 0 0)]) (n := 3) (Nat.le_of_ble_eq_true rfl)
  rw [lg_entry_eq]
  generalize (lg_sl ([.ref (ad 0 0)]) ++ List.replicate (3 - (lg_sl ([.ref (ad 0 0)])).length) Slot.unset).toArray = ls at hl ⊢
  have hl : lv_has ls 3 [(0, .ref (ad 0 0))] := hl
  rw [m_M_makeRun] at hM
  refine W_loop (pc := 5) (fun n5 H locs ls st => ∃ (σ : SX) (v1 : Int32), st = [] ∧ m_M_makeRun_5 N n5 σ v1 = some (r0, σ0) ∧ lv_has ls 3 [(0, .ref (ad 0 0)), (1, .int v1)] ∧ va_P (dC, dI) classes (wM ad cs σ) H ∧ va_D A (wM ad cs σ) ∧ va_S A s.heap H locs) ?_ ?_ ?_
  · rintro H locs ls st ⟨σ, v1, -, hM, -⟩
    rw [m_M_makeRun_5] at hM; cases hM
  · intro n5 K5 H locs ls st hI
    obtain ⟨σ, v1, rfl, hM, hl, hP, hD, hS⟩ := hI
    rw [m_M_makeRun_5] at hM
    refine lv_iload_n hx hb d_M_makeRun_5 rfl (lv_at hl 1 rfl) ?_
    refine lv_if_lt (tgt := 123) hx hb d_M_makeRun_6 (by decide) (fun h6 => ?_) (fun h6 => ?_)
    · rw [if_pos h6] at hM
      refine lv_iconst (v := 1) hx hb d_M_makeRun_123 (by decide) ?_
      have e9 := Prod.mk.inj (Option.some.inj hM)
      exact W.zret (ty := .boolean) (v := 1) hx hb hr rfl (fun t ht hW => ⟨⟨1, σ, rfl, e9, by rw [ht]; exact hP, va_K.moved hW.alike hK, hD⟩, hS.F ht⟩) hS.2.2 d_M_makeRun_124
    · rw [if_neg h6] at hM
      refine lv_aload_n hx hb d_M_makeRun_9 rfl (lv_at hl 0 rfl) ?_
      refine va_get (D := (dC, dI)) (ci := 7) (v := .ref (ad 0 13)) (C := R_M) (T := F_M) (N := 33) hx hb htb in_M hown hK hP 0 (g_M) rfl 27 (by decide) (htb _ k_646) (fun _ h9 => h9) rfl d_M_makeRun_10 ?_
      refine lv_iload_n hx hb d_M_makeRun_13 rfl (lv_at hl 1 rfl) ?_
      have hg14 := gd_c hM
      have hM := gd_v hM
      refine va_iald hx hb hK hP 13 0 (g_M_a13) rfl (inb_in hg14) d_M_makeRun_14 ?_
      refine lv_istore_n hx hb d_M_makeRun_15 rfl hl (by decide) (lv' := [(2, .int ((σ 0).2 13 v1.toNatClampNeg)), (0, .ref (ad 0 0)), (1, .int v1)]) rfl (fun ls hl => ?_)
      refine lv_aload_n hx hb d_M_makeRun_16 rfl (lv_at hl 1 rfl) ?_
      refine lv_iload_n hx hb d_M_makeRun_17 rfl (lv_at hl 0 rfl) ?_
      have hF1 := free_all hD hS hA
      obtain ⟨x18, y18, hq18, hM⟩ := bI_some hM
      refine va_calli (va_runV (As := [.int ((σ 0).2 13 v1.toNatClampNeg)]) (rest := []) ⟨hx, hb, hml, hown, hts⟩ (c_M_write l dC dI ad cs _ N σ ((σ 0).2 13 v1.toNatClampNeg) hq18) (cwV 1 hts (goodV k_779 k_781 ks_M_write k_8 k_782) rfl rfl rfl ⟨rfl, by decide, by decide, by decide +kernel⟩ ⟨Nat.le_of_ble_eq_true rfl, Nat.le_of_ble_eq_true rfl⟩) ⟨blindM, va_recv hK hP rfl (g_M), payM hP hK hD hN⟩ rfl rfl hl.1 rfl (lv_room (Nat.le_of_ble_eq_true rfl)) d_M_makeRun_18 ⟨Nat.zero_le _, Nat.zero_le _⟩) hS (fun q _ h => hF1 q h) hF1 (fun r18 σ18 t H locs ht hvm hpost hB hz1 hk1 hS => ?_)
      obtain ⟨e1, e2⟩ := hpost
      subst e1
      subst e2
      obtain ⟨hP1, hK1, hD1⟩ := hB
      rw [ht] at hP1
      have hP := hP1
      have hD := hD1.weaken (fun _ _ _ h => hF1 _ h)
      refine lv_if_ne (tgt := 26) hx hb d_M_makeRun_21 (by decide) (fun h21 => ?_) (fun h21 => ?_)
      · rw [if_neg h21] at hM
        refine lv_aload_n hx hb d_M_makeRun_26 rfl (lv_at hl 1 rfl) ?_
        refine va_get (D := (dC, dI)) (ci := 7) (v := .int ((σ18 0).1 15)) (C := R_M) (T := F_M) (N := 33) hx hb htb in_M hown hK hP 0 (g_M) rfl 29 (by decide) (htb _ k_648) (fun _ h9 => h9) rfl d_M_makeRun_27 ?_
        refine lv_aload_n hx hb d_M_makeRun_30 rfl (lv_at hl 1 rfl) ?_
        refine va_get (D := (dC, dI)) (ci := 7) (v := .int ((σ18 0).1 2)) (C := R_M) (T := F_M) (N := 33) hx hb htb in_M hown hK hP 0 (g_M) rfl 2 (by decide) (htb _ k_621) (fun _ h9 => h9) rfl d_M_makeRun_31 ?_
        refine lv_icmp_ge (tgt := 75) hx hb d_M_makeRun_34 (by decide) (fun h34 => ?_) (fun h34 => ?_)
        · rw [if_pos h34] at hM
          refine lv_aload_n hx hb d_M_makeRun_75 rfl (lv_at hl 1 rfl) ?_
          refine lv_aload_n hx hb d_M_makeRun_76 rfl (lv_at hl 1 rfl) ?_
          refine va_get (D := (dC, dI)) (ci := 7) (v := .int ((σ18 0).1 14)) (C := R_M) (T := F_M) (N := 33) hx hb htb in_M hown hK hP 0 (g_M) rfl 26 (by decide) (htb _ k_645) (fun _ h9 => h9) rfl d_M_makeRun_77 ?_
          refine lv_iconst (v := 1) hx hb d_M_makeRun_80 (by decide) ?_
          refine lv_isub hx hb d_M_makeRun_81 ?_
          refine va_put (D := (dC, dI)) (ci := 7) (v := .int (((σ18 0).1 14) - 1)) (ty := .int) (C := R_M) (T := F_M) (N := 33) hx hb htb in_M ft_M ft_M_ok n_M hown hK hP hD hS 0 (g_M) rfl 26 (by decide) (htb _ k_645) (fun _ h9 => h9) rfl (by decide +kernel) rfl rfl (Nat.le_of_ble_eq_true rfl) d_M_makeRun_82 (fun H locs hP hD hS => ?_)
          have hP := P_eq (s_M_14) hP
          have hD := D_eq (s_M_14) hD
          refine lv_aload_n hx hb d_M_makeRun_85 rfl (lv_at hl 1 rfl) ?_
          refine va_get (D := (dC, dI)) (ci := 7) (v := .ref (ad 0 13)) (C := R_M) (T := F_M) (N := 33) hx hb htb in_M hown hK hP 0 (g_M) rfl 27 (by decide) (htb _ k_646) (fun _ h9 => h9) rfl d_M_makeRun_86 ?_
          refine lv_iload_n hx hb d_M_makeRun_89 rfl (lv_at hl 2 rfl) ?_
          refine lv_aload_n hx hb d_M_makeRun_90 rfl (lv_at hl 1 rfl) ?_
          refine va_get (D := (dC, dI)) (ci := 7) (v := .ref (ad 0 13)) (C := R_M) (T := F_M) (N := 33) hx hb htb in_M hown hK hP 0 (g_M) rfl 27 (by decide) (htb _ k_646) (fun _ h9 => h9) rfl d_M_makeRun_91 ?_
          refine lv_aload_n hx hb d_M_makeRun_94 rfl (lv_at hl 1 rfl) ?_
          refine va_get (D := (dC, dI)) (ci := 7) (v := .int (((w1 σ18 0 14 (((σ18 0).1 14) - 1)) 0).1 14)) (C := R_M) (T := F_M) (N := 33) hx hb htb in_M hown hK hP 0 (g_M) rfl 26 (by decide) (htb _ k_645) (fun _ h9 => h9) rfl d_M_makeRun_95 ?_
          have hg98 := gd_c hM
          have hM := gd_v hM
          refine va_iald hx hb hK hP 13 0 (g_M_a13) rfl (inb_in hg98) d_M_makeRun_98 ?_
          have hg99 := gd_c hM
          have hM := gd_v hM
          refine va_iast (i := v1) (x := (((w1 σ18 0 14 (((σ18 0).1 14) - 1)) 0).2 13 (((w1 σ18 0 14 (((σ18 0).1 14) - 1)) 0).1 14).toNatClampNeg)) hx hb hK hP hD hS 13 0 (g_M_a13) rfl (inb_in hg99) d_M_makeRun_99 (fun H locs hP hD hS => ?_)
          have hP := P_eq (t_M_13) hP
          have hD := D_eq (t_M_13) hD
          refine lv_aload_n hx hb d_M_makeRun_100 rfl (lv_at hl 1 rfl) ?_
          refine va_get (D := (dC, dI)) (ci := 7) (v := .ref (ad 0 14)) (C := R_M) (T := F_M) (N := 33) hx hb htb in_M hown hK hP 0 (g_M) rfl 28 (by decide) (htb _ k_647) (fun _ h9 => h9) rfl d_M_makeRun_101 ?_
          refine lv_iload_n hx hb d_M_makeRun_104 rfl (lv_at hl 2 rfl) ?_
          refine lv_aload_n hx hb d_M_makeRun_105 rfl (lv_at hl 1 rfl) ?_
          refine va_get (D := (dC, dI)) (ci := 7) (v := .ref (ad 0 14)) (C := R_M) (T := F_M) (N := 33) hx hb htb in_M hown hK hP 0 (g_M) rfl 28 (by decide) (htb _ k_647) (fun _ h9 => h9) rfl d_M_makeRun_106 ?_
          refine lv_aload_n hx hb d_M_makeRun_109 rfl (lv_at hl 1 rfl) ?_
          refine va_get (D := (dC, dI)) (ci := 7) (v := .int (((w3 (w1 σ18 0 14 (((σ18 0).1 14) - 1)) 0 13 v1 (((w1 σ18 0 14 (((σ18 0).1 14) - 1)) 0).2 13 (((w1 σ18 0 14 (((σ18 0).1 14) - 1)) 0).1 14).toNatClampNeg)) 0).1 14)) (C := R_M) (T := F_M) (N := 33) hx hb htb in_M hown hK hP 0 (g_M) rfl 26 (by decide) (htb _ k_645) (fun _ h9 => h9) rfl d_M_makeRun_110 ?_
          have hg113 := gd_c hM
          have hM := gd_v hM
          refine va_zald hx hb hK hP 14 1 (g_M_a14) rfl (inb_in hg113) d_M_makeRun_113 ?_
          have hg114 := gd_c hM
          have hM := gd_v hM
          refine va_zast (i := v1) (x := (((w3 (w1 σ18 0 14 (((σ18 0).1 14) - 1)) 0 13 v1 (((w1 σ18 0 14 (((σ18 0).1 14) - 1)) 0).2 13 (((w1 σ18 0 14 (((σ18 0).1 14) - 1)) 0).1 14).toNatClampNeg)) 0).2 14 (((w3 (w1 σ18 0 14 (((σ18 0).1 14) - 1)) 0 13 v1 (((w1 σ18 0 14 (((σ18 0).1 14) - 1)) 0).2 13 (((w1 σ18 0 14 (((σ18 0).1 14) - 1)) 0).1 14).toNatClampNeg)) 0).1 14).toNatClampNeg)) hx hb hK hP hD hS 14 1 (g_M_a14) rfl (inb_in hg114) d_M_makeRun_114 (fun H locs hP hD hS => ?_)
          have hP := P_eq (t_M_14) hP
          have hD := D_eq (t_M_14) hD
          refine lv_aload_n hx hb d_M_makeRun_115 rfl (lv_at hl 1 rfl) ?_
          obtain ⟨x116, y116, hq116, hM⟩ := bI_some hM
          refine va_calli (va_runV (As := []) (rest := []) ⟨hx, hb, hml, hown, hts⟩ (c_M_first l dC dI ad cs _ N (w3 (w3 (w1 σ18 0 14 (((σ18 0).1 14) - 1)) 0 13 v1 (((w1 σ18 0 14 (((σ18 0).1 14) - 1)) 0).2 13 (((w1 σ18 0 14 (((σ18 0).1 14) - 1)) 0).1 14).toNatClampNeg)) 0 14 v1 (vp_nar .boolean (((w3 (w1 σ18 0 14 (((σ18 0).1 14) - 1)) 0 13 v1 (((w1 σ18 0 14 (((σ18 0).1 14) - 1)) 0).2 13 (((w1 σ18 0 14 (((σ18 0).1 14) - 1)) 0).1 14).toNatClampNeg)) 0).2 14 (((w3 (w1 σ18 0 14 (((σ18 0).1 14) - 1)) 0 13 v1 (((w1 σ18 0 14 (((σ18 0).1 14) - 1)) 0).2 13 (((w1 σ18 0 14 (((σ18 0).1 14) - 1)) 0).1 14).toNatClampNeg)) 0).1 14).toNatClampNeg))) hq116) (cwV 0 hts (goodV k_775 k_777 ks_M_first k_8 k_778) rfl rfl rfl ⟨rfl, by decide, by decide, by decide +kernel⟩ ⟨Nat.le_of_ble_eq_true rfl, Nat.le_of_ble_eq_true rfl⟩) ⟨blindM, va_recv hK hP rfl (g_M), payM hP hK hD hN⟩ rfl rfl hl.1 rfl (lv_room (Nat.le_of_ble_eq_true rfl)) d_M_makeRun_116 ⟨Nat.zero_le _, Nat.zero_le _⟩) hS (fun q h0 h => absurd h0 (Nat.not_lt.mpr h)) (fun q h => hA q (Nat.le_trans hS.1 h)) (fun r116 u t H locs ht hvm hpost hB hz1 hk1 hS => ?_)
          obtain ⟨e1, e2⟩ := hpost
          subst e1
          subst e2
          have hP := keepP hP hk1
          refine lv_istore_n hx hb d_M_makeRun_119 rfl hl (by decide) (lv' := [(1, .int r116), (2, .int ((σ 0).2 13 v1.toNatClampNeg)), (0, .ref (ad 0 0))]) rfl (fun ls hl => ?_)
          refine lv_goto (tgt := 5) hx hb d_M_makeRun_120 (by decide) ?_
          exact K5 _ _ _ _ ⟨(w3 (w3 (w1 σ18 0 14 (((σ18 0).1 14) - 1)) 0 13 v1 (((w1 σ18 0 14 (((σ18 0).1 14) - 1)) 0).2 13 (((w1 σ18 0 14 (((σ18 0).1 14) - 1)) 0).1 14).toNatClampNeg)) 0 14 v1 (vp_nar .boolean (((w3 (w1 σ18 0 14 (((σ18 0).1 14) - 1)) 0 13 v1 (((w1 σ18 0 14 (((σ18 0).1 14) - 1)) 0).2 13 (((w1 σ18 0 14 (((σ18 0).1 14) - 1)) 0).1 14).toNatClampNeg)) 0).2 14 (((w3 (w1 σ18 0 14 (((σ18 0).1 14) - 1)) 0 13 v1 (((w1 σ18 0 14 (((σ18 0).1 14) - 1)) 0).2 13 (((w1 σ18 0 14 (((σ18 0).1 14) - 1)) 0).1 14).toNatClampNeg)) 0).1 14).toNatClampNeg))), r116, rfl, hM, lv_sub hl [2, 0] rfl, hP, hD, hS⟩
        · rw [if_neg h34] at hM
          refine lv_aload_n hx hb d_M_makeRun_37 rfl (lv_at hl 1 rfl) ?_
          refine va_get (D := (dC, dI)) (ci := 7) (v := .ref (ad 0 13)) (C := R_M) (T := F_M) (N := 33) hx hb htb in_M hown hK hP 0 (g_M) rfl 27 (by decide) (htb _ k_646) (fun _ h9 => h9) rfl d_M_makeRun_38 ?_
          refine lv_iload_n hx hb d_M_makeRun_41 rfl (lv_at hl 2 rfl) ?_
          refine lv_aload_n hx hb d_M_makeRun_42 rfl (lv_at hl 1 rfl) ?_
          refine va_get (D := (dC, dI)) (ci := 7) (v := .int ((σ18 0).1 15)) (C := R_M) (T := F_M) (N := 33) hx hb htb in_M hown hK hP 0 (g_M) rfl 29 (by decide) (htb _ k_648) (fun _ h9 => h9) rfl d_M_makeRun_43 ?_
          have hg46 := gd_c hM
          have hM := gd_v hM
          refine va_iast (i := v1) (x := ((σ18 0).1 15)) hx hb hK hP hD hS 13 0 (g_M_a13) rfl (inb_in hg46) d_M_makeRun_46 (fun H locs hP hD hS => ?_)
          have hP := P_eq (t_M_13) hP
          have hD := D_eq (t_M_13) hD
          refine lv_aload_n hx hb d_M_makeRun_47 rfl (lv_at hl 1 rfl) ?_
          refine va_get (D := (dC, dI)) (ci := 7) (v := .ref (ad 0 14)) (C := R_M) (T := F_M) (N := 33) hx hb htb in_M hown hK hP 0 (g_M) rfl 28 (by decide) (htb _ k_647) (fun _ h9 => h9) rfl d_M_makeRun_48 ?_
          refine lv_iload_n hx hb d_M_makeRun_51 rfl (lv_at hl 2 rfl) ?_
          refine lv_aload_n hx hb d_M_makeRun_52 rfl (lv_at hl 1 rfl) ?_
          refine lv_aload_n hx hb d_M_makeRun_53 rfl (lv_at hl 1 rfl) ?_
          refine va_get (D := (dC, dI)) (ci := 7) (v := .int (((w3 σ18 0 13 v1 ((σ18 0).1 15)) 0).1 15)) (C := R_M) (T := F_M) (N := 33) hx hb htb in_M hown hK hP 0 (g_M) rfl 29 (by decide) (htb _ k_648) (fun _ h9 => h9) rfl d_M_makeRun_54 ?_
          refine lv_iload_n hx hb d_M_makeRun_57 rfl (lv_at hl 0 rfl) ?_
          obtain ⟨x58, y58, hq58, hM⟩ := bI_some hM
          refine va_calli (va_runV (As := [.int (((w3 σ18 0 13 v1 ((σ18 0).1 15)) 0).1 15), .int ((σ 0).2 13 v1.toNatClampNeg)]) (rest := [.int v1, .ref (ad 0 14)]) ⟨hx, hb, hml, hown, hts⟩ (c_M_comesFirst l dC dI ad cs _ N (w3 σ18 0 13 v1 ((σ18 0).1 15)) (((w3 σ18 0 13 v1 ((σ18 0).1 15)) 0).1 15) ((σ 0).2 13 v1.toNatClampNeg) hq58) (cwV 2 hts (goodV k_735 k_737 ks_M_comesFirst k_8 k_738) rfl rfl rfl ⟨rfl, by decide, by decide, by decide +kernel⟩ ⟨Nat.le_of_ble_eq_true rfl, Nat.le_of_ble_eq_true rfl⟩) ⟨blindM, va_recv hK hP rfl (g_M), payM hP hK hD hN⟩ rfl rfl hl.1 rfl (lv_room (Nat.le_of_ble_eq_true rfl)) d_M_makeRun_58 ⟨Nat.zero_le _, Nat.zero_le _⟩) hS (fun q h0 h => absurd h0 (Nat.not_lt.mpr h)) (fun q h => hA q (Nat.le_trans hS.1 h)) (fun r58 u t H locs ht hvm hpost hB hz1 hk1 hS => ?_)
          obtain ⟨e1, e2⟩ := hpost
          subst e1
          subst e2
          have hP := keepP hP hk1
          have hg61 := gd_c hM
          have hM := gd_v hM
          refine va_zast (i := v1) (x := r58) hx hb hK hP hD hS 14 1 (g_M_a14) rfl (inb_in hg61) d_M_makeRun_61 (fun H locs hP hD hS => ?_)
          have hP := P_eq (t_M_14) hP
          have hD := D_eq (t_M_14) hD
          refine lv_aload_n hx hb d_M_makeRun_62 rfl (lv_at hl 1 rfl) ?_
          refine lv_aload_n hx hb d_M_makeRun_63 rfl (lv_at hl 1 rfl) ?_
          refine va_get (D := (dC, dI)) (ci := 7) (v := .int (((w3 (w3 σ18 0 13 v1 ((σ18 0).1 15)) 0 14 v1 (vp_nar .boolean r58)) 0).1 15)) (C := R_M) (T := F_M) (N := 33) hx hb htb in_M hown hK hP 0 (g_M) rfl 29 (by decide) (htb _ k_648) (fun _ h9 => h9) rfl d_M_makeRun_64 ?_
          refine lv_iconst (v := 1) hx hb d_M_makeRun_67 (by decide) ?_
          refine lv_iadd hx hb d_M_makeRun_68 ?_
          refine va_put (D := (dC, dI)) (ci := 7) (v := .int ((((w3 (w3 σ18 0 13 v1 ((σ18 0).1 15)) 0 14 v1 (vp_nar .boolean r58)) 0).1 15) + 1)) (ty := .int) (C := R_M) (T := F_M) (N := 33) hx hb htb in_M ft_M ft_M_ok n_M hown hK hP hD hS 0 (g_M) rfl 29 (by decide) (htb _ k_648) (fun _ h9 => h9) rfl (by decide +kernel) rfl rfl (Nat.le_of_ble_eq_true rfl) d_M_makeRun_69 (fun H locs hP hD hS => ?_)
          have hP := P_eq (s_M_15) hP
          have hD := D_eq (s_M_15) hD
          refine lv_goto (tgt := 115) hx hb d_M_makeRun_72 (by decide) ?_
          refine lv_aload_n hx hb d_M_makeRun_115 rfl (lv_at hl 1 rfl) ?_
          obtain ⟨x116, y116, hq116, hM⟩ := bI_some hM
          refine va_calli (va_runV (As := []) (rest := []) ⟨hx, hb, hml, hown, hts⟩ (c_M_first l dC dI ad cs _ N (w1 (w3 (w3 σ18 0 13 v1 ((σ18 0).1 15)) 0 14 v1 (vp_nar .boolean r58)) 0 15 ((((w3 (w3 σ18 0 13 v1 ((σ18 0).1 15)) 0 14 v1 (vp_nar .boolean r58)) 0).1 15) + 1)) hq116) (cwV 0 hts (goodV k_775 k_777 ks_M_first k_8 k_778) rfl rfl rfl ⟨rfl, by decide, by decide, by decide +kernel⟩ ⟨Nat.le_of_ble_eq_true rfl, Nat.le_of_ble_eq_true rfl⟩) ⟨blindM, va_recv hK hP rfl (g_M), payM hP hK hD hN⟩ rfl rfl hl.1 rfl (lv_room (Nat.le_of_ble_eq_true rfl)) d_M_makeRun_116 ⟨Nat.zero_le _, Nat.zero_le _⟩) hS (fun q h0 h => absurd h0 (Nat.not_lt.mpr h)) (fun q h => hA q (Nat.le_trans hS.1 h)) (fun r116 u t H locs ht hvm hpost hB hz1 hk1 hS => ?_)
          obtain ⟨e1, e2⟩ := hpost
          subst e1
          subst e2
          have hP := keepP hP hk1
          refine lv_istore_n hx hb d_M_makeRun_119 rfl hl (by decide) (lv' := [(1, .int r116), (2, .int ((σ 0).2 13 v1.toNatClampNeg)), (0, .ref (ad 0 0))]) rfl (fun ls hl => ?_)
          refine lv_goto (tgt := 5) hx hb d_M_makeRun_120 (by decide) ?_
          exact K5 _ _ _ _ ⟨(w1 (w3 (w3 σ18 0 13 v1 ((σ18 0).1 15)) 0 14 v1 (vp_nar .boolean r58)) 0 15 ((((w3 (w3 σ18 0 13 v1 ((σ18 0).1 15)) 0 14 v1 (vp_nar .boolean r58)) 0).1 15) + 1)), r116, rfl, hM, lv_sub hl [2, 0] rfl, hP, hD, hS⟩
      · rw [if_pos h21] at hM
        refine lv_iconst (v := 0) hx hb d_M_makeRun_24 (by decide) ?_
        have e9 := Prod.mk.inj (Option.some.inj hM)
        exact W.zret (ty := .boolean) (v := 0) hx hb hr rfl (fun t ht hW => ⟨⟨0, σ18, rfl, e9, by rw [ht]; exact hP, va_K.moved hW.alike hK, hD⟩, hS.F ht⟩) hS.2.2 d_M_makeRun_25
  intro K5
  refine lv_aload_n hx hb d_M_makeRun_0 rfl (lv_at hl 0 rfl) ?_
  obtain ⟨x1, y1, hq1, hM⟩ := bI_some hM
  refine va_calli (va_runV (As := []) (rest := []) ⟨hx, hb, hml, hown, hts⟩ (c_M_first l dC dI ad cs _ N σ hq1) (cwV 0 hts (goodV k_775 k_777 ks_M_first k_8 k_778) rfl rfl rfl ⟨rfl, by decide, by decide, by decide +kernel⟩ ⟨Nat.le_of_ble_eq_true rfl, Nat.le_of_ble_eq_true rfl⟩) ⟨blindM, va_recv hK hP rfl (g_M), payM hP hK hD hN⟩ rfl rfl hl.1 rfl (lv_room (Nat.le_of_ble_eq_true rfl)) d_M_makeRun_1 ⟨Nat.zero_le _, Nat.zero_le _⟩) hS (fun q h0 h => absurd h0 (Nat.not_lt.mpr h)) (fun q h => hA q (Nat.le_trans hS.1 h)) (fun r1 u t H locs ht hvm hpost hB hz1 hk1 hS => ?_)
  obtain ⟨e1, e2⟩ := hpost
  subst e1
  subst e2
  have hP := keepP hP hk1
  refine lv_istore_n hx hb d_M_makeRun_4 rfl hl (by decide) (lv' := [(1, .int r1), (0, .ref (ad 0 0))]) rfl (fun ls hl => ?_)
  exact K5 N _ _ _ _ ⟨σ, r1, rfl, hM, lv_sub hl [1, 0] rfl, hP, hD, hS⟩
