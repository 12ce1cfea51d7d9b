theorem D_new {D : va_G} {cl : List vw_C} {A : Nat → Prop} {a v w1 : va_W} {H : Heap} (hD : va_D A (a ++ v)) (hPa : va_P D cl a H) (hF : ∀ q, va_A v H.size q → A q) (hD1 : va_D (va_A v H.size) w1) : va_D A (a ++ w1) := by
  refine va_D.app (D_left hD) (hD1.weaken (fun _ _ _ h => hF _ h)) (fun i j x y hi hj e => ?_)
  rcases hD1.2 j y hj with ⟨k, e0, hk⟩ | h
  · exact ap hD i k x (y.1, e0) hi hk e
  · have := va_at.lt (hPa i x hi)
    omega
theorem wM_cs {bd : Nat → Nat → Nat} {cs cs2 : Nat → ClassId} {μ : SX} (h0 : cs2 0 = cs 0) (h1 : cs2 1 = cs 1) : wM bd cs2 μ = wM bd cs μ := by
  unfold wM
  rw [h0, h1]
def cellv (xs : Nat → Int32) (L : Nat) : Int32 := if Int32.ofNat L ≤ 0 then 0 else xs (0 : Int32).toNatClampNeg
theorem pos_in {L : Nat} (hL : L ≤ 2049) (h : ¬ Int32.ofNat L ≤ 0) : vp_in 0 L := by
  rw [vp_in_iff]
  refine ⟨by decide, ?_⟩
  have h1 : (Int32.ofNat L).toInt = L := nI_toInt (n := L) (by omega)
  rw [Int32.le_iff_toInt_le, h1, Int32.toInt_zero] at h
  rw [Int32.toInt_zero]
  omega

theorem d_L_cell_0 : decode b_L_cell 0 = .ok (.iload_n 1, 1) := by decide +kernel
theorem d_L_cell_1 : decode b_L_cell 1 = .ok (.aload_n 0, 1) := by decide +kernel
theorem d_L_cell_2 : decode b_L_cell 2 = .ok (.arraylength, 1) := by decide +kernel
theorem d_L_cell_3 : decode b_L_cell 3 = .ok (.if_icmp .ge 9, 3) := by decide +kernel
theorem d_L_cell_6 : decode b_L_cell 6 = .ok (.aload_n 0, 1) := by decide +kernel
theorem d_L_cell_7 : decode b_L_cell 7 = .ok (.iload_n 1, 1) := by decide +kernel
theorem d_L_cell_8 : decode b_L_cell 8 = .ok (.iaload, 1) := by decide +kernel
theorem d_L_cell_9 : decode b_L_cell 9 = .ok (.goto 4, 3) := by decide +kernel
theorem d_L_cell_12 : decode b_L_cell 12 = .ok (.iconst 0, 1) := by decide +kernel
theorem d_L_cell_13 : decode b_L_cell 13 = .ok (.ireturn, 1) := by decide +kernel
set_option maxHeartbeats 4000000 in
theorem c_L_cell (l : Launch) (b L : Nat) (xs : Nat → Int32) (sz : Nat) (hL : L ≤ 2049) : Met l y_L_cell (wd y_L_cell b_L_cell 2 (some .int)) ({ frames := 0, cells := 0, slots := 0, locals := 0 }) (va_Pc [.ref b, .int 0] (fun U => U.heap.size = sz ∧ va_X b L xs U U.heap ∧ b < sz)) (va_Qi (fun (r : Int32) (_ : Unit) => r = cellv xs L) (fun _ _ => True) (fun q => sz ≤ q)) 0 0 (fun q => sz ≤ q) := by
  refine Met.ofW (cc := b_L_cell) (maxL := 2) (ret := some .int) (by decide) rfl ?_
  intro p e s m args below meth c s₁ B hml hv
  obtain ⟨rfl, hsz, hX, hbl⟩ := hv
  have hx := B.exec
  have hb := B.bytes
  have hr := B.returns
  have hlocks := B.notSynchronized
  subst hsz
  have hS : va_S (fun q => s.heap.size ≤ q) s.heap s.heap [] := va_S.rf
  have hl := lv_entry ([.ref b, .int 0]) (n := 2) (Nat.le_of_ble_eq_true rfl)
  rw [lg_entry_eq]
  generalize (lg_sl ([.ref b, .int 0]) ++ List.replicate (2 - (lg_sl ([.ref b, .int 0])).length) Slot.unset).toArray = ls at hl ⊢
  have hl : lv_has ls 2 [(0, .ref b), (1, .int 0)] := hl
  refine lv_iload_n hx hb d_L_cell_0 rfl (lv_at hl 1 rfl) ?_
  refine lv_aload_n hx hb d_L_cell_1 rfl (lv_at hl 0 rfl) ?_
  refine va_slen hx hb hX hbl (Nat.not_le.mpr hbl) hS d_L_cell_2 ?_
  refine lv_icmp_ge (tgt := 12) hx hb d_L_cell_3 (by decide) (fun h3 => ?_) (fun h3 => ?_)
  · refine lv_iconst (v := 0) hx hb d_L_cell_12 (by decide) ?_
    exact W.iret (v := 0) hx hb hr (fun t ht hW => ⟨⟨0, (), rfl, (if_pos h3).symm, trivial⟩, hS.F ht⟩) hS.2.2 d_L_cell_13
  · refine lv_aload_n hx hb d_L_cell_6 rfl (lv_at hl 0 rfl) ?_
    refine lv_iload_n hx hb d_L_cell_7 rfl (lv_at hl 1 rfl) ?_
    refine va_sld hx hb hX hbl (Nat.not_le.mpr hbl) hS (pos_in hL h3) d_L_cell_8 ?_
    refine lv_goto (tgt := 13) hx hb d_L_cell_9 (by decide) ?_
    exact W.iret (v := xs (0 : Int32).toNatClampNeg) hx hb hr (fun t ht hW => ⟨⟨_, (), rfl, (if_neg h3).symm, trivial⟩, hS.F ht⟩) hS.2.2 d_L_cell_13
theorem blindE {b L sz : Nat} {xs : Nat → Int32} {av : List Value} : FrameBlind (va_Pc av (fun U => U.heap.size = sz ∧ va_X b L xs U U.heap ∧ b < sz)) := by
  intro a U g mk q
  obtain ⟨q0, q1, q2, q3⟩ := q
  exact ⟨q0, q1, va_X.moved (u := U) (U := U.calling g mk a) (Vm.Alike.refl U.vm) q2, q3⟩
theorem payE {b L : Nat} {xs : Nat → Int32} {av : List Value} {s : State} {H : Heap} {locs : List Loc} (hX : va_X b L xs s s.heap) (hbl : b < s.heap.size) (hS : va_S (fun q => s.heap.size ≤ q) s.heap H locs) : ∀ U : State, U.heap = H → s.WarmedH U.vm → va_Pc av (fun U => U.heap.size = H.size ∧ va_X b L xs U U.heap ∧ b < H.size) av.toArray U :=
  fun U hU hW => ⟨rfl, by rw [hU], by rw [hU]; exact (hX.kept (hS.2.1 b hbl (Nat.not_le.mpr hbl))).moved hW.alike, Nat.lt_of_lt_of_le hbl hS.1⟩
theorem nw_start {b : Nat} {s : State} (h : ∀ w ∈ lw_tbl, w.before #[Value.ref b] s = true) : nwW s :=
  ⟨va_Nw.of rfl (h _ (List.mem_append_right _ (List.mem_of_getElem? (i := 26) (by decide +kernel)))), va_Nw.of rfl (h _ (List.mem_append_right _ (List.mem_of_getElem? (i := 51) (by decide +kernel)))), va_Nw.of rfl (h _ (List.mem_append_right _ (List.mem_of_getElem? (i := 67) (by decide +kernel)))), va_Nw.of rfl (h _ (List.mem_append_right _ (List.mem_of_getElem? (i := 86) (by decide +kernel)))), va_Nw.of rfl (h _ (List.mem_append_right _ (List.mem_of_getElem? (i := 91) (by decide +kernel)))), va_Nw.of rfl (h _ (List.mem_append_right _ (List.mem_of_getElem? (i := 93) (by decide +kernel)))), va_Nw.of rfl (h _ (List.mem_append_right _ (List.mem_of_getElem? (i := 125) (by decide +kernel)))), va_Nw.of rfl (h _ (List.mem_append_right _ (List.mem_of_getElem? (i := 326) (by decide +kernel)))), h (Cond.arrayOver (.object "ReelOffice$Tape")) (List.mem_append_right _ (List.mem_of_getElem? (i := 100) (by decide +kernel))), h (Cond.arrayOver (.array .int)) (List.mem_append_right _ (List.mem_of_getElem? (i := 31) (by decide +kernel)))⟩
theorem bad_mem : ∀ c ∈ badL, c ∈ tables_1 ∨ c ∈ flatC (Jvm.Cond.and given_1 narrow_1) := by decide +kernel
theorem bad_back {c : Cond} (hc : c ∈ badL) {A : Array Value} {U : State} (h : c.before A U = true) : c.before #[] U = true := by
  simp only [badL, List.mem_cons, List.not_mem_nil, or_false] at hc
  rcases hc with rfl | rfl | rfl | rfl | rfl | rfl | rfl | rfl | rfl | rfl
  · exact h
  · exact h
  · exact h
  · exact h
  · exact va_Nw.of rfl h
  · exact va_Nw.of rfl h
  · exact va_Nw.of rfl h
  · exact va_Nw.of rfl h
  · exact va_Nw.of rfl h
  · exact h
theorem st_start {b : Nat} {s : State} (h : ∀ w ∈ lw_tbl, w.before #[Value.ref b] s = true) (hg : (Jvm.Cond.and given_1 narrow_1).before #[Value.ref b] s = true) : stW s := by
  intro c hc
  rcases bad_mem c hc with h1 | h1
  · exact bad_back hc (h c (List.mem_append_right _ h1))
  · exact bad_back hc (flat_of_before _ hg c h1)
theorem K_start {b : Nat} {s : State} (htb : ∀ w ∈ tb, w.before #[Value.ref b] s = true) : ∃ (dC : Nat → ClassId) (dI : Nat → Nat → Nat), va_K (dC, dI) classes [] s := by
  obtain ⟨c0, i0, h0⟩ := u_known htb in_O (htb _ k_17)
  obtain ⟨c1, i1, h1⟩ := u_known htb in_D (htb _ k_25)
  obtain ⟨c2, i2, h2⟩ := u_known htb in_S (htb _ k_102)
  obtain ⟨c3, i3, h3⟩ := u_known htb in_P (htb _ k_50)
  obtain ⟨c4, i4, h4⟩ := u_known htb in_V (htb _ k_66)
  obtain ⟨c5, i5, h5⟩ := u_known htb in_R (htb _ k_85)
  obtain ⟨c6, i6, h6⟩ := u_known htb in_T (htb _ k_124)
  obtain ⟨c7, i7, h7⟩ := u_known htb in_M (htb _ k_614)
  refine ⟨fun k => ([c0, c1, c2, c3, c4, c5, c6, c7][k]?).getD 0, fun k => ([i0, i1, i2, i3, i4, i5, i6, i7][k]?).getD (fun _ => 0), ?_, fun k q hk => by cases hk⟩
  intro k q hk
  have h8 : k < 8 := (List.getElem?_eq_some_iff.mp hk).1
  rcases (show k = 0 ∨ k = 1 ∨ k = 2 ∨ k = 3 ∨ k = 4 ∨ k = 5 ∨ k = 6 ∨ k = 7 by omega) with rfl | rfl | rfl | rfl | rfl | rfl | rfl | rfl
  · cases hk; exact h0
  · cases hk; exact h1
  · cases hk; exact h2
  · cases hk; exact h3
  · cases hk; exact h4
  · cases hk; exact h5
  · cases hk; exact h6
  · cases hk; exact h7
theorem goodSW {w0 : Cond} {y2 : MethodName} {b2 : ByteArray} {n2 : Nat} {r2 : Option FieldType} {own : String} {idx : Nat} (h1 : Cond.methodLink own idx y2 ∈ tb) (h2 : Cond.static y2 ∈ tb) (h4 : Cond.initialized own ∈ tb) (h : Cond.code y2 b2 n2 r2 ∈ tb) : GoodIn (w0 :: tb) (wsS own idx y2 (wd y2 b2 n2 r2)) := by
  intro w hw
  rcases List.mem_append.mp hw with hw | hw
  · have hw : w ∈ tb := by
      simp only [List.mem_cons, List.not_mem_nil, or_false] at hw
      rcases hw with rfl | rfl | rfl <;> assumption
    exact ⟨List.mem_cons_of_mem _ hw, tb_good hw⟩
  · rcases List.mem_cons.mp hw with rfl | hw
    · exact ⟨List.mem_cons_of_mem _ h, tb_good h⟩
    · exact ⟨List.mem_cons_of_mem _ hw, tb_good hw⟩
theorem goodWW {w0 : Cond} {y2 : MethodName} {b2 : ByteArray} {n2 : Nat} {r2 : Option FieldType} (h : Cond.code y2 b2 n2 r2 ∈ tb) : GoodIn (w0 :: tb) (wd y2 b2 n2 r2) := by
  intro w hw
  rcases List.mem_cons.mp hw with rfl | hw
  · exact ⟨List.mem_cons_of_mem _ h, tb_good h⟩
  · exact ⟨List.mem_cons_of_mem _ hw, tb_good hw⟩
set_option maxHeartbeats 4000000 in
set_option maxRecDepth 100000 in
/-- from the entry to the loop: two objects and the law's own array are made; then the mirror decides -/
theorem law_start {p : Program} {e : Env} {s : State} {m : MethodId} {below : List Frame} {meth : Method} {c : Code} (l : Launch) (htr : l.stackTraces = false) {b L : Nat} {xs : Nat → Int32} (hL : L ≤ 2049) (C0 : lw_At p s m meth c b L xs) (N : Nat) (hNN : N ≤ 1000)
    (hM : m_law N xs L N (iniX (cellv xs L)) (iniM (cellv xs L)) (fun _ => 0) 1 = some ()) : W p l e room_1 s m #[Value.ref b] below meth c s.heap [] 0 0 (lw_Z below #[Value.ref b] s) (entryFrame m ([Value.ref b] : List Value).toArray 7) := by
  obtain ⟨hx, hb, hr, hml, hown, hts0, hX, hbl, hlocks, hgv⟩ := C0
  have htb : ∀ w ∈ tb, w.before #[Value.ref b] s = true := fun w h => hts0 w (List.mem_filter.mp h).1
  have hts : ∀ w ∈ (Cond.initialized R_L :: tb), w.before #[Value.ref b] s = true := fun w h => (List.mem_cons.mp h).elim (fun e => e ▸ htb _ k_0) (htb w)
  have hN := nw_start hts0
  have hZ := st_start hts0 hgv
  obtain ⟨dC, dI, hK⟩ := K_start htb
  have hA : ∀ q : Nat, s.heap.size ≤ q → s.heap.size ≤ q := fun q h => h
  have hS : va_S (fun q => s.heap.size ≤ q) s.heap s.heap [] := va_S.rf
  have hP : va_P (dC, dI) classes [] s.heap := fun k q hk => by cases hk
  have hD : va_D (fun q => s.heap.size ≤ q) [] := ⟨(fun i j x y hi => by cases hi), (fun k q hk => by cases hk)⟩
  have hl := lv_entry ([.ref b]) (n := 7) (Nat.le_of_ble_eq_true rfl)
  rw [lg_entry_eq]
  generalize (lg_sl ([.ref b]) ++ List.replicate (7 - (lg_sl ([.ref b])).length) Slot.unset).toArray = ls at hl ⊢
  have hl : lv_has ls 7 [(0, .ref b)] := hl
  refine va_new (ci := 0) (fs := [.null, .null, .null, .null, .null, .null, .null, .null, .null, .null, .int 0, .int 0]) (C := R_O) (T := F_O) (N := 12) hx hb htb in_O ft_O ft_O_ok hown (htb _ k_16) (htb _ k_17) (htb _ k_1) hK hP hD hS hA rfl fs_O (Nat.le_of_ble_eq_true rfl) (Nat.le_of_ble_eq_true rfl) d_law_0 (fun q0 H hP hD hS => ?_)
  have hP : va_P (dC, dI) classes [(q0, .inr (0, [.null, .null, .null, .null, .null, .null, .null, .null, .null, .null, .int 0, .int 0]))] H := hP
  have hD : va_D (fun q => s.heap.size ≤ q) [(q0, .inr (0, [.null, .null, .null, .null, .null, .null, .null, .null, .null, .null, .int 0, .int 0]))] := hD
  refine lv_dup hx hb d_law_3 rfl ?_
  refine lv_aload_n hx hb d_law_4 rfl (lv_at hl 0 rfl) ?_
  refine lv_iconst (v := 0) hx hb d_law_5 (by decide) ?_
  refine va_calli (va_runS (As := [.ref b, .int 0]) (rest := [.ref q0, .ref q0]) ⟨hx, hb, hml, hown, hts⟩ (c_L_cell l b L xs _ (by omega)) (cwS 2 hts (goodSW k_338 k_339 k_0 k_340) rfl rfl rfl ⟨rfl, by decide, by decide, by decide +kernel⟩ ⟨Nat.le_of_ble_eq_true rfl, Nat.le_of_ble_eq_true rfl⟩) ⟨blindE, payE hX hbl hS⟩ rfl rfl hl.1 rfl (lv_room (Nat.le_of_ble_eq_true rfl)) d_law_6 ⟨Nat.le_of_ble_eq_true rfl, Nat.le_of_ble_eq_true rfl⟩) hS (fun q h0 h => absurd h0 (Nat.not_lt.mpr h)) (fun q h => hA q (Nat.le_trans hS.1 h)) (fun r6 u t H locs ht hvm hpost hB hz1 hk1 hS => ?_)
  subst hpost
  have hP := keepP hP hk1
  have hPc := hP
  have hDc := hD
  have hFc := free_all hD hS hA
  refine va_callv (va_runI (As := [.int (cellv xs L)]) (rest := [.ref q0]) ⟨hx, hb, hml, hown, hts⟩ (c_O_init l dC dI q0 _ (cellv xs L)) (cwI 1 hts (goodWW k_20) rfl rfl rfl (htb _ k_1) (htb _ k_18) (htb _ k_19) rfl ⟨by decide, by decide, by decide +kernel⟩ ⟨Nat.le_of_ble_eq_true rfl, Nat.le_of_ble_eq_true rfl⟩) ⟨blindC, payC hPc (hK.sub (tys' := []) [] rfl) hDc hN⟩ rfl rfl hl.1 rfl (lv_room (Nat.le_of_ble_eq_true rfl)) d_law_9 ⟨Nat.le_of_ble_eq_true rfl, Nat.le_of_ble_eq_true rfl⟩) hS (fun q _ h => hFc q h) hFc (fun u t H locs ht hvm hpost hB hz1 hk1 hS => ?_)
  obtain ⟨ad, cs, had, hP1, hK1, hD1⟩ := hB
  rw [ht] at hP1
  have hK := va_K.moved hvm.symm hK1
  have hP := hP1
  have hD := hD1.weaken (fun _ _ _ h => hFc _ h)
  rw [← had]
  refine lv_astore_n hx hb d_law_12 rfl hl (by decide) (lv' := [(1, .ref (ad 0 0)), (0, .ref b)]) rfl (fun ls hl => ?_)
  refine va_new (ci := 7) (fs := [.int 0, .int 0, .int 0, .null, .int 0, .null, .null, .int 0, .int 0, .int 0, .int 0, .int 0, .null, .int 0, .null, .null, .int 0, .int 0, .null, .int 0, .int 0, .null, .null, .null, .null, .null, .int 0, .null, .null, .int 0, .int 0, .null, .null]) (C := R_M) (T := F_M) (N := 33) hx hb htb in_M ft_M ft_M_ok hown (htb _ k_613) (htb _ k_614) (htb _ k_8) hK hP hD hS hA rfl fs_M (Nat.le_of_ble_eq_true rfl) (Nat.le_of_ble_eq_true rfl) d_law_13 (fun q13 H hP hD hS => ?_)
  refine lv_dup hx hb d_law_16 rfl ?_
  refine lv_aload_n hx hb d_law_17 rfl (lv_at hl 1 rfl) ?_
  refine lv_iconst (v := 0) hx hb d_law_18 (by decide) ?_
  refine va_calli (va_runS (As := [.ref b, .int 0]) (rest := [.ref q13, .ref q13]) ⟨hx, hb, hml, hown, hts⟩ (c_L_cell l b L xs _ (by omega)) (cwS 2 hts (goodSW k_338 k_339 k_0 k_340) rfl rfl rfl ⟨rfl, by decide, by decide, by decide +kernel⟩ ⟨Nat.le_of_ble_eq_true rfl, Nat.le_of_ble_eq_true rfl⟩) ⟨blindE, payE hX hbl hS⟩ rfl rfl hl.1 rfl (lv_room (Nat.le_of_ble_eq_true rfl)) d_law_19 ⟨Nat.le_of_ble_eq_true rfl, Nat.le_of_ble_eq_true rfl⟩) hS (fun q h0 h => absurd h0 (Nat.not_lt.mpr h)) (fun q h => hA q (Nat.le_trans hS.1 h)) (fun r19 u t H locs ht hvm hpost hB hz1 hk1 hS => ?_)
  subst hpost
  have hP := keepP hP hk1
  have hPc := P_right hP
  have hDc := D_right hD
  have hFc := free_all hDc hS hA
  refine va_callv (va_runI (As := [.int (cellv xs L)]) (rest := [.ref q13]) ⟨hx, hb, hml, hown, hts⟩ (c_M_init l dC dI q13 _ (cellv xs L)) (cwI 1 hts (goodWW k_617) rfl rfl rfl (htb _ k_8) (htb _ k_615) (htb _ k_616) rfl ⟨by decide, by decide, by decide +kernel⟩ ⟨Nat.le_of_ble_eq_true rfl, Nat.le_of_ble_eq_true rfl⟩) ⟨blindC, payC hPc (hK.sub (tys' := []) [] rfl) hDc hN⟩ rfl rfl hl.1 rfl (lv_room (Nat.le_of_ble_eq_true rfl)) d_law_22 ⟨Nat.le_of_ble_eq_true rfl, Nat.le_of_ble_eq_true rfl⟩) hS (fun q _ h => hFc q h) hFc (fun u t H locs ht hvm hpost hB hz1 hk1 hS => ?_)
  obtain ⟨bd, cs2, hbd, hP1, hK1, hD1⟩ := hB
  rw [ht] at hP1
  have hK2 := hK.app (va_K.moved hvm.symm hK1)
  have e0 : cs2 0 = cs 0 := ka_i hK2 4 0 rfl rfl
  have e1 : cs2 1 = cs 1 := ka_z hK2 5 1 rfl rfl
  rw [wM_cs e0 e1] at hP1 hD1
  have hDold := hD
  have hD := D_new hD (P_left hP) hFc hD1
  have hP : va_P (dC, dI) classes (wX ad cs (iniX (cellv xs L)) ++ wM bd cs (iniM (cellv xs L))) H := (fr (ap_sym (ap hDold)) hk1 (P_left hP)).app hP1
  rw [← hbd]
  refine lv_astore_n hx hb d_law_25 rfl hl (by decide) (lv' := [(2, .ref (bd 0 0)), (1, .ref (ad 0 0)), (0, .ref b)]) rfl (fun ls hl => ?_)
  refine lv_iconst (v := 1) hx hb d_law_26 (by decide) ?_
  refine va_newa (atype := .long) (ty := .long) (a0 := (1, .inr (.inl (fun _ => 0)))) (N' := 1) hx hb (htb _ k_879) rfl hK hP hD hS hA (fun _ => rfl) (by decide) rfl (by decide) (Nat.le_of_ble_eq_true rfl) (Nat.le_of_ble_eq_true rfl) d_law_27 (fun qo cL H hK3 hP hD hS => ?_)
  rw [List.append_assoc] at hP hD
  have hKl := hK3.sub (tys' := [(cL, .long)]) [4] rfl
  refine lv_astore_n hx hb d_law_29 rfl hl (by decide) (lv' := [(3, .ref qo), (2, .ref (bd 0 0)), (1, .ref (ad 0 0)), (0, .ref b)]) rfl (fun ls hl => ?_)
  refine lv_iconst (v := 1) hx hb d_law_30 (by decide) ?_
  refine lv_istore hx hb d_law_31 hl (by decide) (lv' := [(4, .int 1), (3, .ref qo), (2, .ref (bd 0 0)), (1, .ref (ad 0 0)), (0, .ref b)]) rfl (fun ls hl => ?_)
  refine W.widen (k := 600000 - N) (n := 7290000 - 6 * N) (by omega) (by omega) ?_
  exact law_loop l htr dC dI ad bd cs cL qo N hx hb hr hml hown hts hX hbl hlocks hK hKl hN hZ N _ _ _ _ ⟨_, _, _, 1, rfl, hM, hNN, lv_sub hl [4, 3, 2, 1, 0] rfl, P_left hP, P_left (P_right hP), P_right (P_right hP), hD, hS⟩
