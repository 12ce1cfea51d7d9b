/-! The class, further parts: deck, store, writer, row. -/
variable {N : Nat} {σ : SX}
theorem one_ti : (1 : Int32).toInt = 1 := rfl
theorem m1_ti : (-1 : Int32).toInt = -1 := rfl
theorem inc_ti {v : Int32} (h0 : 0 ≤ v.toInt) (h : v.toInt < 1000) : (v + 1).toInt = v.toInt + 1 := by rw [ti_add (by rw [one_ti]; omega) (by rw [one_ti]; omega), one_ti]
theorem ox_has {a : Int32} : okk (m_D_hasCard N σ a) (fun q => q.2 = σ ∧ (q.1 = 0 ∨ (0 ≤ a.toInt ∧ a.toInt < ((σ 1).1 0).toInt))) := by
  rw [m_D_hasCard]
  refine okk.it (fun _ => okk.so ⟨rfl, Or.inl rfl⟩) (fun h0 => okk.it (fun _ => okk.so ⟨rfl, Or.inl rfl⟩) (fun h1 => okk.so ⟨rfl, Or.inr ?_⟩))
  rw [lt_ti, Int32.toInt_zero] at h0
  rw [le_ti] at h1
  omega
theorem ox_val {a b : Int32} (h : IX σ) : okk (m_D_value N σ a b) (fun q => q.2 = σ) := by
  rw [m_D_value]
  refine okk.bI (ox_has.mono (fun q hq => okk.it (fun _ => okk.so rfl) (fun h0 => okk.bP ?_)))
  have hc := h.2.2.1
  have ha : 0 ≤ a.toInt ∧ a.toInt < ((σ 1).1 0).toInt := hq.2.resolve_left h0
  rw [m_O_isField]
  have e2 : (2 : Int32).toInt = 2 := rfl
  refine okk.it (fun _ => okk.so (okk.it (fun _ => okk.so rfl) (fun q => absurd rfl q))) (fun h1 => okk.it (fun _ => okk.so (okk.it (fun _ => okk.so rfl) (fun q => absurd rfl q))) (fun h2 => okk.so (okk.it (fun q => absurd q (by decide)) (fun _ => ?_))))
  rw [lt_ti, Int32.toInt_zero] at h1
  rw [le_ti, e2] at h2
  refine okk.gd (inb_ti.mpr ⟨by omega, by omega⟩) (okk.it (fun _ => okk.gd (inb_ti.mpr ⟨by omega, by omega⟩) (okk.so rfl)) (fun _ => okk.gd (inb_ti.mpr ⟨by omega, by omega⟩) (okk.so rfl)))
theorem ox_rank {a b : Int32} : okk (m_D_rank a b) (fun _ => True) := by
  rw [m_D_rank]
  exact okk.it (fun _ => okk.so trivial) (fun _ => okk.it (fun _ => okk.so trivial) (fun _ => okk.it (fun _ => okk.it (fun _ => okk.so trivial) (fun _ => okk.so trivial)) (fun _ => okk.so trivial)))
theorem ox_cb_l {a b : Int32} (h : IX σ) : ∀ (n : Nat) (v : Int32), 0 ≤ v.toInt → v.toInt ≤ 3 → 3 - v.toInt < n → okk (m_D_comesBefore_2 N n σ a b v) (fun q => q.2 = σ) := by
  intro n
  have hp := h.2.2.2.1
  induction n with
  | zero => intro v h0 h3 h4; omega
  | succ n ih =>
    intro v h0 h3 h4
    rw [m_D_comesBefore_2]
    refine okk.it (fun _ => okk.it (fun _ => okk.so rfl) (fun _ => okk.so rfl)) (fun h5 => ?_)
    rw [le_ti] at h5
    have hv := inc_ti h0 (by omega)
    have hi : inb v 3 = true := inb_ti.mpr ⟨h0, by omega⟩
    refine okk.gd hi (okk.gd hi (okk.bI ((ox_val h).mono (fun q hq => okk.bL (ox_rank.mono (fun r _ => okk.gd hi (okk.gd hi (okk.bI ((ox_val h).mono (fun q2 hq2 => okk.bL (ox_rank.mono (fun r2 _ => okk.it (fun _ => ih _ (by omega) (by omega) (by omega)) (fun _ => okk.it (fun _ => okk.so rfl) (fun _ => okk.so rfl))))))))))))))
theorem ox_cb {a b : Int32} (hN : 200 ≤ N) (h : IX σ) : okk (m_D_comesBefore N σ a b) (fun q => q.2 = σ) := by
  rw [m_D_comesBefore]
  exact ox_cb_l h N 0 (by decide) (by decide) (by rw [Int32.toInt_zero]; omega)
theorem ox_holds_l {j : Nat} {a : Int32} (h : iS (σ j)) : ∀ (n : Nat) (v : Int32), 0 ≤ v.toInt → v.toInt ≤ 8 → 8 - v.toInt < n → okk (m_S_holds_2 N j n σ a v) (fun q => q.2 = σ ∧ isB q.1 = true) := by
  intro n
  have hp := h
  induction n with
  | zero => intro v h0 h3 h4; omega
  | succ n ih =>
    intro v h0 h3 h4
    rw [m_S_holds_2]
    refine okk.it (fun _ => okk.so ⟨rfl, rfl⟩) (fun h5 => ?_)
    rw [le_ti] at h5
    obtain ⟨p0, p1⟩ := hp
    have hv := inc_ti h0 (by omega)
    exact okk.gd (inb_ti.mpr ⟨h0, by omega⟩) (okk.it (fun _ => okk.so ⟨rfl, rfl⟩) (fun _ => ih _ (by omega) (by omega) (by omega)))
theorem ox_sf_l {j : Nat} (h : IX σ) (hs : iS (σ j)) (hN : 200 ≤ N) : ∀ (n : Nat) (b v : Int32), 0 ≤ v.toInt → v.toInt ≤ ((σ j).1 1).toInt → (b = -1 ∨ (0 ≤ b.toInt ∧ b.toInt < ((σ j).1 1).toInt)) → 8 - v.toInt < n → okk (m_S_slotOfFirst_4 N j n σ b v) (fun q => q.2 = σ ∧ (q.1 = -1 ∨ (0 ≤ q.1.toInt ∧ q.1.toInt < ((σ j).1 1).toInt))) := by
  intro n
  obtain ⟨p0, p1⟩ := hs
  induction n with
  | zero => intro b v h0 h3 hb h4; omega
  | succ n ih =>
    intro b v h0 h3 hb h4
    rw [m_S_slotOfFirst_4]
    refine okk.it (fun _ => okk.so ⟨rfl, hb⟩) (fun h5 => ?_)
    rw [le_ti] at h5
    have hv := inc_ti h0 (by omega)
    have hi : inb v 8 = true := inb_ti.mpr ⟨h0, by omega⟩
    have go : ∀ b', (b' = -1 ∨ (0 ≤ b'.toInt ∧ b'.toInt < ((σ j).1 1).toInt)) → okk (m_S_slotOfFirst_4 N j n σ b' (v + 1)) (fun q => q.2 = σ ∧ (q.1 = -1 ∨ (0 ≤ q.1.toInt ∧ q.1.toInt < ((σ j).1 1).toInt))) := fun b' hb' => ih b' (v + 1) (by omega) (by omega) hb' (by omega)
    refine okk.gd hi (okk.it (fun _ => okk.it (fun _ => go v (Or.inr ⟨h0, by omega⟩)) (fun h6 => ?_)) (fun _ => go b hb))
    have hb2 := hb.resolve_left h6
    refine okk.gd hi (okk.gd (inb_ti.mpr ⟨hb2.1, by omega⟩) (okk.bI ((ox_cb hN h).mono (fun q hq => okk.it (fun _ => go b hb) (fun _ => go v (Or.inr ⟨h0, by omega⟩))))))
theorem ox_sf {j : Nat} (h : IX σ) (hs : iS (σ j)) (hN : 200 ≤ N) : okk (m_S_slotOfFirst N σ j) (fun q => q.2 = σ ∧ (q.1 = -1 ∨ (0 ≤ q.1.toInt ∧ q.1.toInt < ((σ j).1 1).toInt))) := by
  rw [m_S_slotOfFirst]
  exact ox_sf_l h hs hN N (-1) 0 (by decide) (by rw [Int32.toInt_zero]; exact hs.1) (Or.inl rfl) (by rw [Int32.toInt_zero]; omega)
theorem ox_ci {j : Nat} {a : Int32} (hs : iS (σ j)) : okk (m_S_cardIn N σ j a) (fun q => q.2 = σ) := by
  rw [m_S_cardIn]
  refine okk.it (fun _ => okk.so rfl) (fun h0 => okk.it (fun _ => okk.so rfl) (fun h1 => ?_))
  rw [lt_ti, Int32.toInt_zero] at h0
  rw [le_ti] at h1
  obtain ⟨p0, p1⟩ := hs
  exact okk.gd (inb_ti.mpr ⟨by omega, by omega⟩) (okk.so rfl)
/-- a card is written, or the power is cut: the writer alone changes -/
theorem ox_wc (h : IX σ) : okk (m_V_writeCard N σ) (fun q => IX q.2 ∧ but 5 σ q.2) := by
  have key : ∀ σ1 : SX, but 5 σ σ1 → isB ((σ1 5).1 1) = true → IX σ1 ∧ but 5 σ σ1 := fun σ1 hb h5 => ⟨h.of 5 (by decide) hb (fun e => by cases e) (fun e => by cases e) (fun e => by cases e) (fun e => by cases e) (fun e => by cases e) (fun _ => h5) (fun e => by cases e), hb⟩
  have h5 := h.2.2.2.2.2.2.2.2.1
  have k43 : ∀ σ1 : SX, but 5 σ σ1 → isB ((σ1 5).1 1) = true → okk (m_V_writeCard_43 N σ1) (fun q => IX q.2 ∧ but 5 σ q.2) := fun σ1 hb h6 => okk.so (key _ (hb.tr but.w1) (by rw [w1_k (by decide)]; exact h6))
  have k26 : okk (m_V_writeCard_26 N σ) (fun q => IX q.2 ∧ but 5 σ q.2) := okk.it (fun _ => k43 σ but.rf h5) (fun _ => k43 _ but.w1 (by rw [w1_k (by decide)]; exact h5))
  rw [m_V_writeCard]
  exact okk.it (fun _ => k26) (fun _ => okk.it (fun _ => okk.so (key _ (but.w1.tr but.w1) (by rw [w1_eq]; rfl))) (fun _ => k26))
theorem ox_ra {a : Int32} (h : IX σ) : okk (m_R_add N σ a) (fun σ' => IX σ' ∧ but 6 σ σ') := by
  have h6 := h.2.2.2.2.2.2.2.2.2.1
  rw [m_R_add]
  refine okk.it (fun _ => okk.so ⟨h, but.rf⟩) (fun h0 => ?_)
  have e : (150 : Int32).toInt = 150 := rfl
  rw [le_ti, e] at h0
  have hb : but 6 σ (w1 (w3 σ 6 1 ((σ 6).1 0) a) 6 0 ((((w3 σ 6 1 ((σ 6).1 0) a) 6).1 0) + 1)) := but.w3.tr but.w1
  refine okk.gd (inb_ti.mpr ⟨h6.1, by omega⟩) (okk.so ⟨h.of 6 (by decide) hb (fun e => by cases e) (fun e => by cases e) (fun e => by cases e) (fun e => by cases e) (fun e => by cases e) (fun e => by cases e) (fun _ => ?_), hb⟩)
  rw [w1_eq, w3_sc, inc_ti h6.1 (by omega)]
  omega
theorem ox_rf (h : IX σ) : okk (m_R_forgetAll N σ) (fun σ' => IX σ' ∧ but 6 σ σ') := by
  rw [m_R_forgetAll]
  exact okk.so ⟨h.of 6 (by decide) but.w1 (fun e => by cases e) (fun e => by cases e) (fun e => by cases e) (fun e => by cases e) (fun e => by cases e) (fun e => by cases e) (fun _ => by rw [w1_eq]; decide), but.w1⟩
theorem ox_ad {i : Nat} {a : Int32} (h : IX σ) (hi : i < 4) : okk (m_T_addDummies N σ i a) (fun σ' => IX σ' ∧ but (7 + i) σ σ') := by
  rw [m_T_addDummies]
  refine okk.so ⟨h.t but.w1 hi ?_, but.w1⟩
  have ht := h.2.2.2.2.2.2.2.2.2.2 i hi
  unfold iT at ht ⊢
  rw [w1_k (by decide), w1_k (by decide), w1_ar]
  exact ht
