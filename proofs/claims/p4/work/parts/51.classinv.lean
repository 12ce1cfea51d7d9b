/-! The class: what its parts answer, and that the invariant stays. -/
/-- the same but for the object j -/
def but (j : Nat) (σ σ' : SX) : Prop := ∀ i, i ≠ j → σ' i = σ i
theorem but.rf {j : Nat} {σ : SX} : but j σ σ := fun _ _ => rfl
theorem but.tr {j : Nat} {σ σ' σ'' : SX} (h : but j σ σ') (h2 : but j σ' σ'') : but j σ σ'' := fun i hi => (h2 i hi).trans (h i hi)
theorem but.w1 {j k : Nat} {σ : SX} {v : Int32} : but j σ (w1 σ j k v) := fun _ h => w1_ne h
theorem but.w2 {j k : Nat} {σ : SX} {f : Nat → Int32} : but j σ (w2 σ j k f) := fun _ h => w2_ne h
theorem but.w3 {j k : Nat} {σ : SX} {i x : Int32} : but j σ (w3 σ j k i x) := fun _ h => w3_ne h
theorem IX.t {σ σ' : SX} {i : Nat} (h : IX σ) (hb : but (7 + i) σ σ') (hi : i < 4) (ht : iT (σ' (7 + i))) : IX σ' := by
  obtain ⟨a0, a1, a2, a3, a4, a5, a6, a7, a8, a9, a10⟩ := h
  have e : ∀ j, j < 7 → σ' j = σ j := fun j hj => hb j (by omega)
  refine ⟨by rw [e 0 (by omega)]; exact a0, by rw [e 0 (by omega)]; exact a1, by rw [e 1 (by omega)]; exact a2, by rw [e 1 (by omega)]; exact a3, by rw [e 2 (by omega)]; exact a4, by rw [e 2 (by omega)]; exact a5, by rw [e 3 (by omega)]; exact a6, by rw [e 4 (by omega)]; exact a7, by rw [e 5 (by omega)]; exact a8, by rw [e 6 (by omega)]; exact a9, fun k hk => ?_⟩
  by_cases hki : k = i
  · subst hki; exact ht
  · rw [hb (7 + k) (by omega)]; exact a10 k hk
theorem IX.of {σ σ' : SX} (h : IX σ) (j : Nat) (hj : j < 7) (hb : but j σ σ')
    (h0 : j = 0 → (0 ≤ ((σ' 0).1 0).toInt ∧ ((σ' 0).1 0).toInt ≤ 3) ∧ (∀ r, r < 4 → 0 ≤ ((σ' 0).2 1 r).toInt ∧ ((σ' 0).2 1 r).toInt < 4))
    (h1 : j = 1 → (0 ≤ ((σ' 1).1 0).toInt ∧ ((σ' 1).1 0).toInt ≤ 150) ∧ (0 ≤ ((σ' 1).1 1).toInt ∧ ((σ' 1).1 1).toInt ≤ 3))
    (h2 : j = 2 → (0 ≤ ((σ' 2).1 0).toInt ∧ ((σ' 2).1 0).toInt ≤ 8) ∧ iS (σ' 2)) (h3 : j = 3 → iS (σ' 3))
    (h4 : j = 4 → 0 ≤ ((σ' 4).1 1).toInt ∧ ((σ' 4).1 1).toInt < 3) (h5 : j = 5 → isB ((σ' 5).1 1) = true) (h6 : j = 6 → 0 ≤ ((σ' 6).1 0).toInt ∧ ((σ' 6).1 0).toInt ≤ 150) : IX σ' := by
  obtain ⟨a0, a1, a2, a3, a4, a5, a6, a7, a8, a9, a10⟩ := h
  have T : ∀ i, i < 4 → iT (σ' (7 + i)) := fun i hi => by rw [hb (7 + i) (by omega)]; exact a10 i hi
  have k0 : (0 ≤ ((σ' 0).1 0).toInt ∧ ((σ' 0).1 0).toInt ≤ 3) ∧ (∀ r, r < 4 → 0 ≤ ((σ' 0).2 1 r).toInt ∧ ((σ' 0).2 1 r).toInt < 4) := by
    by_cases e : j = 0
    · exact h0 e
    · rw [hb 0 (Ne.symm e)]; exact ⟨a0, a1⟩
  have k1 : (0 ≤ ((σ' 1).1 0).toInt ∧ ((σ' 1).1 0).toInt ≤ 150) ∧ (0 ≤ ((σ' 1).1 1).toInt ∧ ((σ' 1).1 1).toInt ≤ 3) := by
    by_cases e : j = 1
    · exact h1 e
    · rw [hb 1 (Ne.symm e)]; exact ⟨a2, a3⟩
  have k2 : (0 ≤ ((σ' 2).1 0).toInt ∧ ((σ' 2).1 0).toInt ≤ 8) ∧ iS (σ' 2) := by
    by_cases e : j = 2
    · exact h2 e
    · rw [hb 2 (Ne.symm e)]; exact ⟨a4, a5⟩
  have k3 : iS (σ' 3) := by
    by_cases e : j = 3
    · exact h3 e
    · rw [hb 3 (Ne.symm e)]; exact a6
  have k4 : 0 ≤ ((σ' 4).1 1).toInt ∧ ((σ' 4).1 1).toInt < 3 := by
    by_cases e : j = 4
    · exact h4 e
    · rw [hb 4 (Ne.symm e)]; exact a7
  have k5 : isB ((σ' 5).1 1) = true := by
    by_cases e : j = 5
    · exact h5 e
    · rw [hb 5 (Ne.symm e)]; exact a8
  have k6 : 0 ≤ ((σ' 6).1 0).toInt ∧ ((σ' 6).1 0).toInt ≤ 150 := by
    by_cases e : j = 6
    · exact h6 e
    · rw [hb 6 (Ne.symm e)]; exact a9
  exact ⟨k0.1, k0.2, k1.1, k1.2, k2.1, k2.2, k3, k4, k5, k6, T⟩
variable {N : Nat} {σ : SX}
theorem ox_role {a : Int32} (h : IX σ) (h0 : 0 ≤ a.toInt) (h4 : a.toInt < 4) : okk (m_O_tapeInRole N σ a) (fun q => q.2 = σ ∧ q.1 < 4) := by
  rw [m_O_tapeInRole]
  have hc := cl_ti h0
  have hr := h.2.1 a.toNatClampNeg (by omega)
  refine okk.gd (inb_ti.mpr ⟨h0, by omega⟩) (okk.gd (inb_ti.mpr ⟨hr.1, by have := hr.2; omega⟩) (okk.so ⟨rfl, ?_⟩))
  have := cl_ti hr.1
  have := hr.2
  show ((σ 0).2 1 a.toNatClampNeg).toNatClampNeg < 4
  omega
theorem ox_rl {i : Nat} {r : Int32} (h : iT (σ (7 + i))) : okk (m_T_runLength N σ i r) (fun q => q.2 = σ ∧ (q.1 = -1 ∨ (0 ≤ r.toInt ∧ r.toInt < ((σ (7 + i)).1 1).toInt ∧ q.1 = (σ (7 + i)).2 2 r.toNatClampNeg))) := by
  rw [m_T_runLength]
  refine okk.it (fun _ => okk.so ⟨rfl, Or.inl rfl⟩) (fun h0 => okk.it (fun _ => okk.so ⟨rfl, Or.inl rfl⟩) (fun h1 => ?_))
  rw [lt_ti, Int32.toInt_zero] at h0
  rw [le_ti] at h1
  obtain ⟨t0, t1, -⟩ := h
  exact okk.gd (inb_ti.mpr ⟨by omega, by omega⟩) (okk.so ⟨rfl, Or.inr ⟨by omega, by omega, rfl⟩⟩)
theorem ox_cor_l {i : Nat} {r a : Int32} (h : iT (σ (7 + i))) (hr0 : 0 ≤ r.toInt) (hr : r.toInt < ((σ (7 + i)).1 1).toInt) (ha0 : 0 ≤ a.toInt) (ha : a.toInt < ((σ (7 + i)).2 2 r.toNatClampNeg).toInt) :
    ∀ (n : Nat) (v3 v4 : Int32), 0 ≤ v4.toInt → v4.toInt ≤ r.toInt → v3.toInt = sumL ((σ (7 + i)).2 2) v4.toNatClampNeg → r.toInt - v4.toInt < n → okk (m_T_cardOfRun_20 N i n σ r a v3 v4) (fun q => q.2 = σ) := by
  intro n
  obtain ⟨t0, t1, t2, t3, t4⟩ := h
  have hcr := cl_ti hr0
  have hall : sumL ((σ (7 + i)).2 2) (r.toNatClampNeg + 1) ≤ ((σ (7 + i)).1 0).toInt := by
    rw [← t4]; exact sumL_mono (by omega) t3
  rw [sumL] at hall
  induction n with
  | zero => intro v3 v4 h1 h2 h3 h4; omega
  | succ n ih =>
    intro v3 v4 h1 h2 h3 h4
    have hc4 := cl_ti h1
    have hs0 : 0 ≤ sumL ((σ (7 + i)).2 2) v4.toNatClampNeg := sumL_nn (fun k hk => t3 k (by omega))
    have hs1 : sumL ((σ (7 + i)).2 2) v4.toNatClampNeg ≤ sumL ((σ (7 + i)).2 2) r.toNatClampNeg := sumL_mono (by omega) (fun k hk => t3 k (by omega))
    rw [m_T_cardOfRun_20]
    refine okk.it (fun h5 => ?_) (fun h5 => ?_)
    · rw [le_ti] at h5
      have e : v4.toNatClampNeg = r.toNatClampNeg := by omega
      rw [e] at h3 hs0
      have hsum : (v3 + a).toInt = v3.toInt + a.toInt := ti_add (by omega) (by omega)
      exact okk.gd (inb_ti.mpr ⟨by omega, by omega⟩) (okk.so rfl)
    · rw [le_ti] at h5
      have hlen := t3 v4.toNatClampNeg (by omega)
      have hs2 : sumL ((σ (7 + i)).2 2) (v4.toNatClampNeg + 1) ≤ sumL ((σ (7 + i)).2 2) r.toNatClampNeg := sumL_mono (by omega) (fun k hk => t3 k (by omega))
      rw [sumL] at hs2
      have e1 : (1 : Int32).toInt = 1 := rfl
      have hv : (v4 + 1).toInt = v4.toInt + 1 := by rw [ti_add (by omega) (by omega), e1]
      have hcv := cl_ti (a := v4 + 1) (by omega)
      refine okk.gd (inb_ti.mpr ⟨by omega, by omega⟩) (ih _ _ (by omega) (by omega) ?_ (by omega))
      rw [show (v4 + 1).toNatClampNeg = v4.toNatClampNeg + 1 by omega, sumL, ti_add (by omega) (by omega), h3]
theorem ox_cor {i : Nat} {r a : Int32} (hN : 200 ≤ N) (h : iT (σ (7 + i))) : okk (m_T_cardOfRun N σ i r a) (fun q => q.2 = σ) := by
  rw [m_T_cardOfRun]
  refine okk.it (fun _ => okk.so rfl) (fun h0 => okk.bI ((ox_rl h).mono (fun q hq => ?_)))
  rw [lt_ti, Int32.toInt_zero] at h0
  refine okk.it (fun h1 => ?_) (fun _ => okk.so rfl)
  rw [lt_ti] at h1
  rcases hq.2 with e | ⟨e1, e2, e3⟩
  · rw [e] at h1
    have : (-1 : Int32).toInt = -1 := rfl
    omega
  · rw [e3] at h1
    have hb := h.2.1
    exact ox_cor_l h e1 e2 (by omega) h1 N 0 0 (by decide) (by rw [Int32.toInt_zero]; omega) rfl (by rw [Int32.toInt_zero]; omega)
