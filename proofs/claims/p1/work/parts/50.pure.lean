/-! The mirrors on a fresh object: one call, at most. -/
theorem rm4_in (v : Int32) : 1 ≤ (rm4 v).toInt ∧ (rm4 v).toInt ≤ 8 := by
  unfold rm4
  by_cases h : v < 1
  · rw [if_pos h]; decide
  · rw [if_neg h]
    by_cases h2 : 8 < v
    · rw [if_pos h2]; decide
    · rw [if_neg h2]
      rw [Int32.lt_iff_toInt_lt] at h h2
      have e1 : (1 : Int32).toInt = 1 := rfl
      have e8 : (8 : Int32).toInt = 8 := rfl
      omega
theorem rm4_pos (v : Int32) : 0 < rm4 v := by
  rw [Int32.lt_iff_toInt_lt, Int32.toInt_zero]
  have := rm4_in v
  omega
theorem inb_of {a : Int32} {n : Nat} (h0 : ¬ a < 0) (hn : ¬ Int32.ofNat n ≤ a) (hs : n < 2 ^ 31) : inb a n = true := by
  rw [Int32.lt_iff_toInt_lt, Int32.toInt_zero] at h0
  have e : (Int32.ofNat n).toInt = n := nI_toInt (n := n) hs
  rw [Int32.le_iff_toInt_le, e] at hn
  exact decide_eq_true ⟨by omega, by omega⟩
theorem iT {r : Int32} {n k : Nat} : (ini_X r (7 + n)).1 k = 0 := by
  have h2 : ¬ 7 + n = 2 := by omega
  have h3 : ¬ 7 + n = 3 := by omega
  have h5 : ¬ 7 + n = 5 := by omega
  simp [ini_X, h2, h3, h5]
theorem w3_sc {σ : SX} {j k j' : Nat} {i x : Int32} : (w3 σ j k i x j').1 = (σ j').1 := by
  unfold w3 w2
  by_cases h : j' = j
  · subst h; simp
  · simp [h]
theorem w1_ne {σ : SX} {j k j' : Nat} {v : Int32} (h : j' ≠ j) : w1 σ j k v j' = σ j' := if_neg h
theorem os_step (N n : Nat) (σ : SX) (v : Int32) (h : ¬ 4 ≤ v) (hi : inb v 4 = true) : m_O_start_17 N (n + 1) σ v = m_O_start_17 N n (w3 σ 0 1 v v) (v + 1) := by
  rw [m_O_start_17, if_neg h, if_pos hi]
theorem pb_step (N n : Nat) (σ : SX) (v : Int32) (h : ¬ 3 ≤ v) (h3 : inb v 3 = true) (h4 : inb v 4 = true) : m_P_begin_2 N (n + 1) σ v = m_P_begin_2 N n (w1 (w3 σ 4 1 v 1) (7 + v.toNatClampNeg) 2 (((w3 σ 4 1 v 1 (7 + v.toNatClampNeg)).1 2) + 1)) (v + 1) := by
  rw [m_P_begin_2, if_neg h, if_pos h3, if_pos h4]
  rfl
theorem pb_ok (n : Nat) (σ : SX) : ∃ σ', m_P_begin (n + 4) σ = some σ' ∧ ∀ j, j < 4 → (σ' j).1 = (σ j).1 := by
  rw [m_P_begin, pb_step (n + 4) (n + 3) σ 0 (by decide) (by decide) (by decide), pb_step (n + 4) (n + 2) _ (0 + 1) (by decide) (by decide) (by decide), pb_step (n + 4) (n + 1) _ (0 + 1 + 1) (by decide) (by decide) (by decide), m_P_begin_2, if_pos (by decide)]
  refine ⟨_, rfl, fun j hj => ?_⟩
  have e7 : ∀ (τ : SX) (i k : Nat) (x : Int32), w1 τ (7 + i) k x j = τ j := fun τ i k x => w1_ne (by omega)
  have e4 : ∀ (τ : SX) (k : Nat) (x : Int32), w1 τ 4 k x j = τ j := fun τ k x => w1_ne (by omega)
  simp only [e7, e4, w3_sc]
/-- start of the class, where there are no cards -/
theorem so_ok (n : Nat) (σ : SX) (h0 : (σ 0).1 0 = 0) (h1 : (σ 1).1 0 = 0) (h2 : 0 < (σ 2).1 0) : ∃ σ', m_O_start (n + 5) σ = some σ' := by
  rw [m_O_start, if_pos h0, os_step (n + 5) (n + 4) σ 0 (by decide) (by decide), os_step (n + 5) (n + 3) _ (0 + 1) (by decide) (by decide), os_step (n + 5) (n + 2) _ (0 + 1 + 1) (by decide) (by decide), os_step (n + 5) (n + 1) _ (0 + 1 + 1 + 1) (by decide) (by decide), m_O_start_17, if_pos (by decide)]
  generalize hτ : w3 (w3 (w3 (w3 σ 0 1 0 0) 0 1 (0 + 1) (0 + 1)) 0 1 (0 + 1 + 1) (0 + 1 + 1)) 0 1 (0 + 1 + 1 + 1) (0 + 1 + 1 + 1) = τ
  have a1 : (τ 1).1 0 = 0 := by rw [← hτ]; simp only [w3_sc]; exact h1
  have a2 : 0 < (τ 2).1 0 := by rw [← hτ]; simp only [w3_sc]; exact h2
  obtain ⟨σ', hb, hs⟩ := pb_ok (n + 1) τ
  rw [show n + 5 = n + 1 + 4 from rfl, hb]
  have b1 : (σ' 1).1 0 = 0 := by rw [hs 1 (by decide)]; exact a1
  have b2 : 0 < (σ' 2).1 0 := by rw [hs 2 (by decide)]; exact a2
  show ∃ x, bV (m_S_fillFrom (n + 1 + 4) σ' 2) _ = some x
  have hf : m_S_fillFrom (n + 1 + 4) σ' 2 = some (w1 (w1 σ' 2 1 0) 2 2 0) := by
    rw [m_S_fillFrom, m_D_cardCount, b1]
    show m_S_fillFrom_25 (n + 1 + 4) 2 (n + 1 + 4) (w1 (w1 σ' 2 1 (if 0 < (σ' 2).1 0 then 0 else (σ' 2).1 0)) 2 2 ((w1 σ' 2 1 (if 0 < (σ' 2).1 0 then 0 else (σ' 2).1 0) 2).1 1)) 0 = _
    rw [if_pos b2]
    have e : (w1 σ' 2 1 0 2).1 1 = 0 := by simp [w1]
    rw [e, m_S_fillFrom_25, if_pos (by simp [w1])]
  rw [hf]
  have e9 : m_S_isEmpty (n + 1 + 4) (w1 (w1 σ' 2 1 0) 2 2 0) 2 = some (1, w1 (w1 σ' 2 1 0) 2 2 0) := by rw [m_S_isEmpty, if_pos (by simp [w1])]
  simp only [bV, e9, bI]
  rw [if_neg (by decide)]
  exact ⟨_, rfl⟩
theorem rs_step (N n : Nat) (σ : SX) (v : Int32) (h : ¬ 4 ≤ v) (hi : inb v 4 = true) : m_M_reset_27 N (n + 1) σ v = m_M_reset_27 N n (w3 (w3 (w3 σ 0 10 v 0) 0 11 v 0) 0 12 v v) (v + 1) := by
  rw [m_M_reset_27, if_neg h, if_pos hi, if_pos hi, if_pos hi]
theorem rs_ok (n : Nat) (σ : SX) : ∃ σ', m_M_reset (n + 5) σ = some σ' ∧ (σ' 0).1 0 = (σ 0).1 0 ∧ (σ' 0).1 2 = (σ 0).1 2 := by
  rw [m_M_reset, rs_step (n + 5) (n + 4) _ 0 (by decide) (by decide), rs_step (n + 5) (n + 3) _ (0 + 1) (by decide) (by decide), rs_step (n + 5) (n + 2) _ (0 + 1 + 1) (by decide) (by decide), rs_step (n + 5) (n + 1) _ (0 + 1 + 1 + 1) (by decide) (by decide), m_M_reset_27, if_pos (by decide)]
  refine ⟨_, rfl, ?_, ?_⟩ <;> (simp only [w3_sc]; simp [w1])
theorem ms_ok (n : Nat) (σ : SX) (h4 : (σ 0).1 4 = 0) (h2 : (σ 0).1 2 = 0) : ∃ σ', m_M_start (n + 5) σ = some σ' ∧ (σ' 0).1 0 = 0 := by
  obtain ⟨τ, hr, e0, e2⟩ := rs_ok n (w1 σ 0 0 0)
  have f0 : (τ 0).1 0 = 0 := by rw [e0]; simp [w1]
  have f2 : (τ 0).1 2 = 0 := by rw [e2]; simp [w1, h2]
  rw [m_M_start, if_pos (by rw [h4]; decide), m_M_start_13, if_pos (by simp [w1]), hr]
  show ∃ x, (if (τ 0).1 2 = 0 then m_M_start_41 (n + 5) τ 3 else m_M_start_41 (n + 5) τ 1) = some x ∧ _
  rw [if_pos f2, m_M_start_41, if_pos (by simp [w1, f2])]
  exact ⟨_, rfl, by simp [w1, f0]⟩
theorem oc_step (N n : Nat) (σ : SX) (a v : Int32) (h : ¬ 4 ≤ v) (hi : inb v 4 = true) : ∃ σ', m_O_clear_24 N (n + 1) σ a v = m_O_clear_24 N n σ' a (v + 1) := by
  rw [m_O_clear_24, if_neg h, if_pos hi]
  exact ⟨_, rfl⟩
theorem oc_ok (n : Nat) (σ : SX) (a : Int32) : ∃ σ', m_O_clear_24 (n + 5) (n + 5) σ a 0 = some (a, σ') := by
  obtain ⟨σ1, h1⟩ := oc_step (n + 5) (n + 4) σ a 0 (by decide) (by decide)
  obtain ⟨σ2, h2⟩ := oc_step (n + 5) (n + 3) σ1 a (0 + 1) (by decide) (by decide)
  obtain ⟨σ3, h3⟩ := oc_step (n + 5) (n + 2) σ2 a (0 + 1 + 1) (by decide) (by decide)
  obtain ⟨σ4, h4⟩ := oc_step (n + 5) (n + 1) σ3 a (0 + 1 + 1 + 1) (by decide) (by decide)
  rw [h1, h2, h3, h4, m_O_clear_24, if_pos (by decide)]
  exact ⟨_, rfl⟩
theorem mc_step (N n : Nat) (σ : SX) (a v : Int32) (h : ¬ 4 ≤ v) (hi : inb v 4 = true) : ∃ σ', m_M_clear_51 N (n + 1) σ a v = m_M_clear_51 N n σ' a (v + 1) := by
  rw [m_M_clear_51, if_neg h, if_pos hi]
  exact ⟨_, rfl⟩
theorem mc_ok (n : Nat) (σ : SX) (a : Int32) : ∃ σ', m_M_clear_51 (n + 5) (n + 5) σ a 0 = some (a, σ') := by
  obtain ⟨σ1, h1⟩ := mc_step (n + 5) (n + 4) σ a 0 (by decide) (by decide)
  obtain ⟨σ2, h2⟩ := mc_step (n + 5) (n + 3) σ1 a (0 + 1) (by decide) (by decide)
  obtain ⟨σ3, h3⟩ := mc_step (n + 5) (n + 2) σ2 a (0 + 1 + 1) (by decide) (by decide)
  obtain ⟨σ4, h4⟩ := mc_step (n + 5) (n + 1) σ3 a (0 + 1 + 1 + 1) (by decide) (by decide)
  rw [h1, h2, h3, h4, m_M_clear_51, if_pos (by decide)]
  exact ⟨_, rfl⟩
theorem two_one {a : Int32} : 2 ≤ a ↔ 1 < a := by
  rw [Int32.le_iff_toInt_le, Int32.lt_iff_toInt_lt]
  have e1 : (1 : Int32).toInt = 1 := rfl
  have e2 : (2 : Int32).toInt = 2 := rfl
  omega
theorem four_three {a : Int32} : a < 4 ↔ a ≤ 3 := by
  rw [Int32.le_iff_toInt_le, Int32.lt_iff_toInt_lt]
  have e1 : (4 : Int32).toInt = 4 := rfl
  have e2 : (3 : Int32).toInt = 3 := rfl
  omega
