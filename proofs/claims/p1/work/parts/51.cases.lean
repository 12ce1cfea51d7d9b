section Cases5
variable {xs : Nat → Int32} {v : Int32} {k : SX → SX → (Nat → Int64) → Int32 → Option Unit}
theorem k5_0 (hk : ∀ σ μ f, k σ μ f 1 = some ()) : m_case_0 20 xs 5 k (iniX v) (iniM v) (fun _ => 0) 1 = some () := by
  simp [m_case_0, m_L_card, m_O_card, m_D_isFull, m_D_addCard, m_M_card, m_M_card_18, m_M_card_23, m_M_thrown, bH, bI, iniX, ini_X, iniM, ini_M, inb, isB, w1, w2, w3, upd, vp_updL, lg_cmp, hk]
theorem k5_1 (hk : ∀ σ μ f, k σ μ f 1 = some ()) : m_case_1 20 xs 5 k (iniX v) (iniM v) (fun _ => 0) 1 = some () := by
  simp only [m_case_1]
  rw [if_pos (by decide), if_pos (by decide)]
  generalize xs (1 + 1 : Int32).toNatClampNeg = a
  generalize xs (1 + 2 : Int32).toNatClampNeg = b
  have hin1 : inb 2 5 = true := by decide
  have hin2 : inb 3 5 = true := by decide
  by_cases ha0 : a < 0
  · simp [m_L_part, m_O_part, xm_O_part, m_O_isField, m_D_keyIsFull, m_D_addPart, m_M_part, m_M_part_19, m_M_part_38, m_M_part_43, m_M_thrown, bH, bI, bP, isB, w1, iniX, ini_X, iniM, ini_M, ha0, hin1, hin2, hk]
  by_cases ha : 2 ≤ a
  · have ha' := two_one.mp ha
    simp [m_L_part, m_O_part, xm_O_part, m_O_isField, m_D_keyIsFull, m_D_addPart, m_M_part, m_M_part_19, m_M_part_38, m_M_part_43, m_M_thrown, bH, bI, bP, isB, w1, iniX, ini_X, iniM, ini_M, ha0, ha, ha', hin1, hin2, hk]
  have ha' : ¬ 1 < a := fun q => ha (two_one.mpr q)
  by_cases hb0 : b < 0
  · simp [m_L_part, m_O_part, xm_O_part, m_O_isField, m_D_keyIsFull, m_D_addPart, m_M_part, m_M_part_19, m_M_part_38, m_M_part_43, m_M_thrown, bH, bI, bP, isB, w1, iniX, ini_X, iniM, ini_M, ha0, ha, ha', hb0, hin1, hin2, hk]
  by_cases hb : b < 4
  · have hb' := four_three.mp hb
    simp [m_L_part, m_O_part, xm_O_part, m_O_isField, m_D_keyIsFull, m_D_addPart, m_M_part, m_M_part_19, m_M_part_38, m_M_part_43, m_M_thrown, bH, bI, bP, isB, w1, w2, w3, inb, lg_cmp, vp_updL, iniX, ini_X, iniM, ini_M, ha0, ha, ha', hb0, hb, hb', hk]
  · have hb' : ¬ b ≤ 3 := fun q => hb (four_three.mpr q)
    simp [m_L_part, m_O_part, xm_O_part, m_O_isField, m_D_keyIsFull, m_D_addPart, m_M_part, m_M_part_19, m_M_part_38, m_M_part_43, m_M_thrown, bH, bI, bP, isB, w1, iniX, ini_X, iniM, ini_M, ha0, ha, ha', hb0, hb, hb', hin1, hin2, hk]
theorem k5_2 (hk : ∀ σ μ f, k σ μ f 1 = some ()) : m_case_2 20 xs 5 k (iniX v) (iniM v) (fun _ => 0) 1 = some () := by
  obtain ⟨σ', h1⟩ := so_ok 15 (iniX v) rfl rfl (rm4_pos v)
  obtain ⟨μ', h2, h3⟩ := ms_ok 15 (iniM v) rfl rfl
  have e1 : m_L_start 20 (iniX v) (fun _ => 0) = some (0, σ', fun _ => 0) := by rw [m_L_start, h1]
  have e3 : m_M_thrown 20 μ' = some (0, μ') := by rw [m_M_thrown, h3]
  simp [m_case_2, e1, bH, h2, bV, e3, bI, hk]
theorem k5_3 (hk : ∀ σ μ f, k σ μ f 1 = some ()) : m_case_3 20 xs 5 k (iniX v) (iniM v) (fun _ => 0) 1 = some () := by
  obtain ⟨σ', h1⟩ := oc_ok 15 (w1 (w1 (w1 (w1 (iniX v) 1 0 0) 1 1 0) 2 1 0) 2 2 0) 0
  obtain ⟨τ, h2, -, -⟩ := rs_ok 15 (w1 (iniM v) 0 0 0)
  obtain ⟨μ', h3⟩ := mc_ok 15 (w1 (w1 (w1 (w1 (w1 (w1 (w1 τ 0 2 0) 0 3 0) 0 4 0) 0 5 1) 0 6 (-1)) 0 7 0) 0 8 0) 0
  have e1 : m_O_clear 20 (iniX v) = some (0, σ') := h1
  have e2 : m_M_clear 20 (iniM v) = some (0, μ') := by
    rw [m_M_clear, h2]
    exact h3
  simp [m_case_3, e1, e2, bI, hk]
theorem k5_4 (hk : ∀ σ μ f, k σ μ f 1 = some ()) : m_case_4 20 xs 5 k (iniX v) (iniM v) (fun _ => 0) 1 = some () := by
  simp only [m_case_4]
  rw [if_pos (by decide)]
  generalize xs (1 + 1 : Int32).toNatClampNeg = a
  have hin1 : inb 2 5 = true := by decide
  by_cases ha0 : a < 1
  · simp [m_L_step, m_O_step, xm_O_step, m_M_step, m_M_step_13, m_M_step_31, m_M_step_36, m_M_thrown, bH, bI, w1, iniX, ini_X, iniM, ini_M, ha0, hin1, hk]
  by_cases ha : a ≤ 300
  · simp [m_L_step, m_O_step, xm_O_step, m_M_step, m_M_step_13, m_M_step_31, m_M_step_36, m_M_thrown, bH, bI, w1, iniX, ini_X, iniM, ini_M, ha0, ha, hin1, hk]
  · simp [m_L_step, m_O_step, xm_O_step, m_M_step, m_M_step_13, m_M_step_31, m_M_step_36, m_M_thrown, bH, bI, w1, iniX, ini_X, iniM, ini_M, ha0, ha, hin1, hk]
theorem k5_5 (hk : ∀ σ μ f, k σ μ f 1 = some ()) : m_case_5 20 xs 5 k (iniX v) (iniM v) (fun _ => 0) 1 = some () := by
  simp only [m_case_5]
  rw [if_pos (by decide), if_pos (by decide)]
  generalize xs (1 + 1 : Int32).toNatClampNeg = a
  generalize xs (1 + 2 : Int32).toNatClampNeg = b
  have hin1 : inb 2 5 = true := by decide
  have hin2 : inb 3 5 = true := by decide
  by_cases ha0 : a < 0
  · simp [m_L_fault, m_O_fault, xm_O_fault, m_O_isTape, m_T_replaceFaults, m_M_fault, m_M_fault_18, m_M_fault_23, m_M_isTape, m_M_thrown, bH, bI, bP, isB, w1, iniX, ini_X, iniM, ini_M, ha0, hin1, hin2, hk]
  by_cases ha : 4 ≤ a
  · simp [m_L_fault, m_O_fault, xm_O_fault, m_O_isTape, m_T_replaceFaults, m_M_fault, m_M_fault_18, m_M_fault_23, m_M_isTape, m_M_thrown, bH, bI, bP, isB, w1, iniX, ini_X, iniM, ini_M, ha0, ha, hin1, hin2, hk]
  have hb4 := inb_of (n := 4) ha0 ha (by decide)
  by_cases hb0 : b < 0
  · simp [m_L_fault, m_O_fault, xm_O_fault, m_O_isTape, m_T_replaceFaults, m_M_fault, m_M_fault_18, m_M_fault_23, m_M_isTape, m_M_thrown, bH, bI, bP, isB, w1, iniX, ini_X, iniM, ini_M, ha0, ha, hb0, hb4, hin1, hin2, hk]
  by_cases hb : b ≤ 20
  · simp [m_L_fault, m_O_fault, xm_O_fault, m_O_isTape, m_T_replaceFaults, m_M_fault, m_M_fault_18, m_M_fault_23, m_M_isTape, m_M_thrown, bH, bI, bP, isB, w3_sc, w1, lg_cmp, vp_updL, iniX, iT, iniM, ini_M, ha0, ha, hb0, hb, hb4, hin1, hin2, hk]
  · simp [m_L_fault, m_O_fault, xm_O_fault, m_O_isTape, m_T_replaceFaults, m_M_fault, m_M_fault_18, m_M_fault_23, m_M_isTape, m_M_thrown, bH, bI, bP, isB, w1, iniX, ini_X, iniM, ini_M, ha0, ha, hb0, hb, hb4, hin1, hin2, hk]
theorem k5_6 (hk : ∀ σ μ f, k σ μ f 1 = some ()) : m_case_6 20 xs 5 k (iniX v) (iniM v) (fun _ => 0) 1 = some () := by
  simp only [m_case_6]
  rw [if_pos (by decide)]
  generalize xs (1 + 1 : Int32).toNatClampNeg = a
  have hin1 : inb 2 5 = true := by decide
  by_cases ha0 : a < 0
  · simp [m_O_cutAfter, m_M_cutAfter, bI, ha0, hin1, hk]
  by_cases ha : 1000 < a
  · simp [m_O_cutAfter, m_M_cutAfter, bI, ha0, ha, hin1, hk]
  · simp [m_O_cutAfter, m_M_cutAfter, m_V_hasPower, m_V_planCut, bI, bV, isB, w1, iniX, ini_X, iniM, ini_M, ha0, ha, hin1, hk]
theorem k5_7 (hk : ∀ σ μ f, k σ μ f 1 = some ()) : m_case_7 20 xs 5 k (iniX v) (iniM v) (fun _ => 0) 1 = some () := by
  simp [m_case_7, m_O_resume, m_V_hasPower, m_V_switchOn, m_M_resume, bI, bV, iniX, ini_X, iniM, ini_M, inb, isB, w1, w2, w3, upd, hk]
theorem k5_8 (hk : ∀ σ μ f, k σ μ f 1 = some ()) : m_case_8 20 xs 5 k (iniX v) (iniM v) (fun _ => 0) 1 = some () := by
  simp [m_case_8, m_O_phase, m_V_hasPower, m_M_phase, bI, bV, iniX, ini_X, iniM, ini_M, inb, isB, w1, w2, w3, upd, hk]
theorem k5_9 (hk : ∀ σ μ f, k σ μ f 1 = some ()) : m_case_9 20 xs 5 k (iniX v) (iniM v) (fun _ => 0) 1 = some () := by
  simp [m_case_9, m_O_level, m_P_height, m_D_cardCount, m_M_level, bI, bV, iniX, ini_X, iniM, ini_M, inb, isB, w1, w2, w3, upd, hk]
theorem k5_16 (hk : ∀ σ μ f, k σ μ f 1 = some ()) : m_case_16 20 xs 5 k (iniX v) (iniM v) (fun _ => 0) 1 = some () := by
  simp [m_case_16, m_O_written, m_V_total, m_M_written, bI, bV, iniX, ini_X, iniM, ini_M, inb, isB, w1, w2, w3, upd, hk]
theorem k5_17 (hk : ∀ σ μ f, k σ μ f 1 = some ()) : m_case_17 20 xs 5 k (iniX v) (iniM v) (fun _ => 0) 1 = some () := by
  simp [m_case_17, m_O_broken, m_M_broken, bI, bV, iniX, ini_X, iniM, ini_M, inb, isB, w1, w2, w3, upd, hk]
theorem k5_10 (hk : ∀ σ μ f, k σ μ f 1 = some ()) : m_case_10 20 xs 5 k (iniX v) (iniM v) (fun _ => 0) 1 = some () := by
  simp only [m_case_10]
  rw [if_pos (by decide)]
  generalize xs (1 + 1 : Int32).toNatClampNeg = a
  have hin1 : inb 2 5 = true := by decide
  by_cases h0 : a < 0
  · simp [m_O_runs, m_O_isTape, m_M_runs, m_M_isTape, bI, bP, h0, hin1, hk, w1, isB]
  by_cases h4 : 4 ≤ a
  · simp [m_O_runs, m_O_isTape, m_M_runs, m_M_isTape, bI, bP, h0, h4, hin1, hk, w1, isB]
  · have hb := inb_of (n := 4) h0 h4 (by decide)
    simp [m_O_runs, m_O_isTape, m_M_runs, m_M_isTape, m_T_runCount, bI, bP, h0, h4, hb, hin1, hk, iniX, iT, iniM, ini_M, w1, isB]
theorem k5_11 (hk : ∀ σ μ f, k σ μ f 1 = some ()) : m_case_11 20 xs 5 k (iniX v) (iniM v) (fun _ => 0) 1 = some () := by
  simp only [m_case_11]
  rw [if_pos (by decide)]
  generalize xs (1 + 1 : Int32).toNatClampNeg = a
  have hin1 : inb 2 5 = true := by decide
  by_cases h0 : a < 0
  · simp [m_O_dummies, m_O_isTape, m_M_dummies, m_M_isTape, bI, bP, h0, hin1, hk, w1, isB]
  by_cases h4 : 4 ≤ a
  · simp [m_O_dummies, m_O_isTape, m_M_dummies, m_M_isTape, bI, bP, h0, h4, hin1, hk, w1, isB]
  · have hb := inb_of (n := 4) h0 h4 (by decide)
    simp [m_O_dummies, m_O_isTape, m_M_dummies, m_M_isTape, m_T_dummyCount, bI, bP, h0, h4, hb, hin1, hk, iniX, iT, iniM, ini_M, w1, isB]
theorem k5_12 (hk : ∀ σ μ f, k σ μ f 1 = some ()) : m_case_12 20 xs 5 k (iniX v) (iniM v) (fun _ => 0) 1 = some () := by
  simp only [m_case_12]
  rw [if_pos (by decide)]
  have hin1 : inb 2 5 = true := by decide
  simp [m_O_role, m_M_role, m_M_role_9, bI, inb, iniX, ini_X, iniM, ini_M, w1, hk]
theorem k5_13 (hk : ∀ σ μ f, k σ μ f 1 = some ()) : m_case_13 20 xs 5 k (iniX v) (iniM v) (fun _ => 0) 1 = some () := by
  simp only [m_case_13]
  rw [if_pos (by decide), if_pos (by decide)]
  generalize xs (1 + 1 : Int32).toNatClampNeg = a
  generalize xs (1 + 2 : Int32).toNatClampNeg = b
  have hin1 : inb 2 5 = true := by decide
  have hin2 : inb 3 5 = true := by decide
  by_cases h0 : a < 0
  · simp [m_O_length, m_O_isTape, m_M_length, m_M_isTape, m_T_runLength, bI, bP, isB, w1, hin1, hin2, hk, h0]
  by_cases h4 : 4 ≤ a
  · simp [m_O_length, m_O_isTape, m_M_length, m_M_isTape, m_T_runLength, bI, bP, isB, w1, hin1, hin2, hk, h0, h4]
  have hb := inb_of (n := 4) h0 h4 (by decide)
  by_cases hr : b < 0
  · simp [m_O_length, m_O_isTape, m_M_length, m_M_isTape, m_T_runLength, bI, bP, isB, w1, hin1, hin2, hk, h0, h4, hb, hr, iniX, iT, iniM, ini_M]
  · have hr' : 0 ≤ b := Int32.not_lt.mp hr
    simp [m_O_length, m_O_isTape, m_M_length, m_M_isTape, m_T_runLength, bI, bP, isB, w1, hin1, hin2, hk, h0, h4, hb, hr, hr', iniX, iT, iniM, ini_M]
theorem k5_14 (hk : ∀ σ μ f, k σ μ f 1 = some ()) : m_case_14 20 xs 5 k (iniX v) (iniM v) (fun _ => 0) 1 = some () := by
  simp only [m_case_14]
  rw [if_pos (by decide), if_pos (by decide), if_pos (by decide)]
  generalize xs (1 + 1 : Int32).toNatClampNeg = a
  generalize xs (1 + 2 : Int32).toNatClampNeg = b
  generalize xs (1 + 3 : Int32).toNatClampNeg = c
  have hin1 : inb 2 5 = true := by decide
  have hin2 : inb 3 5 = true := by decide
  have hin3 : inb 4 5 = true := by decide
  by_cases h0 : a < 0
  · simp [m_O_at, m_O_isTape, m_M_at, m_M_isTape, m_T_cardOfRun, m_T_runLength, bI, bP, isB, w1, hin1, hin2, hin3, hk, h0]
  by_cases h4 : 4 ≤ a
  · simp [m_O_at, m_O_isTape, m_M_at, m_M_isTape, m_T_cardOfRun, m_T_runLength, bI, bP, isB, w1, hin1, hin2, hin3, hk, h0, h4]
  have hb := inb_of (n := 4) h0 h4 (by decide)
  by_cases hr : b < 0
  · by_cases hc : c < 0
    · simp [m_O_at, m_O_isTape, m_M_at, m_M_isTape, m_T_cardOfRun, m_T_runLength, bI, bP, isB, w1, hin1, hin2, hin3, hk, h0, h4, hb, hr, hc, iniX, iT, iniM, ini_M]
    · have hc' : -1 ≤ c := Int32.le_trans (by decide) (Int32.not_lt.mp hc)
      have hc2 : ¬ c < -1 := Int32.not_lt.mpr hc'
      simp [m_O_at, m_O_isTape, m_M_at, m_M_isTape, m_T_cardOfRun, m_T_runLength, bI, bP, isB, w1, hin1, hin2, hin3, hk, h0, h4, hb, hr, hc, hc', hc2, iniX, iT, iniM, ini_M]
  · have hr' : 0 ≤ b := Int32.not_lt.mp hr
    by_cases hc : c < 0
    · simp [m_O_at, m_O_isTape, m_M_at, m_M_isTape, m_T_cardOfRun, m_T_runLength, bI, bP, isB, w1, hin1, hin2, hin3, hk, h0, h4, hb, hr, hr', hc, iniX, iT, iniM, ini_M]
    · have hc' : -1 ≤ c := Int32.le_trans (by decide) (Int32.not_lt.mp hc)
      have hc2 : ¬ c < -1 := Int32.not_lt.mpr hc'
      simp [m_O_at, m_O_isTape, m_M_at, m_M_isTape, m_T_cardOfRun, m_T_runLength, bI, bP, isB, w1, hin1, hin2, hin3, hk, h0, h4, hb, hr, hr', hc, hc', hc2, iniX, iT, iniM, ini_M]
theorem k5_15 (hk : ∀ σ μ f, k σ μ f 1 = some ()) : m_case_15 20 xs 5 k (iniX v) (iniM v) (fun _ => 0) 1 = some () := by
  simp only [m_case_15]
  rw [if_pos (by decide)]
  have hin1 : inb 2 5 = true := by decide
  simp [m_O_memory, m_S_holds, m_S_holds_2, m_M_memory, m_M_memory_9, bI, isB, iniX, ini_X, iniM, ini_M, w1, hin1, hk]
theorem k5_18 (hk : ∀ σ μ f, k σ μ f 1 = some ()) : m_case_18 20 xs 5 k (iniX v) (iniM v) (fun _ => 0) 1 = some () := by
  simp only [m_case_18]
  rw [if_pos (by decide)]
  have hin1 : inb 2 5 = true := by decide
  simp [m_O_sorted, m_M_sorted, bI, iniX, ini_X, iniM, ini_M, w1, hin1, hk]
theorem k5_19 (hk : ∀ σ μ f, k σ μ f 1 = some ()) : m_case_19 20 xs 5 k (iniX v) (iniM v) (fun _ => 0) 1 = some () := by
  simp only [m_case_19]
  rw [if_pos (by decide), if_pos (by decide)]
  generalize xs (1 + 1 : Int32).toNatClampNeg = a
  generalize xs (1 + 2 : Int32).toNatClampNeg = b
  have hin1 : inb 2 5 = true := by decide
  have hin2 : inb 3 5 = true := by decide
  by_cases h0 : a < 0
  · by_cases e : a = b
    · simp [m_O_compare, m_D_hasCard, m_M_compare, m_M_isCard, bI, isB, iniX, ini_X, iniM, ini_M, w1, hin1, hin2, hk, h0, e]
      subst e
      simp [h0, hk]
    · simp [m_O_compare, m_D_hasCard, m_M_compare, m_M_isCard, bI, isB, iniX, ini_X, iniM, ini_M, w1, hin1, hin2, hk, h0, e]
  · have h0' : 0 ≤ a := Int32.not_lt.mp h0
    by_cases e : a = b
    · simp [m_O_compare, m_D_hasCard, m_M_compare, m_M_isCard, bI, isB, iniX, ini_X, iniM, ini_M, w1, hin1, hin2, hk, h0, h0', e]
      subst e
      simp [h0, h0', hk]
    · simp [m_O_compare, m_D_hasCard, m_M_compare, m_M_isCard, bI, isB, iniX, ini_X, iniM, ini_M, w1, hin1, hin2, hk, h0, h0', e]
theorem k5_20 (hk : ∀ σ μ f, k σ μ f 1 = some ()) : m_case_20 20 xs 5 k (iniX v) (iniM v) (fun _ => 0) 1 = some () := by
  simp only [m_case_20]
  rw [if_pos (by decide), if_pos (by decide)]
  generalize xs (1 + 1 : Int32).toNatClampNeg = a
  generalize xs (1 + 2 : Int32).toNatClampNeg = b
  have hin1 : inb 2 5 = true := by decide
  have hin2 : inb 3 5 = true := by decide
  by_cases h0 : a < 0
  · simp [m_O_field, m_D_value, m_D_hasCard, m_M_field, m_M_isCard, bI, bP, isB, iniX, ini_X, iniM, ini_M, w1, hin1, hin2, hk, h0]
  · have h0' : 0 ≤ a := Int32.not_lt.mp h0
    simp [m_O_field, m_D_value, m_D_hasCard, m_M_field, m_M_isCard, bI, bP, isB, iniX, ini_X, iniM, ini_M, w1, hin1, hin2, hk, h0, h0']
theorem k5_default (hk : ∀ σ μ f, k σ μ f 1 = some ()) : m_case_default 20 xs 5 k (iniX v) (iniM v) (fun _ => 0) 1 = some () := by
  simp [m_case_default, hk]
end Cases5
