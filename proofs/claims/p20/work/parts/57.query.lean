/-! Layer B: what a tape answers. -/
theorem ta_w0 {σ μ : SX} {t rn cn c : Nat} {ls : Nat → Nat} {v : Int32} (h : TaR σ μ t rn cn c ls) : TaR σ (w1 μ 0 0 v) t rn cn c ls := by simp only [TaR, w1_s, w1_a, w2_s, w2_a, w3_s, w3_a, tn, nt, tt, true_and, and_true, false_and, and_false, and_self, if_true, if_false, Nat.reduceEqDiff, reduceIte, Nat.reduceAdd]; exact h
theorem corX_l {N : Nat} {σ μ : SX} {t rn cn c : Nat} {ls : Nat → Nat} (h : TaR σ μ t rn cn c ls) {r i : Nat} (hr : r < rn) (hi : i < ls r) : ∀ (n k : Nat), k ≤ r → r - k < n →
    m_T_cardOfRun_20 N t n σ (n32 r) (n32 i) (n32 (sm ls k)) (n32 k) = some ((σ (7 + t)).2 1 (sm ls r + i), σ) := by
  have h1 := tap_rn h
  have h2 := tap_sm h (k := r + 1) hr
  rw [sm] at h2
  obtain ⟨⟨a1, a2⟩, ⟨a3, a4⟩, a5, a6, a7⟩ := id h
  intro n
  induction n with
  | zero => intro k _ _; omega
  | succ n ih =>
    intro k g1 g2
    have h3 := tap_sm h (k := k) (by omega)
    rw [m_T_cardOfRun_20]
    simp (disch := omega) only [l0, l1, l2, l3, l4, l8, l20, l150, l300, l1000, ↓lm1, n32_lt, n32_le, n32_eq, n32_inb, n32_cl, n32_add, mi_lt, mi_le, n_le_mi, n_eq_mi, mi_eq_n]
    by_cases e : r ≤ k
    · rw [if_pos e, show k = r by omega, if_pos (by omega)]
    · rw [if_neg e, if_pos (by omega), (a5 k (by omega)).1, n32_add]
      exact ih (k + 1) (by omega) (by omega)
theorem corX {N : Nat} {σ μ : SX} {t rn cn c : Nat} {ls : Nat → Nat} (hN : 200 ≤ N) (h : TaR σ μ t rn cn c ls) {r i : Nat} (hr : r < rn) (hi : i < ls r) : m_T_cardOfRun N σ t (n32 r) (n32 i) = some ((σ (7 + t)).2 1 (sm ls r + i), σ) := by
  have h1 := tap_rn h
  have h2 := tap_sm h (k := r + 1) hr
  rw [sm] at h2
  obtain ⟨⟨a1, a2⟩, ⟨a3, a4⟩, a5, a6, a7⟩ := id h
  have e : m_T_runLength N σ t (n32 r) = some (n32 (ls r), σ) := by
    rw [m_T_runLength, a1]
    simp (disch := omega) only [l0, l1, l2, l3, l4, l8, l20, l150, l300, l1000, ↓lm1, n32_lt, n32_le, n32_eq, n32_inb, n32_cl, n32_add, mi_lt, mi_le, n_le_mi, n_eq_mi, mi_eq_n]
    rw [if_neg (by omega), if_neg (by omega), if_pos (by omega), (a5 r hr).1]
  rw [m_T_cardOfRun, e, bI_s, if_neg (nlt0 (by omega)), if_pos (by rw [n32_lt (by omega) (by omega)]; exact hi)]
  exact corX_l h hr hi N 0 (by omega) (by omega)
theorem atM_l {N : Nat} {σ μ : SX} {t rn cn c : Nat} {ls : Nat → Nat} (h : TaR σ μ t rn cn c ls) (ht : t < 4) {r i : Nat} (hr : r < rn) (hi : i < ls r) : ∀ (n k : Nat), k ≤ r → r - k < n →
    m_M_at_58 N n μ (n32 t) (n32 r) (n32 i) (n32 (150 * t + sm ls k)) (n32 k) = some ((μ 0).2 8 (150 * t + (sm ls r + i)), μ) := by
  have h1 := tap_rn h
  have h2 := tap_sm h (k := r + 1) hr
  rw [sm] at h2
  obtain ⟨⟨a1, a2⟩, ⟨a3, a4⟩, a5, a6, a7⟩ := id h
  intro n
  induction n with
  | zero => intro k _ _; omega
  | succ n ih =>
    intro k g1 g2
    have h3 := tap_sm h (k := k) (by omega)
    rw [m_M_at_58]
    simp (disch := omega) only [l0, l1, l2, l3, l4, l8, l20, l150, l300, l1000, ↓lm1, n32_lt, n32_le, n32_eq, n32_inb, n32_cl, n32_add, mi_lt, mi_le, n_le_mi, n_eq_mi, mi_eq_n, n32_mul]
    by_cases e : r ≤ k
    · rw [if_pos e, show k = r by omega, if_pos (by omega), Nat.add_assoc]
    · rw [if_neg e, if_pos (by omega), (a5 k (by omega)).2.1, n32_add, Nat.add_assoc]
      exact ih (k + 1) (by omega) (by omega)
theorem isT {a : Int32} : (m_O_isTape a = some (n32 0) ∧ m_M_isTape a = some (n32 0)) ∨ ∃ t, t < 4 ∧ a = n32 t ∧ m_O_isTape a = some (n32 1) ∧ m_M_isTape a = some (n32 1) := by
  rw [m_O_isTape, m_M_isTape]
  by_cases h : a < 0
  · rw [if_pos h]; exact Or.inl ⟨rfl, rfl⟩
  · obtain ⟨n, hn, rfl⟩ := ge0 h
    simp (disch := omega) only [l0, l1, l2, l3, l4, l8, l20, l150, l300, l1000, ↓lm1, n32_lt, n32_le, n32_eq, n32_inb, n32_cl, n32_add, mi_lt, mi_le, n_le_mi, n_eq_mi, mi_eq_n]
    rw [if_neg (by omega)]
    by_cases e : 4 ≤ n
    · rw [if_pos e]; exact Or.inl ⟨rfl, rfl⟩
    · rw [if_neg e]; exact Or.inr ⟨n, by omega, rfl, rfl, rfl⟩
theorem isTn {t : Nat} (ht : t < 4) : m_O_isTape (n32 t) = some (n32 1) ∧ m_M_isTape (n32 t) = some (n32 1) := by
  rw [m_O_isTape, m_M_isTape]
  simp (disch := omega) only [l0, l1, l2, l3, l4, l8, l20, l150, l300, l1000, ↓lm1, n32_lt, n32_le, n32_eq, n32_inb, n32_cl, n32_add, mi_lt, mi_le, n_le_mi, n_eq_mi, mi_eq_n]
  rw [if_neg (by omega), if_neg (by omega)]; exact ⟨rfl, rfl⟩
/-- a run's length -/
theorem len_eq {N : Nat} {σ μ : SX} {t rn cn c : Nat} {ls : Nat → Nat} {a : Int32} (h : TaR σ μ t rn cn c ls) (ht : t < 4) : ∃ x, m_T_runLength N σ t a = some (x, σ) ∧ m_M_length N μ (n32 t) a = some (x, w1 μ 0 0 (n32 0)) := by
  have h1 := tap_rn h
  obtain ⟨⟨a1, a2⟩, ⟨a3, a4⟩, a5, a6, a7⟩ := id h
  rw [m_T_runLength, m_M_length, (isTn ht).2, bP_s, a1]
  simp only [w1_s, w1_a, w2_s, w2_a, w3_s, w3_a, tn, nt, tt, true_and, and_true, false_and, and_false, and_self, if_true, if_false, Nat.reduceEqDiff, reduceIte, Nat.reduceAdd]
  simp (disch := omega) only [l0, l1, n32_eq, n32_inb, n32_cl, a2]
  rw [if_neg (show ¬ 1 = 0 by omega)]
  by_cases e : a < n32 0
  · rw [if_pos e, if_pos e]; exact ⟨_, rfl, rfl⟩
  · obtain ⟨r, hr, rfl⟩ := ge0 e
    rw [if_neg e, if_neg e, if_pos ht]
    simp (disch := omega) only [l0, l1, l2, l3, l4, l8, l20, l150, l300, l1000, ↓lm1, n32_lt, n32_le, n32_eq, n32_inb, n32_cl, n32_add, mi_lt, mi_le, n_le_mi, n_eq_mi, mi_eq_n]
    by_cases e2 : rn ≤ r
    · rw [if_pos e2, if_pos e2]; exact ⟨_, rfl, rfl⟩
    · rw [if_neg e2, if_neg e2, if_pos (by omega)]
      simp (disch := omega) only [n32_mul, n32_add, n32_inb, n32_cl]
      rw [if_pos (by omega), (a5 r (by omega)).1, (a5 r (by omega)).2.1]
      exact ⟨_, rfl, rfl⟩
/-- a run's card -/
theorem at_eq {N : Nat} {σ μ : SX} {t rn cn c : Nat} {ls : Nat → Nat} {a b : Int32} (hN : 200 ≤ N) (h : TaR σ μ t rn cn c ls) (ht : t < 4) : ∃ x, m_T_cardOfRun N σ t a b = some (x, σ) ∧ m_M_at N μ (n32 t) a b = some (x, w1 μ 0 0 (n32 0)) := by
  have h1 := tap_rn h
  have h' := ta_w0 (v := n32 0) h
  obtain ⟨⟨a1, a2⟩, ⟨a3, a4⟩, a5, a6, a7⟩ := id h
  rw [m_T_cardOfRun, m_T_runLength, m_M_at, (isTn ht).2, bP_s, a1]
  simp only [w1_s, w1_a, w2_s, w2_a, w3_s, w3_a, tn, nt, tt, true_and, and_true, false_and, and_false, and_self, if_true, if_false, Nat.reduceEqDiff, reduceIte, Nat.reduceAdd]
  simp (disch := omega) only [l0, l1, ↓lm1, n32_eq, n32_inb, n32_cl, a2]
  rw [if_neg (show ¬ 1 = 0 by omega)]
  by_cases e : a < n32 0
  · rw [if_pos e, if_pos e, bI_s]
    by_cases e2 : b < n32 0
    · rw [if_pos e2]; exact ⟨_, rfl, rfl⟩
    · rw [if_neg e2]
      obtain ⟨i, hi, rfl⟩ := ge0 e2
      rw [if_neg]
      · exact ⟨_, rfl, rfl⟩
      · rw [Int32.lt_iff_toInt_lt, mi_ti, n32_ti hi]; omega
  · obtain ⟨r, hr, rfl⟩ := ge0 e
    rw [if_neg e, if_neg e, if_pos ht]
    simp (disch := omega) only [n32_le]
    by_cases e2 : rn ≤ r
    · rw [if_pos e2, if_pos e2, bI_s]
      by_cases e3 : b < n32 0
      · rw [if_pos e3]; exact ⟨_, rfl, rfl⟩
      · rw [if_neg e3]
        obtain ⟨i, hi, rfl⟩ := ge0 e3
        rw [if_neg]
        · exact ⟨_, rfl, rfl⟩
        · rw [Int32.lt_iff_toInt_lt, mi_ti, n32_ti hi]; omega
    · rw [if_neg e2, if_neg e2, if_pos (inbn (n := 150) (show r < 2147483648 by omega) (by omega)), bI_s]
      have hrr : r < rn := by omega
      have h2 := tap_sm h (k := r + 1) hrr
      rw [sm] at h2
      by_cases e3 : b < n32 0
      · rw [if_pos e3, if_pos e3]; exact ⟨_, rfl, rfl⟩
      · rw [if_neg e3, if_neg e3]
        obtain ⟨i, hi, rfl⟩ := ge0 e3
        simp (disch := omega) only [l150, n32_mul, n32_add, n32_inb, n32_cl]
        rw [if_pos (show 150 * t + r < 600 by omega), (a5 r hrr).1, (a5 r hrr).2.1]
        simp (disch := omega) only [n32_lt]
        by_cases e4 : i < ls r
        · rw [if_pos e4, if_pos e4]
          have x1 := corX_l (N := N) h hrr e4 N 0 (by omega) (by omega)
          have x2 := atM_l (N := N) h' ht hrr e4 N 0 (by omega) (by omega)
          rw [sm, Nat.add_zero] at x2
          rw [sm] at x1
          rw [x1, x2, (a7 (sm ls r + i) (by omega)).1]
          refine ⟨_, rfl, ?_⟩
          simp only [w1_s, w1_a, w2_s, w2_a, w3_s, w3_a, tn, nt, tt, true_and, and_true, false_and, and_false, and_self, if_true, if_false, Nat.reduceEqDiff, reduceIte, Nat.reduceAdd]
        · rw [if_neg e4, if_neg e4]; exact ⟨_, rfl, rfl⟩
