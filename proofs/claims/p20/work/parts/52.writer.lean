/-! Layer B: the writer, the row. -/
def WrR (w : SS) (pw cut wr : Int32) : Prop := w.1 0 = wr ∧ w.1 1 = pw ∧ (pw = n32 0 ∨ pw = n32 1) ∧ ((w.1 2 = n32 0 ∧ cut = mi) ∨ (∃ n, n ≤ 1000 ∧ w.1 2 = n32 1 ∧ w.1 3 = n32 n ∧ cut = n32 n))
abbrev WR (σ μ : SX) : Prop := WrR (σ 5) ((μ 0).1 5) ((μ 0).1 6) ((μ 0).1 7)
abbrev wrM (μ : SX) (s0 : Int32) (k : Nat) (v : Int32) : SX := w1 (w3 (w1 (w1 μ 0 6 s0) 0 7 ((μ 0).1 7 + n32 1)) 0 15 (n32 k) v) 0 16 (n32 (k + 1))
theorem write_eq {N : Nat} {σ μ : SX} {k : Nat} {v : Int32} (h : WR σ μ) (hc : (μ 0).1 16 = n32 k) (hk : k < 150) : ∃ σ' μ', frX [5] σ σ' ∧ WR σ' μ' ∧
    ((m_V_writeCard N σ = some (n32 0, σ') ∧ m_M_write N μ v = some (n32 0, μ') ∧ frM [5, 6] [] μ μ') ∨
     (m_V_writeCard N σ = some (n32 1, σ') ∧ m_M_write N μ v = some (n32 1, μ') ∧ frM [6, 7, 16] [15] μ μ' ∧ (μ' 0).1 16 = n32 (k + 1) ∧ (μ' 0).2 15 = upd ((μ 0).2 15) k v)) := by
  obtain ⟨h1, h2, h3, h4⟩ := h
  have go : ∀ s0 : Int32, m_M_write_40 N μ v s0 = some (n32 1, wrM μ s0 k v) := fun s0 => by
    rw [m_M_write_40]
    simp (disch := omega) only [l0, l1, l2, l3, l4, l8, l20, l150, l300, l1000, ↓lm1, n32_lt, n32_le, n32_eq, n32_inb, n32_cl, n32_add, mi_lt, mi_le, n_le_mi, n_eq_mi, mi_eq_n, w1_s, w1_a, w2_s, w2_a, w3_s, w3_a, tn, nt, tt, true_and, and_true, false_and, and_false, and_self, if_true, if_false, Nat.reduceEqDiff, reduceIte, Nat.reduceAdd, hc]
    rw [if_pos hk]
  rcases h4 with ⟨h5, h6⟩ | ⟨n, hn, h5, h6, h7⟩
  · refine ⟨w1 σ 5 0 ((σ 5).1 0 + n32 1), wrM μ mi k v, frX.w1 (by decide), ?_, Or.inr ⟨?_, ?_, ?_, ?_, ?_⟩⟩
    rotate_left
    · rw [m_V_writeCard, m_V_writeCard_26, m_V_writeCard_43, h5]; rfl
    · rw [m_M_write, h6]
      simp (disch := omega) only [l0, l1, l2, l3, l4, l8, l20, l150, l300, l1000, ↓lm1, n32_lt, n32_le, n32_eq, n32_inb, n32_cl, n32_add, mi_lt, mi_le, n_le_mi, n_eq_mi, mi_eq_n, if_true, if_false]
      exact go mi
    · exact ((((frM.w1 (by decide)).tr (frM.w1 (by decide))).tr (frM.w3 (by decide))).tr (frM.w1 (by decide)))
    · simp only [w1_s, w1_a, w2_s, w2_a, w3_s, w3_a, tn, nt, tt, true_and, and_true, false_and, and_false, and_self, if_true, if_false, Nat.reduceEqDiff, reduceIte, Nat.reduceAdd]
    · simp only [w1_s, w1_a, w2_s, w2_a, w3_s, w3_a, tn, nt, tt, true_and, and_true, false_and, and_false, and_self, if_true, if_false, Nat.reduceEqDiff, reduceIte, Nat.reduceAdd, n32_cl (show k < 2147483648 by omega)]
    · unfold WR WrR
      simp only [w1_s, w1_a, w2_s, w2_a, w3_s, w3_a, tn, nt, tt, true_and, and_true, false_and, and_false, and_self, if_true, if_false, Nat.reduceEqDiff, reduceIte, Nat.reduceAdd, h1, h2, h3, h5]
      simp
  · by_cases e : n = 0
    · subst e
      refine ⟨w1 (w1 σ 5 2 (n32 0)) 5 1 (n32 0), w1 (w1 μ 0 5 (n32 0)) 0 6 mi, (frX.w1 (by decide)).tr (frX.w1 (by decide)), ?_, Or.inl ⟨?_, ?_, ?_⟩⟩
      · unfold WR WrR
        simp only [w1_s, w1_a, w2_s, w2_a, w3_s, w3_a, tn, nt, tt, true_and, and_true, false_and, and_false, and_self, if_true, if_false, Nat.reduceEqDiff, reduceIte, Nat.reduceAdd, h1]
        simp
      · rw [m_V_writeCard, h5, h6]
        simp (disch := omega) only [l0, l1, l2, l3, l4, l8, l20, l150, l300, l1000, ↓lm1, n32_lt, n32_le, n32_eq, n32_inb, n32_cl, n32_add, mi_lt, mi_le, n_le_mi, n_eq_mi, mi_eq_n, if_true, if_false]
        rfl
      · rw [m_M_write, h7]
        simp (disch := omega) only [l0, l1, l2, l3, l4, l8, l20, l150, l300, l1000, ↓lm1, n32_lt, n32_le, n32_eq, n32_inb, n32_cl, n32_add, mi_lt, mi_le, n_le_mi, n_eq_mi, mi_eq_n, if_true, if_false]
      · exact (frM.w1 (by decide)).tr (frM.w1 (by decide))
    · refine ⟨w1 (w1 σ 5 3 (n32 (n - 1))) 5 0 ((σ 5).1 0 + n32 1), wrM μ (n32 (n - 1)) k v, (frX.w1 (by decide)).tr (frX.w1 (by decide)), ?_, Or.inr ⟨?_, ?_, ?_, ?_, ?_⟩⟩
      rotate_left
      · rw [m_V_writeCard, m_V_writeCard_26, h5, h6]
        simp (disch := omega) only [l0, l1, l2, l3, l4, l8, l20, l150, l300, l1000, ↓lm1, n32_lt, n32_le, n32_eq, n32_inb, n32_cl, n32_add, mi_lt, mi_le, n_le_mi, n_eq_mi, mi_eq_n, e, if_true, if_false, n32_sub, m_V_writeCard_43, w1_s, w1_a, w2_s, w2_a, w3_s, w3_a, tn, nt, tt, true_and, and_true, false_and, and_false, and_self, if_true, if_false, Nat.reduceEqDiff, reduceIte, Nat.reduceAdd]
      · rw [m_M_write, h7]
        simp (disch := omega) only [l0, l1, l2, l3, l4, l8, l20, l150, l300, l1000, ↓lm1, n32_lt, n32_le, n32_eq, n32_inb, n32_cl, n32_add, mi_lt, mi_le, n_le_mi, n_eq_mi, mi_eq_n, e, if_true, if_false, n32_sub]
        rw [if_neg (by omega)]
        exact go (n32 (n - 1))
      · exact ((((frM.w1 (by decide)).tr (frM.w1 (by decide))).tr (frM.w3 (by decide))).tr (frM.w1 (by decide)))
      · simp only [w1_s, w1_a, w2_s, w2_a, w3_s, w3_a, tn, nt, tt, true_and, and_true, false_and, and_false, and_self, if_true, if_false, Nat.reduceEqDiff, reduceIte, Nat.reduceAdd]
      · simp only [w1_s, w1_a, w2_s, w2_a, w3_s, w3_a, tn, nt, tt, true_and, and_true, false_and, and_false, and_self, if_true, if_false, Nat.reduceEqDiff, reduceIte, Nat.reduceAdd, n32_cl (show k < 2147483648 by omega)]
      · refine ⟨?_, ?_, ?_, Or.inr ⟨n - 1, by omega, ?_, ?_, ?_⟩⟩ <;> simp only [w1_s, w1_a, w2_s, w2_a, w3_s, w3_a, tn, nt, tt, true_and, and_true, false_and, and_false, and_self, if_true, if_false, Nat.reduceEqDiff, reduceIte, Nat.reduceAdd, h1, h2, h5]
        exact h3
/-- the row -/
def RowR (r : SS) (cnt : Int32) (run : Nat → Int32) (n c : Nat) : Prop := r.1 0 = n32 n ∧ cnt = n32 n ∧ n ≤ 150 ∧ ∀ k, k < n → r.2 1 k = run k ∧ isC c (run k)
abbrev RwR (σ μ : SX) (n c : Nat) : Prop := RowR (σ 6) ((μ 0).1 16) ((μ 0).2 15) n c
theorem radd_eq {N : Nat} {σ : SX} {n : Nat} {v : Int32} (h : (σ 6).1 0 = n32 n) (hn : n < 150) : ∃ σ', m_R_add N σ v = some σ' ∧ frX [6] σ σ' ∧ (σ' 6).1 0 = n32 (n + 1) ∧ (σ' 6).2 1 = upd ((σ 6).2 1) n v := by
  refine ⟨w1 (w3 σ 6 1 (n32 n) v) 6 0 (n32 (n + 1)), ?_, (frX.w3 (by decide)).tr (frX.w1 (by decide)), ?_, ?_⟩
  · rw [m_R_add, h]
    simp (disch := omega) only [l0, l1, l2, l3, l4, l8, l20, l150, l300, l1000, ↓lm1, n32_lt, n32_le, n32_eq, n32_inb, n32_cl, n32_add, mi_lt, mi_le, n_le_mi, n_eq_mi, mi_eq_n, w1_s, w1_a, w2_s, w2_a, w3_s, w3_a, tn, nt, tt, true_and, and_true, false_and, and_false, and_self, if_true, if_false, Nat.reduceEqDiff, reduceIte, Nat.reduceAdd, h]
    rw [if_neg (by omega), if_pos hn]
  · simp only [w1_s, w1_a, w2_s, w2_a, w3_s, w3_a, tn, nt, tt, true_and, and_true, false_and, and_false, and_self, if_true, if_false, Nat.reduceEqDiff, reduceIte, Nat.reduceAdd]
  · simp only [w1_s, w1_a, w2_s, w2_a, w3_s, w3_a, tn, nt, tt, true_and, and_true, false_and, and_false, and_self, if_true, if_false, Nat.reduceEqDiff, reduceIte, Nat.reduceAdd, n32_cl (show n < 2147483648 by omega)]
