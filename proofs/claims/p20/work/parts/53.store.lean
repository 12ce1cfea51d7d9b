/-! Layer B: the memory of both. -/
def StoR (s : SS) (h nx : Int32) (me la : Nat → Int32) (hn nn c : Nat) : Prop :=
  (s.1 1 = n32 hn ∧ h = n32 hn ∧ hn ≤ 8) ∧ (s.1 2 = n32 nn ∧ nx = n32 nn ∧ nn ≤ c) ∧ ∀ k, k < hn → s.2 1 k = me k ∧ s.2 2 k = la k ∧ isC c (me k) ∧ (la k = n32 0 ∨ la k = n32 1)
abbrev StR (σ μ : SX) (hn nn c : Nat) : Prop := StoR (σ 2) ((μ 0).1 9) ((μ 0).1 10) ((μ 0).2 5) ((μ 0).2 6) hn nn c
abbrev TrR (σ μ : SX) (hn nn c : Nat) : Prop := StoR (σ 3) ((μ 0).1 14) ((μ 0).1 15) ((μ 0).2 13) ((μ 0).2 14) hn nn c
theorem first_l {N : Nat} {σ μ : SX} {c p hn nn : Nat} (hN : 10 ≤ N) (h : DkR σ μ c p) (ht : TrR σ μ hn nn c) : ∀ (n k : Nat) (b : Int32), k ≤ hn → hn - k < n →
    ((b = mi ∧ ∀ j, j < k → (μ 0).2 14 j ≠ n32 0) ∨ ∃ j, j < hn ∧ b = n32 j) →
    ∃ b', m_S_slotOfFirst_4 N 3 n σ b (n32 k) = some (b', σ) ∧ m_M_first_4 N n μ b (n32 k) = some (b', μ) ∧ ((b' = mi ∧ ∀ j, j < hn → (μ 0).2 14 j ≠ n32 0) ∨ ∃ j, j < hn ∧ b' = n32 j) := by
  obtain ⟨⟨a1, a2, a3⟩, -, a4⟩ := ht
  intro n
  induction n with
  | zero => intro k b h1 h2; omega
  | succ n ih =>
    intro k b h1 h2 hb
    rw [m_S_slotOfFirst_4, m_M_first_4, a1, a2]
    simp (disch := omega) only [l0, l1, l2, l3, l4, l8, l20, l150, l300, l1000, ↓lm1, n32_lt, n32_le, n32_eq, n32_inb, n32_cl, n32_add, mi_lt, mi_le, n_le_mi, n_eq_mi, mi_eq_n]
    by_cases e : hn ≤ k
    · rw [if_pos e, if_pos e]
      refine ⟨b, rfl, rfl, ?_⟩
      rcases hb with ⟨q1, q2⟩ | q
      · exact Or.inl ⟨q1, fun j hj => q2 j (by omega)⟩
      · exact Or.inr q
    · have hk : k < hn := by omega
      have k8 : k < 8 := by omega
      obtain ⟨b1, b2, b3, b4⟩ := a4 k hk
      rw [if_neg e, if_neg e, if_pos k8, if_pos k8, if_pos k8, if_pos k8, b1, b2]
      have go : ∀ b', ((b' = mi ∧ ∀ j, j < k + 1 → (μ 0).2 14 j ≠ n32 0) ∨ ∃ j, j < hn ∧ b' = n32 j) → _ := fun b' hb' => ih (k + 1) b' (by omega) (by omega) hb'
      by_cases e2 : (μ 0).2 14 k = n32 0
      · rw [if_pos e2, if_pos e2]
        rcases hb with ⟨rfl, q2⟩ | ⟨j, hj, rfl⟩
        · simp (disch := omega) only [mi_lt, if_true]
          exact go (n32 k) (Or.inr ⟨k, hk, rfl⟩)
        · obtain ⟨d1, d2, d3, d4⟩ := a4 j hj
          simp (disch := omega) only [l0, l1, l2, l3, l4, l8, l20, l150, l300, l1000, ↓lm1, n32_lt, n32_le, n32_eq, n32_inb, n32_cl, n32_add, mi_lt, mi_le, n_le_mi, n_eq_mi, mi_eq_n, if_false]
          simp only [if_neg (show ¬ j < 0 by omega), if_pos (show j < 8 by omega)]
          rw [d1]
          obtain ⟨r, hr, c1, c2⟩ := cmp_eq hN h b3 d3
          rw [c1, c2, bI_s, bI_s]
          rcases hr with rfl | rfl
          · rw [if_pos rfl, if_pos rfl]; exact go (n32 j) (Or.inr ⟨j, hj, rfl⟩)
          · have ne : ¬ n32 1 = n32 0 := by decide
            rw [if_neg ne, if_neg ne]; exact go (n32 k) (Or.inr ⟨k, hk, rfl⟩)
      · rw [if_neg e2, if_neg e2]
        refine go b ?_
        rcases hb with ⟨q1, q2⟩ | q
        · refine Or.inl ⟨q1, fun j hj => ?_⟩
          by_cases ej : j = k
          · rw [ej]; exact e2
          · exact q2 j (by omega)
        · exact Or.inr q
theorem first_eq {N : Nat} {σ μ : SX} {c p hn nn : Nat} (hN : 10 ≤ N) (h : DkR σ μ c p) (ht : TrR σ μ hn nn c) :
    ∃ b, m_S_slotOfFirst N σ 3 = some (b, σ) ∧ m_M_first N μ = some (b, μ) ∧ ((b = mi ∧ ∀ j, j < hn → (μ 0).2 14 j ≠ n32 0) ∨ ∃ j, j < hn ∧ b = n32 j) := by
  have := ht.1.2.2
  exact first_l hN h ht N 0 mi (by omega) (by omega) (Or.inl ⟨rfl, fun j hj => by omega⟩)
/-- copying a store -/
theorem copy_l {N j j2 hn : Nat} (hj : j2 ≠ j) : ∀ (n k : Nat) (σ : SX), (σ j).1 1 = n32 hn → hn ≤ 8 → k ≤ hn → hn - k < n → (∀ q, q < hn → (σ j2).2 2 q = n32 0 ∨ (σ j2).2 2 q = n32 1) →
    ∃ σ', m_S_copyFrom_18 N j j2 n σ (n32 k) = some σ' ∧ frX [j] σ σ' ∧ (σ' j).1 = (σ j).1 ∧ ∀ q, q < hn → (σ' j).2 1 q = (if k ≤ q then (σ j2).2 1 q else (σ j).2 1 q) ∧ (σ' j).2 2 q = (if k ≤ q then (σ j2).2 2 q else (σ j).2 2 q) := by
  intro n
  induction n with
  | zero => intro k σ h0 h1 h2 h3; omega
  | succ n ih =>
    intro k σ h0 h1 h2 h3 h4
    rw [m_S_copyFrom_18, h0]
    simp (disch := omega) only [l0, l1, l2, l3, l4, l8, l20, l150, l300, l1000, ↓lm1, n32_lt, n32_le, n32_eq, n32_inb, n32_cl, n32_add, mi_lt, mi_le, n_le_mi, n_eq_mi, mi_eq_n]
    by_cases e : hn ≤ k
    · rw [if_pos e]
      exact ⟨σ, rfl, frX.rf, rfl, fun q hq => by rw [if_neg (by omega), if_neg (by omega)]; exact ⟨rfl, rfl⟩⟩
    · have k8 : k < 8 := by omega
      rw [if_neg e, if_pos k8, if_pos k8, if_pos k8, if_pos k8]
      have en : ∀ σ1 : SX, w3 σ j 1 (n32 k) ((σ j2).2 1 k) j2 = σ j2 := fun _ => w3_n hj
      rw [en σ, nar_b (h4 k (by omega))]
      obtain ⟨σ', r1, r2, r3, r4⟩ := ih (k + 1) (w3 (w3 σ j 1 (n32 k) ((σ j2).2 1 k)) j 2 (n32 k) ((σ j2).2 2 k)) (by rw [w3_s, w3_s]; exact h0) h1 (by omega) (by omega) (by rw [w3_n hj, w3_n hj]; exact h4)
      refine ⟨σ', r1, ((frX.w3 (by simp)).tr (frX.w3 (by simp))).tr r2, by rw [r3, w3_s, w3_s], fun q hq => ?_⟩
      obtain ⟨s1, s2⟩ := r4 q hq
      rw [w3_n hj, w3_n hj] at s1 s2
      simp (disch := omega) only [w1_s, w1_a, w2_s, w2_a, w3_s, w3_a, tn, nt, tt, true_and, and_true, false_and, and_false, and_self, if_true, if_false, Nat.reduceEqDiff, reduceIte, Nat.reduceAdd, upd_ap, n32_cl] at s1 s2
      rw [s1, s2]
      by_cases e2 : k + 1 ≤ q
      · simp only [if_pos e2, if_pos (show k ≤ q by omega), and_self]
      · by_cases e3 : q = k
        · subst e3; simp
        · simp only [if_neg e2, if_neg e3, if_neg (show ¬ k ≤ q by omega), and_self]
theorem copy_eq {N j j2 hn : Nat} {σ : SX} (hN : 10 ≤ N) (hj : j2 ≠ j) (hs : (σ j2).1 1 = n32 hn) (h8 : hn ≤ 8) (hw : ∀ q, q < hn → (σ j2).2 2 q = n32 0 ∨ (σ j2).2 2 q = n32 1) :
    ∃ σ', m_S_copyFrom N σ j j2 = some σ' ∧ frX [j] σ σ' ∧ (σ' j).1 0 = (σ j).1 0 ∧ (σ' j).1 1 = n32 hn ∧ (σ' j).1 2 = (σ j2).1 2 ∧ ∀ q, q < hn → (σ' j).2 1 q = (σ j2).2 1 q ∧ (σ' j).2 2 q = (σ j2).2 2 q := by
  rw [m_S_copyFrom, w1_n hj, hs]
  obtain ⟨σ', r1, r2, r3, r4⟩ := copy_l (N := N) hj N 0 (w1 (w1 σ j 1 (n32 hn)) j 2 ((σ j2).1 2)) (by simp only [w1_s, w1_a, w2_s, w2_a, w3_s, w3_a, tn, nt, tt, true_and, and_true, false_and, and_false, and_self, if_true, if_false, Nat.reduceEqDiff, reduceIte, Nat.reduceAdd]) h8 (by omega) (by omega) (by rw [w1_n hj, w1_n hj]; exact hw)
  refine ⟨σ', r1, ((frX.w1 (by simp)).tr (frX.w1 (by simp))).tr r2, by rw [r3]; simp only [w1_s, w1_a, w2_s, w2_a, w3_s, w3_a, tn, nt, tt, true_and, and_true, false_and, and_false, and_self, if_true, if_false, Nat.reduceEqDiff, reduceIte, Nat.reduceAdd], by rw [r3]; simp only [w1_s, w1_a, w2_s, w2_a, w3_s, w3_a, tn, nt, tt, true_and, and_true, false_and, and_false, and_self, if_true, if_false, Nat.reduceEqDiff, reduceIte, Nat.reduceAdd], by rw [r3]; simp only [w1_s, w1_a, w2_s, w2_a, w3_s, w3_a, tn, nt, tt, true_and, and_true, false_and, and_false, and_self, if_true, if_false, Nat.reduceEqDiff, reduceIte, Nat.reduceAdd], fun q hq => ?_⟩
  obtain ⟨s1, s2⟩ := r4 q hq
  rw [if_pos (Nat.zero_le q), w1_n hj, w1_n hj] at s1 s2
  exact ⟨s1, s2⟩
theorem aside_l {N : Nat} : ∀ (n k : Nat) (μ : SX), k ≤ 8 → 8 - k < n → ∃ μ', m_M_putAside_23 N n μ (n32 k) = some μ' ∧ frM [] [13, 14] μ μ' ∧
    ∀ q, q < 8 → (μ' 0).2 13 q = (if k ≤ q then (μ 0).2 5 q else (μ 0).2 13 q) ∧ (μ' 0).2 14 q = (if k ≤ q then vp_nar .boolean ((μ 0).2 6 q) else (μ 0).2 14 q) := by
  intro n
  induction n with
  | zero => intro k μ h0 h1; omega
  | succ n ih =>
    intro k μ h0 h1
    rw [m_M_putAside_23]
    simp (disch := omega) only [l0, l1, l2, l3, l4, l8, l20, l150, l300, l1000, ↓lm1, n32_lt, n32_le, n32_eq, n32_inb, n32_cl, n32_add, mi_lt, mi_le, n_le_mi, n_eq_mi, mi_eq_n]
    by_cases e : 8 ≤ k
    · rw [if_pos e]
      exact ⟨μ, rfl, frM.rf, fun q hq => by rw [if_neg (by omega), if_neg (by omega)]; exact ⟨rfl, rfl⟩⟩
    · have k8 : k < 8 := by omega
      rw [if_neg e, if_pos k8, if_pos k8, if_pos k8, if_pos k8]
      obtain ⟨μ', r1, r2, r4⟩ := ih (k + 1) _ (by omega) (by omega)
      refine ⟨μ', r1, ((frM.w3 (by decide)).tr (frM.w3 (by decide))).tr r2, fun q hq => ?_⟩
      obtain ⟨s1, s2⟩ := r4 q hq
      simp (disch := omega) only [w1_s, w1_a, w2_s, w2_a, w3_s, w3_a, tn, nt, tt, true_and, and_true, false_and, and_false, and_self, if_true, if_false, Nat.reduceEqDiff, reduceIte, Nat.reduceAdd, upd_ap, n32_cl] at s1 s2
      rw [s1, s2]
      by_cases e2 : k + 1 ≤ q
      · simp only [if_pos e2, if_pos (show k ≤ q by omega), and_self]
      · by_cases e3 : q = k
        · subst e3; simp
        · simp only [if_neg e2, if_neg e3, if_neg (show ¬ k ≤ q by omega), and_self]
theorem aside_eq {N : Nat} {μ : SX} (hN : 10 ≤ N) : ∃ μ', m_M_putAside N μ = some μ' ∧ frM [14, 15, 16] [13, 14] μ μ' ∧ (μ' 0).1 14 = (μ 0).1 9 ∧ (μ' 0).1 15 = (μ 0).1 10 ∧ (μ' 0).1 16 = n32 0 ∧
    ∀ q, q < 8 → (μ' 0).2 13 q = (μ 0).2 5 q ∧ (μ' 0).2 14 q = vp_nar .boolean ((μ 0).2 6 q) := by
  rw [m_M_putAside]
  obtain ⟨μ', r1, r2, r4⟩ := aside_l (N := N) N 0 (w1 (w1 (w1 μ 0 14 ((μ 0).1 9)) 0 15 (((w1 μ 0 14 ((μ 0).1 9)) 0).1 10)) 0 16 0) (by omega) (by omega)
  refine ⟨μ', r1, (((frM.w1 (by decide)).tr (frM.w1 (by decide))).tr (frM.w1 (by decide))).tr (r2.mo (by simp) (by simp)), ?_, ?_, ?_, fun q hq => ?_⟩
  · rw [r2.1 14 (by decide)]; simp only [w1_s, w1_a, w2_s, w2_a, w3_s, w3_a, tn, nt, tt, true_and, and_true, false_and, and_false, and_self, if_true, if_false, Nat.reduceEqDiff, reduceIte, Nat.reduceAdd]
  · rw [r2.1 15 (by decide)]; simp only [w1_s, w1_a, w2_s, w2_a, w3_s, w3_a, tn, nt, tt, true_and, and_true, false_and, and_false, and_self, if_true, if_false, Nat.reduceEqDiff, reduceIte, Nat.reduceAdd]
  · rw [r2.1 16 (by decide)]; simp only [w1_s, w1_a, w2_s, w2_a, w3_s, w3_a, tn, nt, tt, true_and, and_true, false_and, and_false, and_self, if_true, if_false, Nat.reduceEqDiff, reduceIte, Nat.reduceAdd, l0]
  · have := r4 q hq
    simp only [Nat.zero_le, w1_s, w1_a, w2_s, w2_a, w3_s, w3_a, tn, nt, tt, true_and, and_true, false_and, and_false, and_self, if_true, if_false, Nat.reduceEqDiff, reduceIte, Nat.reduceAdd] at this
    exact this
theorem back_l {N : Nat} : ∀ (n k : Nat) (μ : SX), k ≤ 8 → 8 - k < n → ∃ μ', m_M_takeBack_18 N n μ (n32 k) = some μ' ∧ frM [] [5, 6] μ μ' ∧
    ∀ q, q < 8 → (μ' 0).2 5 q = (if k ≤ q then (μ 0).2 13 q else (μ 0).2 5 q) ∧ (μ' 0).2 6 q = (if k ≤ q then n32 0 else (μ 0).2 6 q) := by
  intro n
  induction n with
  | zero => intro k μ h0 h1; omega
  | succ n ih =>
    intro k μ h0 h1
    rw [m_M_takeBack_18]
    simp (disch := omega) only [l0, l1, l2, l3, l4, l8, l20, l150, l300, l1000, ↓lm1, n32_lt, n32_le, n32_eq, n32_inb, n32_cl, n32_add, mi_lt, mi_le, n_le_mi, n_eq_mi, mi_eq_n, nar_0]
    by_cases e : 8 ≤ k
    · rw [if_pos e]
      exact ⟨μ, rfl, frM.rf, fun q hq => by rw [if_neg (by omega), if_neg (by omega)]; exact ⟨rfl, rfl⟩⟩
    · have k8 : k < 8 := by omega
      rw [if_neg e, if_pos k8, if_pos k8, if_pos k8]
      obtain ⟨μ', r1, r2, r4⟩ := ih (k + 1) _ (by omega) (by omega)
      refine ⟨μ', r1, ((frM.w3 (by decide)).tr (frM.w3 (by decide))).tr r2, fun q hq => ?_⟩
      obtain ⟨s1, s2⟩ := r4 q hq
      simp (disch := omega) only [w1_s, w1_a, w2_s, w2_a, w3_s, w3_a, tn, nt, tt, true_and, and_true, false_and, and_false, and_self, if_true, if_false, Nat.reduceEqDiff, reduceIte, Nat.reduceAdd, upd_ap, n32_cl] at s1 s2
      rw [s1, s2]
      by_cases e2 : k + 1 ≤ q
      · simp only [if_pos e2, if_pos (show k ≤ q by omega), and_self]
      · by_cases e3 : q = k
        · subst e3; simp
        · simp only [if_neg e2, if_neg e3, if_neg (show ¬ k ≤ q by omega), and_self]
theorem back_eq {N : Nat} {μ : SX} (hN : 10 ≤ N) : ∃ μ', m_M_takeBack N μ = some μ' ∧ frM [9, 10] [5, 6] μ μ' ∧ (μ' 0).1 9 = (μ 0).1 14 ∧ (μ' 0).1 10 = (μ 0).1 15 ∧
    ∀ q, q < 8 → (μ' 0).2 5 q = (μ 0).2 13 q ∧ (μ' 0).2 6 q = n32 0 := by
  rw [m_M_takeBack]
  obtain ⟨μ', r1, r2, r4⟩ := back_l (N := N) N 0 (w1 (w1 μ 0 9 ((μ 0).1 14)) 0 10 (((w1 μ 0 9 ((μ 0).1 14)) 0).1 15)) (by omega) (by omega)
  refine ⟨μ', r1, ((frM.w1 (by decide)).tr (frM.w1 (by decide))).tr (r2.mo (by simp) (by simp)), ?_, ?_, fun q hq => ?_⟩
  · rw [r2.1 9 (by decide)]; simp only [w1_s, w1_a, w2_s, w2_a, w3_s, w3_a, tn, nt, tt, true_and, and_true, false_and, and_false, and_self, if_true, if_false, Nat.reduceEqDiff, reduceIte, Nat.reduceAdd]
  · rw [r2.1 10 (by decide)]; simp only [w1_s, w1_a, w2_s, w2_a, w3_s, w3_a, tn, nt, tt, true_and, and_true, false_and, and_false, and_self, if_true, if_false, Nat.reduceEqDiff, reduceIte, Nat.reduceAdd]
  · have := r4 q hq
    simp only [Nat.zero_le, w1_s, w1_a, w2_s, w2_a, w3_s, w3_a, tn, nt, tt, true_and, and_true, false_and, and_false, and_self, if_true, if_false, Nat.reduceEqDiff, reduceIte, Nat.reduceAdd] at this
    exact this
theorem next_l {N j hn : Nat} : ∀ (n k : Nat) (σ : SX), (σ j).1 1 = n32 hn → hn ≤ 8 → k ≤ hn → hn - k < n → ∃ σ', m_S_turnToNextRun_2 N j n σ (n32 k) = some σ' ∧ frX [j] σ σ' ∧ (σ' j).1 = (σ j).1 ∧ (σ' j).2 1 = (σ j).2 1 ∧
    ∀ q, q < hn → (σ' j).2 2 q = (if k ≤ q then n32 0 else (σ j).2 2 q) := by
  intro n
  induction n with
  | zero => intro k σ h0 h1 h2 h3; omega
  | succ n ih =>
    intro k σ h0 h1 h2 h3
    rw [m_S_turnToNextRun_2, h0]
    simp (disch := omega) only [l0, l1, l2, l3, l4, l8, l20, l150, l300, l1000, ↓lm1, n32_lt, n32_le, n32_eq, n32_inb, n32_cl, n32_add, mi_lt, mi_le, n_le_mi, n_eq_mi, mi_eq_n, nar_0]
    by_cases e : hn ≤ k
    · rw [if_pos e]
      exact ⟨σ, rfl, frX.rf, rfl, rfl, fun q hq => by rw [if_neg (by omega)]⟩
    · rw [if_neg e, if_pos (by omega)]
      obtain ⟨σ', r1, r2, r3, r5, r4⟩ := ih (k + 1) (w3 σ j 2 (n32 k) (n32 0)) (by rw [w3_s]; exact h0) h1 (by omega) (by omega)
      refine ⟨σ', r1, (frX.w3 (by simp)).tr r2, by rw [r3, w3_s], by rw [r5]; simp only [w1_s, w1_a, w2_s, w2_a, w3_s, w3_a, tn, nt, tt, true_and, and_true, false_and, and_false, and_self, if_true, if_false, Nat.reduceEqDiff, reduceIte, Nat.reduceAdd], fun q hq => ?_⟩
      have s1 := r4 q hq
      simp (disch := omega) only [w1_s, w1_a, w2_s, w2_a, w3_s, w3_a, tn, nt, tt, true_and, and_true, false_and, and_false, and_self, if_true, if_false, Nat.reduceEqDiff, reduceIte, Nat.reduceAdd, upd_ap, n32_cl] at s1
      rw [s1]
      by_cases e2 : k + 1 ≤ q
      · simp only [if_pos e2, if_pos (show k ≤ q by omega)]
      · by_cases e3 : q = k
        · subst e3; simp
        · simp only [if_neg e2, if_neg e3, if_neg (show ¬ k ≤ q by omega)]
theorem next_eq {N j hn : Nat} {σ : SX} (hN : 10 ≤ N) (hs : (σ j).1 1 = n32 hn) (h8 : hn ≤ 8) : ∃ σ', m_S_turnToNextRun N σ j = some σ' ∧ frX [j] σ σ' ∧ (σ' j).1 = (σ j).1 ∧ (σ' j).2 1 = (σ j).2 1 ∧ ∀ q, q < hn → (σ' j).2 2 q = n32 0 := by
  obtain ⟨σ', r1, r2, r3, r5, r4⟩ := next_l (N := N) N 0 σ hs h8 (by omega) (by omega)
  exact ⟨σ', r1, r2, r3, r5, fun q hq => by rw [r4 q hq, if_pos (Nat.zero_le q)]⟩
