/-! Layer B: start. -/
theorem rol_l {N : Nat} : ∀ (n k : Nat) (σ : SX), k ≤ 4 → 4 - k < n → (∀ q, q < k → (σ 0).2 1 q = n32 q) →
    ∃ σ', m_O_start_17 N n σ (n32 k) = (bV (m_P_begin N σ') fun σ43 => (bV (m_S_fillFrom N σ43 2) fun σ54 => (bI (m_S_isEmpty N σ54 2) fun r62 σ62 => (if r62 = 0 then some (w1 σ54 0 0 1) else some (w1 σ54 0 0 3))))) ∧ frX [0] σ σ' ∧ (σ' 0).1 = (σ 0).1 ∧ ∀ q, q < 4 → (σ' 0).2 1 q = n32 q := by
  intro n
  induction n with
  | zero => intro k σ _ h; omega
  | succ n ih =>
    intro k σ k4 hn hq
    rw [m_O_start_17, l4]
    by_cases e : k = 4
    · subst e
      rw [if_pos (show n32 4 ≤ n32 4 by decide)]
      exact ⟨σ, rfl, frX.rf, rfl, hq⟩
    · have nl : ¬ n32 4 ≤ n32 k := by rw [n32_le (by omega) (by omega)]; omega
      rw [if_neg nl, if_pos (inbn (by omega) (by omega)), show n32 k + 1 = n32 (k + 1) by rw [l1, n32_add]]
      obtain ⟨σ', y1, y2, y3, y4⟩ := ih (k + 1) (w3 σ 0 1 (n32 k) (n32 k)) (by omega) (by omega) (fun q hq' => by
        rw [w3_a, if_pos ⟨rfl, rfl⟩, n32_cl (by omega), upd_ap]
        by_cases ek : q = k
        · rw [if_pos ek, ek]
        · rw [if_neg ek]; exact hq q (by omega))
      exact ⟨σ', y1, (frX.w3 (by decide)).tr y2, by rw [y3, w3_s], y4⟩
def bgw (σ : SX) (k : Nat) : SX := w1 (w3 σ 4 1 (n32 k) (n32 1)) (7 + k) 2 (n32 1)
theorem bg_s {N n k : Nat} {σ : SX} (hk : k < 3) (hd : (σ (7 + k)).1 2 = n32 0) : m_P_begin_2 N (n + 1) σ (n32 k) = m_P_begin_2 N n (bgw σ k) (n32 (k + 1)) := by
  have nl : ¬ n32 3 ≤ n32 k := by rw [n32_le (by omega) (by omega)]; omega
  rw [m_P_begin_2, l3, if_neg nl, if_pos (inbn (by omega) hk), if_pos (inbn (by omega) (by omega)), n32_cl (by omega), m_T_addDummies, bV_s, w3_n (by omega), hd, l1, n32_add, n32_add]
  rfl
theorem bgw_f {σ : SX} {k : Nat} (hk : k < 3) : (∀ j, j ≠ 4 → j ≠ 7 + k → bgw σ k j = σ j) ∧ (bgw σ k 4).1 = (σ 4).1 ∧ (bgw σ k 4).2 1 = upd ((σ 4).2 1) k (n32 1) ∧ (bgw σ k (7 + k)).2 = (σ (7 + k)).2 ∧ (bgw σ k (7 + k)).1 2 = n32 1 ∧ ∀ q, q ≠ 2 → (bgw σ k (7 + k)).1 q = (σ (7 + k)).1 q := by
  unfold bgw
  refine ⟨fun j h1 h2 => by rw [w1_n h2, w3_n h1], by rw [w1_n (by omega), w3_s], by rw [w1_n (by omega), w3_a, if_pos ⟨rfl, rfl⟩, n32_cl (by omega)], by rw [w1_a, w3_n (by omega)], by rw [w1_s, if_pos ⟨rfl, rfl⟩], fun q hq => by rw [w1_s, if_neg (fun e => hq e.2), w3_s]⟩
theorem begin_x {N : Nat} {σ : SX} (hN : 200 ≤ N) (hd : ∀ t, t < 4 → (σ (7 + t)).1 2 = n32 0) : ∃ σ', m_P_begin N σ = some σ' ∧ (∀ j, j < 4 → σ' j = σ j) ∧ (∀ j, 4 < j → j < 7 → σ' j = σ j) ∧ (σ' 4).1 0 = n32 1 ∧ (σ' 4).1 1 = n32 0 ∧ (∀ q, q < 3 → (σ' 4).2 1 q = n32 1) ∧
    (∀ t, t < 4 → (σ' (7 + t)).2 = (σ (7 + t)).2 ∧ (∀ q, q ≠ 2 → (σ' (7 + t)).1 q = (σ (7 + t)).1 q)) ∧ (∀ t, t < 3 → (σ' (7 + t)).1 2 = n32 1) ∧ (σ' (7 + 3)).1 2 = n32 0 := by
  obtain ⟨n, rfl⟩ : ∃ n, N = n + 4 := ⟨N - 4, by omega⟩
  obtain ⟨a1, a2, a3, a4, a5, a6⟩ := bgw_f (σ := σ) (k := 0) (by omega)
  obtain ⟨b1, b2, b3, b4, b5, b6⟩ := bgw_f (σ := bgw σ 0) (k := 1) (by omega)
  obtain ⟨c1, c2, c3, c4, c5, c6⟩ := bgw_f (σ := bgw (bgw σ 0) 1) (k := 2) (by omega)
  have run : m_P_begin (n + 4) σ = some (w1 (w1 (bgw (bgw (bgw σ 0) 1) 2) 4 0 1) 4 1 0) := by
    rw [m_P_begin, show (0 : Int32) = n32 0 from rfl, bg_s (by omega) (hd 0 (by omega)), bg_s (by omega) (by rw [a1 (7 + 1) (by omega) (by omega)]; exact hd 1 (by omega)), bg_s (by omega) (by rw [b1 (7 + 2) (by omega) (by omega), a1 (7 + 2) (by omega) (by omega)]; exact hd 2 (by omega)), m_P_begin_2, if_pos (by decide)]
    rfl
  have o : ∀ j, j ≠ 4 → (w1 (w1 (bgw (bgw (bgw σ 0) 1) 2) 4 0 1) 4 1 0) j = bgw (bgw (bgw σ 0) 1) 2 j := fun j hj => by rw [w1_n hj, w1_n hj]
  refine ⟨_, run, fun j hj => ?_, fun j hj hj' => ?_, ?_, ?_, fun q hq => ?_, fun t ht => ?_, fun t ht => ?_, ?_⟩
  · rw [o j (by omega), c1 j (by omega) (by omega), b1 j (by omega) (by omega), a1 j (by omega) (by omega)]
  · rw [o j (by omega), c1 j (by omega) (by omega), b1 j (by omega) (by omega), a1 j (by omega) (by omega)]
  · simp only [w1_s, w1_a, w2_s, w2_a, w3_s, w3_a, tn, nt, tt, true_and, and_true, false_and, and_false, and_self, if_true, if_false, Nat.reduceEqDiff, reduceIte, Nat.reduceAdd]; rfl
  · simp only [w1_s, w1_a, w2_s, w2_a, w3_s, w3_a, tn, nt, tt, true_and, and_true, false_and, and_false, and_self, if_true, if_false, Nat.reduceEqDiff, reduceIte, Nat.reduceAdd]; rfl
  · rw [w1_a, w1_a, c3, b3, a3, upd_ap, upd_ap, upd_ap]
    rcases (show q = 0 ∨ q = 1 ∨ q = 2 by omega) with rfl | rfl | rfl <;> rfl
  · rw [o _ (by omega)]
    rcases (show t = 0 ∨ t = 1 ∨ t = 2 ∨ t = 3 by omega) with rfl | rfl | rfl | rfl
    · rw [c1 (7 + 0) (by omega) (by omega), b1 (7 + 0) (by omega) (by omega)]; exact ⟨a4, a6⟩
    · rw [c1 (7 + 1) (by omega) (by omega)]
      refine ⟨by rw [b4, a1 (7 + 1) (by omega) (by omega)], fun q hq => by rw [b6 q hq, a1 (7 + 1) (by omega) (by omega)]⟩
    · refine ⟨by rw [c4, b1 (7 + 2) (by omega) (by omega), a1 (7 + 2) (by omega) (by omega)], fun q hq => by rw [c6 q hq, b1 (7 + 2) (by omega) (by omega), a1 (7 + 2) (by omega) (by omega)]⟩
    · rw [c1 (7 + 3) (by omega) (by omega), b1 (7 + 3) (by omega) (by omega), a1 (7 + 3) (by omega) (by omega)]; exact ⟨rfl, fun _ _ => rfl⟩
  · rw [o _ (by omega)]
    rcases (show t = 0 ∨ t = 1 ∨ t = 2 by omega) with rfl | rfl | rfl
    · rw [c1 (7 + 0) (by omega) (by omega), b1 (7 + 0) (by omega) (by omega)]; exact a5
    · rw [c1 (7 + 1) (by omega) (by omega)]; exact b5
    · exact c5
  · rw [o _ (by omega), c1 (7 + 3) (by omega) (by omega), b1 (7 + 3) (by omega) (by omega), a1 (7 + 3) (by omega) (by omega)]; exact hd 3 (by omega)
theorem fill_l {N hn : Nat} (h8 : hn ≤ 8) : ∀ (n k : Nat) (σ : SX), k ≤ hn → hn - k < n → (σ 2).1 1 = n32 hn → (∀ q, q < k → (σ 2).2 1 q = n32 q ∧ (σ 2).2 2 q = n32 0) →
    ∃ σ', m_S_fillFrom_25 N 2 n σ (n32 k) = some σ' ∧ frX [2] σ σ' ∧ (σ' 2).1 = (σ 2).1 ∧ ∀ q, q < hn → (σ' 2).2 1 q = n32 q ∧ (σ' 2).2 2 q = n32 0 := by
  intro n
  induction n with
  | zero => intro k σ _ h; omega
  | succ n ih =>
    intro k σ k4 hn' h1 hq
    rw [m_S_fillFrom_25, h1]
    by_cases e : k = hn
    · subst e
      rw [if_pos (show n32 k ≤ n32 k by rw [n32_le (by omega) (by omega)]; omega)]
      exact ⟨σ, rfl, frX.rf, rfl, hq⟩
    · have nl : ¬ n32 hn ≤ n32 k := by rw [n32_le (by omega) (by omega)]; omega
      have ib : inb (n32 k) 8 = true := inbn (by omega) (by omega)
      rw [if_neg nl, if_pos ib, if_pos ib, show n32 k + 1 = n32 (k + 1) by rw [l1, n32_add], show vp_nar .boolean (0 : Int32) = n32 0 from rfl]
      obtain ⟨σ', y1, y2, y3, y4⟩ := ih (k + 1) (w3 (w3 σ 2 1 (n32 k) (n32 k)) 2 2 (n32 k) (n32 0)) (by omega) (by omega) (by rw [w3_s, w3_s]; exact h1) (fun q hq' => by
        simp (disch := omega) only [w1_s, w1_a, w2_s, w2_a, w3_s, w3_a, tn, nt, tt, true_and, and_true, false_and, and_false, and_self, if_true, if_false, Nat.reduceEqDiff, reduceIte, Nat.reduceAdd, n32_cl, upd_ap]
        by_cases ek : q = k
        · rw [if_pos ek, if_pos ek, ek]; exact ⟨rfl, rfl⟩
        · rw [if_neg ek, if_neg ek]; exact hq q (by omega))
      exact ⟨σ', y1, ((frX.w3 (by decide)).tr (frX.w3 (by decide))).tr y2, by rw [y3, w3_s, w3_s], y4⟩
theorem reset_l {N : Nat} : ∀ (n k : Nat) (μ : SX), k ≤ 4 → 4 - k < n → (∀ q, q < k → (μ 0).2 10 q = n32 0 ∧ (μ 0).2 11 q = n32 0 ∧ (μ 0).2 12 q = n32 q) →
    ∃ μ', m_M_reset_27 N n μ (n32 k) = some μ' ∧ frM [] [10, 11, 12] μ μ' ∧ ∀ q, q < 4 → (μ' 0).2 10 q = n32 0 ∧ (μ' 0).2 11 q = n32 0 ∧ (μ' 0).2 12 q = n32 q := by
  intro n
  induction n with
  | zero => intro k σ _ h; omega
  | succ n ih =>
    intro k μ k4 hn hq
    rw [m_M_reset_27, l4]
    by_cases e : k = 4
    · subst e
      rw [if_pos (show n32 4 ≤ n32 4 by decide)]
      exact ⟨μ, rfl, frM.rf, hq⟩
    · have nl : ¬ n32 4 ≤ n32 k := by rw [n32_le (by omega) (by omega)]; omega
      have ib : inb (n32 k) 4 = true := inbn (by omega) (by omega)
      rw [if_neg nl, if_pos ib, if_pos ib, if_pos ib, show n32 k + 1 = n32 (k + 1) by rw [l1, n32_add]]
      obtain ⟨μ', y1, y2, y3⟩ := ih (k + 1) (w3 (w3 (w3 μ 0 10 (n32 k) 0) 0 11 (n32 k) 0) 0 12 (n32 k) (n32 k)) (by omega) (by omega) (fun q hq' => by
        simp (disch := omega) only [w1_s, w1_a, w2_s, w2_a, w3_s, w3_a, tn, nt, tt, true_and, and_true, false_and, and_false, and_self, if_true, if_false, Nat.reduceEqDiff, reduceIte, Nat.reduceAdd, n32_cl, upd_ap]
        by_cases ek : q = k
        · simp only [if_pos ek]; exact ⟨l0, l0, by rw [ek]⟩
        · simp only [if_neg ek]; exact hq q (by omega))
      exact ⟨μ', y1, (((frM.w3 (by decide)).tr (frM.w3 (by decide))).tr (frM.w3 (by decide))).tr y2, y3⟩
theorem reset_x {N : Nat} {μ : SX} (hN : 200 ≤ N) : ∃ μ', m_M_reset N μ = some μ' ∧ frM [9, 10, 11, 12, 13] [10, 11, 12] μ μ' ∧ ((μ' 0).1 9 = n32 0 ∧ (μ' 0).1 10 = n32 0 ∧ (μ' 0).1 11 = n32 0 ∧ (μ' 0).1 12 = n32 0 ∧ (μ' 0).1 13 = n32 0) ∧ ∀ q, q < 4 → (μ' 0).2 10 q = n32 0 ∧ (μ' 0).2 11 q = n32 0 ∧ (μ' 0).2 12 q = n32 q := by
  obtain ⟨μ', y1, y2, y3⟩ := reset_l (N := N) N 0 (w1 (w1 (w1 (w1 (w1 μ 0 9 0) 0 10 0) 0 11 0) 0 12 0) 0 13 0) (by omega) (by omega) (fun q hq => by omega)
  refine ⟨μ', y1, (((((frM.w1 (by decide)).tr (frM.w1 (by decide))).tr (frM.w1 (by decide))).tr (frM.w1 (by decide))).tr (frM.w1 (by decide))).tr (y2.mo (by decide) (by decide)), ⟨?_, ?_, ?_, ?_, ?_⟩, y3⟩
  · rw [y2.1 9 (by decide)]; simp only [w1_s, w1_a, w2_s, w2_a, w3_s, w3_a, tn, nt, tt, true_and, and_true, false_and, and_false, and_self, if_true, if_false, Nat.reduceEqDiff, reduceIte, Nat.reduceAdd]; rfl
  · rw [y2.1 10 (by decide)]; simp only [w1_s, w1_a, w2_s, w2_a, w3_s, w3_a, tn, nt, tt, true_and, and_true, false_and, and_false, and_self, if_true, if_false, Nat.reduceEqDiff, reduceIte, Nat.reduceAdd]; rfl
  · rw [y2.1 11 (by decide)]; simp only [w1_s, w1_a, w2_s, w2_a, w3_s, w3_a, tn, nt, tt, true_and, and_true, false_and, and_false, and_self, if_true, if_false, Nat.reduceEqDiff, reduceIte, Nat.reduceAdd]; rfl
  · rw [y2.1 12 (by decide)]; simp only [w1_s, w1_a, w2_s, w2_a, w3_s, w3_a, tn, nt, tt, true_and, and_true, false_and, and_false, and_self, if_true, if_false, Nat.reduceEqDiff, reduceIte, Nat.reduceAdd]; rfl
  · rw [y2.1 13 (by decide)]; simp only [w1_s, w1_a, w2_s, w2_a, w3_s, w3_a, tn, nt, tt, true_and, and_true, false_and, and_false, and_self, if_true, if_false, Nat.reduceEqDiff, reduceIte, Nat.reduceAdd]; rfl
theorem s59_l {N : Nat} : ∀ (n k : Nat) (μ : SX), k ≤ 3 → 3 - k < n → (∀ q, q < k → (μ 0).2 7 q = n32 1 ∧ (μ 0).2 11 q = n32 1) →
    ∃ μ', m_M_start_59 N n μ (n32 k) = m_M_start_84 N N μ' ∧ frM [] [7, 11] μ μ' ∧ (∀ q, q < 3 → (μ' 0).2 7 q = n32 1 ∧ (μ' 0).2 11 q = n32 1) ∧ (μ' 0).2 11 3 = (μ 0).2 11 3 := by
  intro n
  induction n with
  | zero => intro k σ _ h; omega
  | succ n ih =>
    intro k μ k4 hn hq
    rw [m_M_start_59, l3]
    by_cases e : k = 3
    · subst e
      rw [if_pos (show n32 3 ≤ n32 3 by decide)]
      exact ⟨μ, rfl, frM.rf, hq, rfl⟩
    · have nl : ¬ n32 3 ≤ n32 k := by rw [n32_le (by omega) (by omega)]; omega
      rw [if_neg nl, if_pos (inbn (by omega) (by omega)), if_pos (inbn (by omega) (by omega)), l1, n32_add]
      obtain ⟨μ', y1, y2, y3, y4⟩ := ih (k + 1) (w3 (w3 μ 0 7 (n32 k) (n32 1)) 0 11 (n32 k) (n32 1)) (by omega) (by omega) (fun q hq' => by
        simp (disch := omega) only [w1_s, w1_a, w2_s, w2_a, w3_s, w3_a, tn, nt, tt, true_and, and_true, false_and, and_false, and_self, if_true, if_false, Nat.reduceEqDiff, reduceIte, Nat.reduceAdd, n32_cl, upd_ap]
        by_cases ek : q = k
        · simp only [if_pos ek]; exact ⟨trivial, trivial⟩
        · simp only [if_neg ek]; exact hq q (by omega))
      refine ⟨μ', y1, ((frM.w3 (by decide)).tr (frM.w3 (by decide))).tr y2, y3, ?_⟩
      rw [y4]
      simp (disch := omega) only [w1_s, w1_a, w2_s, w2_a, w3_s, w3_a, tn, nt, tt, true_and, and_true, false_and, and_false, and_self, if_true, if_false, Nat.reduceEqDiff, reduceIte, Nat.reduceAdd, n32_cl, upd_ap]
      rw [if_neg (by omega)]
def fl1 (μ : SX) : SX := w3 μ 0 5 ((μ 0).1 9) ((μ 0).1 10)
def fl2 (μ : SX) : SX := w3 μ 0 6 ((μ 0).1 9) (vp_nar .boolean 0)
def fl3 (μ : SX) : SX := w1 μ 0 9 ((μ 0).1 9 + 1)
def fl4 (μ : SX) : SX := w1 μ 0 10 ((μ 0).1 10 + 1)
theorem s84_d {N n : Nat} {μ : SX} : m_M_start_84 N (n + 1) μ = (if ((μ 0).1 1) ≤ ((μ 0).1 9) then some μ else (if ((μ 0).1 2) ≤ ((μ 0).1 10) then some μ else (if inb ((μ 0).1 9) 8 = true then (if inb ((fl1 μ 0).1 9) 8 = true then m_M_start_84 N n (fl4 (fl3 (fl2 (fl1 μ)))) else none) else none))) := rfl
theorem s84_l {N rm c : Nat} (hr : rm ≤ 8) (hc : c ≤ 150) : ∀ (n k : Nat) (μ : SX), k ≤ rm → k ≤ c → rm - k < n → (μ 0).1 1 = n32 rm → (μ 0).1 2 = n32 c → (μ 0).1 9 = n32 k → (μ 0).1 10 = n32 k → (∀ q, q < k → (μ 0).2 5 q = n32 q ∧ (μ 0).2 6 q = n32 0) →
    ∃ μ' h, m_M_start_84 N n μ = some μ' ∧ frM [9, 10] [5, 6] μ μ' ∧ (h = if c < rm then c else rm) ∧ (μ' 0).1 9 = n32 h ∧ (μ' 0).1 10 = n32 h ∧ ∀ q, q < h → (μ' 0).2 5 q = n32 q ∧ (μ' 0).2 6 q = n32 0 := by
  intro n
  induction n with
  | zero => intro k σ _ _ h; omega
  | succ n ih =>
    intro k μ k1 k2 hn m1 m2 m9 m10 hq
    rw [s84_d, m1, m2, m9, m10]
    by_cases e : k = rm
    · subst e
      rw [if_pos (show n32 k ≤ n32 k by rw [n32_le (by omega) (by omega)]; omega)]
      exact ⟨μ, k, rfl, frM.rf, by rw [if_neg (by omega)], m9, m10, hq⟩
    · rw [if_neg (show ¬ n32 rm ≤ n32 k by rw [n32_le (by omega) (by omega)]; omega)]
      by_cases e2 : k = c
      · subst e2
        rw [if_pos (show n32 k ≤ n32 k by rw [n32_le (by omega) (by omega)]; omega)]
        exact ⟨μ, k, rfl, frM.rf, by rw [if_pos (by omega)], m9, m10, hq⟩
      · have ib : inb (n32 k) 8 = true := inbn (by omega) (by omega)
        have q1 : ∀ j, (fl1 μ j).1 = (μ j).1 := fun j => by rw [fl1, w3_s]
        have q2 : ∀ j, (fl2 (fl1 μ) j).1 = (μ j).1 := fun j => by rw [fl2, w3_s, q1]
        have f : frM [9, 10] [5, 6] μ (fl4 (fl3 (fl2 (fl1 μ)))) := (((frM.w3 (by decide)).tr (frM.w3 (by decide))).tr (frM.w1 (by decide))).tr (frM.w1 (by decide))
        have A5 : (fl4 (fl3 (fl2 (fl1 μ))) 0).2 5 = upd ((μ 0).2 5) k (n32 k) := by
          rw [fl4, w1_a, fl3, w1_a, fl2, w3_a, if_neg (by decide), fl1, w3_a, if_pos ⟨rfl, rfl⟩, m9, m10, n32_cl (by omega)]
        have A6 : (fl4 (fl3 (fl2 (fl1 μ))) 0).2 6 = upd ((μ 0).2 6) k (n32 0) := by
          rw [fl4, w1_a, fl3, w1_a, fl2, w3_a, if_pos ⟨rfl, rfl⟩, q1, m9, n32_cl (by omega), fl1, w3_a, if_neg (by decide)]; rfl
        rw [if_neg (show ¬ n32 c ≤ n32 k by rw [n32_le (by omega) (by omega)]; omega), if_pos ib, q1, m9, if_pos ib]
        obtain ⟨μ', h, y1, y2, y3, y4, y5, y6⟩ := ih (k + 1) (fl4 (fl3 (fl2 (fl1 μ)))) (by omega) (by omega) (by omega) (by rw [f.1 1 (by decide)]; exact m1) (by rw [f.1 2 (by decide)]; exact m2) (by rw [fl4, w1_s, if_neg (by decide), fl3, w1_s, if_pos ⟨rfl, rfl⟩, q2, m9, l1, n32_add])
          (by rw [fl4, w1_s, if_pos ⟨rfl, rfl⟩, fl3, w1_s, if_neg (by decide), q2, m10, l1, n32_add]) (fun q hq' => by
            rw [A5, A6, upd_ap, upd_ap]
            by_cases ek : q = k
            · rw [if_pos ek, if_pos ek, ek]; exact ⟨rfl, rfl⟩
            · rw [if_neg ek, if_neg ek]; exact hq q (by omega))
        exact ⟨μ', h, y1, f.tr y2, y3, y4, y5, y6⟩
