/-! Layer B: the tapes of both. -/
def TapR (t : SS) (off : Nat) (r : Int32) (ta le : Nat → Int32) (rn cn c : Nat) (ls : Nat → Nat) : Prop :=
  (t.1 1 = n32 rn ∧ r = n32 rn) ∧ (t.1 0 = n32 cn ∧ cn ≤ 150) ∧ (∀ k, k < rn → t.2 2 k = n32 (ls k) ∧ le (off + k) = n32 (ls k) ∧ 1 ≤ ls k) ∧ sm ls rn = cn ∧ ∀ k, k < cn → t.2 1 k = ta (off + k) ∧ isC c (ta (off + k))
abbrev TaR (σ μ : SX) (t rn cn c : Nat) (ls : Nat → Nat) : Prop := TapR (σ (7 + t)) (150 * t) ((μ 0).2 10 t) ((μ 0).2 8) ((μ 0).2 9) rn cn c ls
theorem tap_rn {t : SS} {off : Nat} {r : Int32} {ta le : Nat → Int32} {rn cn c : Nat} {ls : Nat → Nat} (h : TapR t off r ta le rn cn c ls) : rn ≤ cn := by
  rw [← h.2.2.2.1]; exact sm_ge (fun k hk => (h.2.2.1 k hk).2.2)
theorem tap_sm {t : SS} {off : Nat} {r : Int32} {ta le : Nat → Int32} {rn cn c : Nat} {ls : Nat → Nat} (h : TapR t off r ta le rn cn c ls) {k : Nat} (hk : k ≤ rn) : sm ls k ≤ cn := by
  rw [← h.2.2.2.1]; exact sm_mono hk
theorem on_l {N : Nat} {σ μ : SX} {t rn cn c : Nat} {ls : Nat → Nat} (h : TaR σ μ t rn cn c ls) (ht : t < 4) : ∀ (n k : Nat), k ≤ rn → rn - k < n → m_M_cardsOn_4 N n μ (n32 t) (n32 (sm ls k)) (n32 k) = some (n32 cn, μ) := by
  have hr := tap_rn h
  obtain ⟨⟨a1, a2⟩, ⟨a3, a4⟩, a5, a6, a7⟩ := id h
  intro n
  induction n with
  | zero => intro k h1 h2; omega
  | succ n ih =>
    intro k h1 h2
    have hs := tap_sm h h1
    rw [m_M_cardsOn_4]
    simp (disch := omega) only [l0, l1, l2, l3, l4, l8, l20, l150, l300, l1000, ↓lm1, n32_lt, n32_le, n32_eq, n32_inb, n32_cl, n32_add, mi_lt, mi_le, n_le_mi, n_eq_mi, mi_eq_n, n32_mul, a2]
    rw [if_pos ht]
    by_cases e : rn ≤ k
    · rw [if_pos e, ← a6, show rn = k by omega]
    · obtain ⟨b1, b2, b3⟩ := a5 k (by omega)
      rw [if_neg e, if_pos (by omega), b2, n32_add]
      exact ih (k + 1) (by omega) (by omega)
theorem on_eq {N : Nat} {σ μ : SX} {t rn cn c : Nat} {ls : Nat → Nat} (hN : 200 ≤ N) (h : TaR σ μ t rn cn c ls) (ht : t < 4) : m_M_cardsOn N μ (n32 t) = some (n32 cn, μ) := by
  have hr := tap_rn h
  have := h.2.1.2
  exact on_l h ht N 0 (by omega) (by omega)
theorem appM_l {N : Nat} {t rn cn i : Nat} (ht : t < 4) (hc : cn + i ≤ 150) (hr : rn < 150) : ∀ (n k : Nat) (μ : SX), (μ 0).1 16 = n32 i → (μ 0).2 10 t = n32 rn → k ≤ i → i - k < n →
    ∃ μ', m_M_append_14 N n μ (n32 t) (n32 (150 * t + cn)) (n32 k) = some μ' ∧ frM [] [8, 9, 10] μ μ' ∧ (∀ q, (μ' 0).2 8 q = if 150 * t + cn + k ≤ q ∧ q < 150 * t + cn + i then (μ 0).2 15 (q - (150 * t + cn)) else (μ 0).2 8 q) ∧
      (μ' 0).2 9 = upd ((μ 0).2 9) (150 * t + rn) (n32 i) ∧ (μ' 0).2 10 = upd ((μ 0).2 10) t (n32 (rn + 1)) := by
  intro n
  induction n with
  | zero => intro k μ h1 h2 h3 h4; omega
  | succ n ih =>
    intro k μ h1 h2 h3 h4
    rw [m_M_append_14]
    simp (disch := omega) only [l0, l1, l2, l3, l4, l8, l20, l150, l300, l1000, ↓lm1, n32_lt, n32_le, n32_eq, n32_inb, n32_cl, n32_add, mi_lt, mi_le, n_le_mi, n_eq_mi, mi_eq_n, n32_mul, h1, h2, w1_s, w1_a, w2_s, w2_a, w3_s, w3_a, tn, nt, tt, true_and, and_true, false_and, and_false, and_self, if_true, if_false, Nat.reduceEqDiff, reduceIte, Nat.reduceAdd]
    by_cases e : i ≤ k
    · rw [if_pos e, if_pos ht, if_pos (by omega), if_pos ht, if_pos ht]
      refine ⟨_, rfl, (frM.w3 (by decide)).tr (frM.w3 (by decide)), fun q => ?_, ?_, ?_⟩
      · simp only [w1_s, w1_a, w2_s, w2_a, w3_s, w3_a, tn, nt, tt, true_and, and_true, false_and, and_false, and_self, if_true, if_false, Nat.reduceEqDiff, reduceIte, Nat.reduceAdd]; rw [if_neg (by omega)]
      · simp (disch := omega) only [w1_s, w1_a, w2_s, w2_a, w3_s, w3_a, tn, nt, tt, true_and, and_true, false_and, and_false, and_self, if_true, if_false, Nat.reduceEqDiff, reduceIte, Nat.reduceAdd, n32_cl]
      · simp (disch := omega) only [w1_s, w1_a, w2_s, w2_a, w3_s, w3_a, tn, nt, tt, true_and, and_true, false_and, and_false, and_self, if_true, if_false, Nat.reduceEqDiff, reduceIte, Nat.reduceAdd, n32_cl]
    · rw [if_neg e, if_pos (by omega), if_pos (by omega)]
      obtain ⟨μ', r1, r2, r3, r4, r5⟩ := ih (k + 1) (w3 μ 0 8 (n32 (150 * t + cn + k)) ((μ 0).2 15 k)) (by simp only [w1_s, w1_a, w2_s, w2_a, w3_s, w3_a, tn, nt, tt, true_and, and_true, false_and, and_false, and_self, if_true, if_false, Nat.reduceEqDiff, reduceIte, Nat.reduceAdd]; exact h1) (by simp only [w1_s, w1_a, w2_s, w2_a, w3_s, w3_a, tn, nt, tt, true_and, and_true, false_and, and_false, and_self, if_true, if_false, Nat.reduceEqDiff, reduceIte, Nat.reduceAdd]; exact h2) (by omega) (by omega)
      refine ⟨μ', r1, (frM.w3 (by decide)).tr r2, fun q => ?_, by rw [r4]; simp only [w1_s, w1_a, w2_s, w2_a, w3_s, w3_a, tn, nt, tt, true_and, and_true, false_and, and_false, and_self, if_true, if_false, Nat.reduceEqDiff, reduceIte, Nat.reduceAdd], by rw [r5]; simp only [w1_s, w1_a, w2_s, w2_a, w3_s, w3_a, tn, nt, tt, true_and, and_true, false_and, and_false, and_self, if_true, if_false, Nat.reduceEqDiff, reduceIte, Nat.reduceAdd]⟩
      rw [r3 q]
      simp (disch := omega) only [w1_s, w1_a, w2_s, w2_a, w3_s, w3_a, tn, nt, tt, true_and, and_true, false_and, and_false, and_self, if_true, if_false, Nat.reduceEqDiff, reduceIte, Nat.reduceAdd, n32_cl, upd_ap]
      by_cases e1 : 150 * t + cn + (k + 1) ≤ q ∧ q < 150 * t + cn + i
      · rw [if_pos e1, if_pos (by omega)]
      · rw [if_neg e1]
        by_cases e2 : q = 150 * t + cn + k
        · rw [if_pos e2, if_pos (by omega), show q - (150 * t + cn) = k by omega]
        · rw [if_neg e2, if_neg (by omega)]
theorem appM {N : Nat} {σ μ : SX} {t rn cn c i : Nat} {ls : Nat → Nat} (hN : 200 ≤ N) (h : TaR σ μ t rn cn c ls) (ht : t < 4) (hi : (μ 0).1 16 = n32 i) (hc : cn + i ≤ 150) (h1 : 1 ≤ i) :
    ∃ μ', m_M_append N μ (n32 t) = some μ' ∧ frM [] [8, 9, 10] μ μ' ∧ (∀ q, (μ' 0).2 8 q = if 150 * t + cn ≤ q ∧ q < 150 * t + cn + i then (μ 0).2 15 (q - (150 * t + cn)) else (μ 0).2 8 q) ∧
      (μ' 0).2 9 = upd ((μ 0).2 9) (150 * t + rn) (n32 i) ∧ (μ' 0).2 10 = upd ((μ 0).2 10) t (n32 (rn + 1)) := by
  have hr := tap_rn h
  rw [m_M_append, on_eq hN h ht, bI_s, l0, l150, n32_mul, n32_add]
  exact appM_l ht hc (by omega) N 0 μ hi h.1.2 (by omega) (by omega)
def ap2 (i : Nat) (σ1 : SX) : Option SX := ap3 i (w1 σ1 (7 + i) 0 ((σ1 (7 + i)).1 0 + (σ1 6).1 0))
where ap3 (i : Nat) (σ2 : SX) : Option SX := if inb ((σ2 (7 + i)).1 1) 150 = true then ap4 i (w3 σ2 (7 + i) 2 ((σ2 (7 + i)).1 1) ((σ2 6).1 0)) else none
      ap4 (i : Nat) (σ3 : SX) : Option SX := some (w1 σ3 (7 + i) 1 ((σ3 (7 + i)).1 1 + 1))
theorem app_def {N i : Nat} {σ : SX} : m_T_append N σ i = (if 150 ≤ ((σ (7 + i)).1 1) then some σ else (if ((σ 6).1 0) ≤ (150 - ((σ (7 + i)).1 0)) then (if cpok 0 ((σ (7 + i)).1 0) ((σ 6).1 0) 150 150 = true then
    ap2 i (w2 σ (7 + i) 1 (va_cpy ((σ 6).2 1) ((σ (7 + i)).2 1) (0 : Int32).toNatClampNeg ((σ (7 + i)).1 0).toNatClampNeg ((σ 6).1 0).toNatClampNeg)) else none) else some σ)) := rfl
theorem cpokn {a b n n0 n1 : Nat} (h0 : a + n ≤ n0) (h1 : b + n ≤ n1) (h2 : n0 < 2147483648) (h3 : n1 < 2147483648) : cpok (n32 a) (n32 b) (n32 n) n0 n1 = true := by
  unfold cpok
  rw [decide_eq_true_iff, n32_ti (by omega), n32_ti (by omega), n32_ti (by omega)]; omega
theorem appX {N : Nat} {σ μ : SX} {t rn cn c i : Nat} {ls : Nat → Nat} (h : TaR σ μ t rn cn c ls) (hi : (σ 6).1 0 = n32 i) (hc : cn + i ≤ 150) (h1 : 1 ≤ i) :
    ∃ σ', m_T_append N σ t = some σ' ∧ frX [7 + t] σ σ' ∧ (σ' (7 + t)).1 1 = n32 (rn + 1) ∧ (σ' (7 + t)).1 0 = n32 (cn + i) ∧ (σ' (7 + t)).1 2 = (σ (7 + t)).1 2 ∧ (σ' (7 + t)).1 3 = (σ (7 + t)).1 3 ∧
      (∀ q, (σ' (7 + t)).2 1 q = if cn ≤ q ∧ q < cn + i then (σ 6).2 1 (q - cn) else (σ (7 + t)).2 1 q) ∧ (σ' (7 + t)).2 2 = upd ((σ (7 + t)).2 2) rn (n32 i) := by
  have hr := tap_rn h
  obtain ⟨⟨a1, a2⟩, ⟨a3, a4⟩, a5, a6, a7⟩ := id h
  rw [app_def, a1, a3, hi]
  simp (disch := omega) only [l0, l1, l2, l3, l4, l8, l20, l150, l300, l1000, ↓lm1, n32_lt, n32_le, n32_eq, n32_inb, n32_cl, n32_add, mi_lt, mi_le, n_le_mi, n_eq_mi, mi_eq_n, n32_sub]
  rw [if_neg (by omega), if_pos (by omega), if_pos (cpokn (by omega) (by omega) (by omega) (by omega)), ap2, ap2.ap3, ap2.ap4]
  simp (disch := omega) only [l0, l1, l2, l3, l4, l8, l20, l150, l300, l1000, ↓lm1, n32_lt, n32_le, n32_eq, n32_inb, n32_cl, n32_add, mi_lt, mi_le, n_le_mi, n_eq_mi, mi_eq_n, w1_s, w1_a, w2_s, w2_a, w3_s, w3_a, tn, nt, tt, true_and, and_true, false_and, and_false, and_self, if_true, if_false, Nat.reduceEqDiff, reduceIte, Nat.reduceAdd, a1, a3, hi]
  rw [if_pos (by omega)]
  refine ⟨_, rfl, ((((frX.w2 (by simp)).tr (frX.w1 (by simp))).tr (frX.w3 (by simp))).tr (frX.w1 (by simp))), by simp only [w1_s, w1_a, w2_s, w2_a, w3_s, w3_a, tn, nt, tt, true_and, and_true, false_and, and_false, and_self, if_true, if_false, Nat.reduceEqDiff, reduceIte, Nat.reduceAdd], by simp only [w1_s, w1_a, w2_s, w2_a, w3_s, w3_a, tn, nt, tt, true_and, and_true, false_and, and_false, and_self, if_true, if_false, Nat.reduceEqDiff, reduceIte, Nat.reduceAdd], by simp only [w1_s, w1_a, w2_s, w2_a, w3_s, w3_a, tn, nt, tt, true_and, and_true, false_and, and_false, and_self, if_true, if_false, Nat.reduceEqDiff, reduceIte, Nat.reduceAdd], by simp only [w1_s, w1_a, w2_s, w2_a, w3_s, w3_a, tn, nt, tt, true_and, and_true, false_and, and_false, and_self, if_true, if_false, Nat.reduceEqDiff, reduceIte, Nat.reduceAdd], fun q => ?_, ?_⟩
  · simp only [w1_s, w1_a, w2_s, w2_a, w3_s, w3_a, tn, nt, tt, true_and, and_true, false_and, and_false, and_self, if_true, if_false, Nat.reduceEqDiff, reduceIte, Nat.reduceAdd, cpy_ap, Nat.zero_add]
  · simp (disch := omega) only [w1_s, w1_a, w2_s, w2_a, w3_s, w3_a, tn, nt, tt, true_and, and_true, false_and, and_false, and_self, if_true, if_false, Nat.reduceEqDiff, reduceIte, Nat.reduceAdd, n32_cl]
/-- both append: the tape that is appended to -/
theorem tap_app {s s' : SS} {off : Nat} {r r' : Int32} {ta le ta' le' rw0 ru : Nat → Int32} {rn cn c i : Nat} {ls : Nat → Nat} (h : TapR s off r ta le rn cn c ls) (h1 : 1 ≤ i) (hc : cn + i ≤ 150)
    (hrow : ∀ k, k < i → rw0 k = ru k ∧ isC c (ru k)) (x1 : s'.1 1 = n32 (rn + 1)) (x2 : s'.1 0 = n32 (cn + i)) (x3 : ∀ q, s'.2 1 q = if cn ≤ q ∧ q < cn + i then rw0 (q - cn) else s.2 1 q) (x4 : s'.2 2 = upd (s.2 2) rn (n32 i))
    (y1 : r' = n32 (rn + 1)) (y2 : ∀ q, ta' q = if off + cn ≤ q ∧ q < off + cn + i then ru (q - (off + cn)) else ta q) (y3 : le' = upd le (off + rn) (n32 i)) : TapR s' off r' ta' le' (rn + 1) (cn + i) c (fun k => if k = rn then i else ls k) := by
  obtain ⟨⟨a1, a2⟩, ⟨a3, a4⟩, a5, a6, a7⟩ := h
  refine ⟨⟨x1, y1⟩, ⟨x2, hc⟩, fun k hk => ?_, ?_, fun k hk => ?_⟩
  · rw [x4, y3, upd_ap, upd_ap]
    dsimp only
    by_cases e : k = rn
    · simp only [if_pos e, if_pos (show off + k = off + rn by omega)]; exact ⟨trivial, trivial, h1⟩
    · simp only [if_neg e, if_neg (show ¬ off + k = off + rn by omega)]; exact a5 k (by omega)
  · rw [sm, if_pos rfl, sm_congr (g := ls) (fun k hk => if_neg (by omega)), a6]
  · rw [x3, y2]
    by_cases e : cn ≤ k
    · rw [if_pos ⟨e, hk⟩, if_pos ⟨by omega, by omega⟩, show off + k - (off + cn) = k - cn by omega]
      exact hrow (k - cn) (by omega)
    · rw [if_neg (by omega), if_neg (by omega)]; exact a7 k (by omega)
/-- a tape that isn't touched -/
theorem tap_oth {s : SS} {off t : Nat} {r r' : Int32} {ta le ta' le' : Nat → Int32} {rn cn c : Nat} {ls : Nat → Nat} (h : TapR s off r ta le rn cn c ls) (h1 : r' = r) (h2 : ∀ k, k < 150 → ta' (off + k) = ta (off + k)) (h3 : ∀ k, k < 150 → le' (off + k) = le (off + k)) : TapR s off r' ta' le' rn cn c ls := by
  have hr := tap_rn h
  obtain ⟨⟨a1, a2⟩, ⟨a3, a4⟩, a5, a6, a7⟩ := h
  refine ⟨⟨a1, by rw [h1]; exact a2⟩, ⟨a3, a4⟩, fun k hk => ?_, a6, fun k hk => ?_⟩
  · rw [h3 k (by omega)]; exact a5 k hk
  · rw [h2 k (by omega)]; exact a7 k hk
