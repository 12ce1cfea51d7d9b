/-! Layer B: the first run is taken from a tape. -/
def tf2 (i : Nat) (tk : Int32) (σ1 : SX) : Option SX := if cpok tk 0 ((σ1 (7 + i)).1 0) 150 150 = true then tf3 i (w2 σ1 (7 + i) 1 (va_cpy ((σ1 (7 + i)).2 1) ((σ1 (7 + i)).2 1) tk.toNatClampNeg (0 : Int32).toNatClampNeg ((σ1 (7 + i)).1 0).toNatClampNeg)) else none
where tf3 (i : Nat) (σ2 : SX) : Option SX := tf4 i (w1 σ2 (7 + i) 1 ((σ2 (7 + i)).1 1 - 1))
      tf4 (i : Nat) (σ3 : SX) : Option SX := if cpok 1 0 ((σ3 (7 + i)).1 1) 150 150 = true then some (w2 σ3 (7 + i) 2 (va_cpy ((σ3 (7 + i)).2 2) ((σ3 (7 + i)).2 2) (1 : Int32).toNatClampNeg (0 : Int32).toNatClampNeg ((σ3 (7 + i)).1 1).toNatClampNeg)) else none
theorem take_def {N i : Nat} {σ : SX} : m_T_takeFirstRun N σ i = (if ((σ (7 + i)).1 1) = 0 then some σ else tf2 i ((σ (7 + i)).2 2 (0 : Int32).toNatClampNeg) (w1 σ (7 + i) 0 (((σ (7 + i)).1 0) - ((σ (7 + i)).2 2 (0 : Int32).toNatClampNeg)))) := rfl
theorem takeX {N : Nat} {σ μ : SX} {t rn cn c : Nat} {ls : Nat → Nat} (h : TaR σ μ t rn cn c ls) (hr1 : 1 ≤ rn) :
    ∃ σ', m_T_takeFirstRun N σ t = some σ' ∧ frX [7 + t] σ σ' ∧ (σ' (7 + t)).1 1 = n32 (rn - 1) ∧ (σ' (7 + t)).1 0 = n32 (cn - ls 0) ∧ (σ' (7 + t)).1 2 = (σ (7 + t)).1 2 ∧ (σ' (7 + t)).1 3 = (σ (7 + t)).1 3 ∧
      (∀ q, q < cn - ls 0 → (σ' (7 + t)).2 1 q = (σ (7 + t)).2 1 (ls 0 + q)) ∧ (∀ q, q < rn - 1 → (σ' (7 + t)).2 2 q = (σ (7 + t)).2 2 (1 + q)) := by
  have hr := tap_rn h
  have hs := tap_sm h (k := 1) hr1
  obtain ⟨⟨a1, a2⟩, ⟨a3, a4⟩, a5, a6, a7⟩ := id h
  obtain ⟨b1, b2, b3⟩ := a5 0 (by omega)
  have e1 : sm ls 1 = ls 0 := Nat.zero_add _
  rw [e1] at hs
  have c0 : (0 : Int32).toNatClampNeg = 0 := rfl
  have c1 : (1 : Int32).toNatClampNeg = 1 := rfl
  rw [take_def, c0, b1, a1, a3, tf2, tf2.tf3, tf2.tf4]
  simp (disch := omega) only [l0, l1, l2, l3, l4, l8, l20, l150, l300, l1000, ↓lm1, n32_lt, n32_le, n32_eq, n32_inb, n32_cl, n32_add, mi_lt, mi_le, n_le_mi, n_eq_mi, mi_eq_n, w1_s, w1_a, w2_s, w2_a, w3_s, w3_a, tn, nt, tt, true_and, and_true, false_and, and_false, and_self, if_true, if_false, Nat.reduceEqDiff, reduceIte, Nat.reduceAdd, n32_sub, a1, a3]
  rw [if_neg (by omega), if_pos (cpokn (by omega) (by omega) (by omega) (by omega)), if_pos (cpokn (by omega) (by omega) (by omega) (by omega))]
  refine ⟨_, rfl, ((((frX.w1 (by simp)).tr (frX.w2 (by simp))).tr (frX.w1 (by simp))).tr (frX.w2 (by simp))), by simp only [w1_s, w1_a, w2_s, w2_a, w3_s, w3_a, tn, nt, tt, true_and, and_true, false_and, and_false, and_self, if_true, if_false, Nat.reduceEqDiff, reduceIte, Nat.reduceAdd], by simp only [w1_s, w1_a, w2_s, w2_a, w3_s, w3_a, tn, nt, tt, true_and, and_true, false_and, and_false, and_self, if_true, if_false, Nat.reduceEqDiff, reduceIte, Nat.reduceAdd], by simp only [w1_s, w1_a, w2_s, w2_a, w3_s, w3_a, tn, nt, tt, true_and, and_true, false_and, and_false, and_self, if_true, if_false, Nat.reduceEqDiff, reduceIte, Nat.reduceAdd], by simp only [w1_s, w1_a, w2_s, w2_a, w3_s, w3_a, tn, nt, tt, true_and, and_true, false_and, and_false, and_self, if_true, if_false, Nat.reduceEqDiff, reduceIte, Nat.reduceAdd], fun q hq => ?_, fun q hq => ?_⟩
  · simp only [w1_s, w1_a, w2_s, w2_a, w3_s, w3_a, tn, nt, tt, true_and, and_true, false_and, and_false, and_self, if_true, if_false, Nat.reduceEqDiff, reduceIte, Nat.reduceAdd, cpy_ap]
    rw [if_pos ⟨Nat.zero_le q, by omega⟩, Nat.sub_zero]
  · simp only [w1_s, w1_a, w2_s, w2_a, w3_s, w3_a, tn, nt, tt, true_and, and_true, false_and, and_false, and_self, if_true, if_false, Nat.reduceEqDiff, reduceIte, Nat.reduceAdd, cpy_ap]
    rw [if_pos ⟨Nat.zero_le q, by omega⟩, Nat.sub_zero]
theorem off_l {N : Nat} {t nl : Nat} (ht : t < 4) (h1 : 1 ≤ nl) : ∀ (n k : Nat) (μ : SX), (∃ rn, rn ≤ 150 ∧ (μ 0).2 10 t = n32 rn ∧ 1 ≤ k ∧ k ≤ rn ∧ rn - k < n ∧ nl = rn) →
    ∃ μ', m_M_takeOff_63 N n μ (n32 t) (n32 k) = some μ' ∧ frM [] [9, 10] μ μ' ∧ (∀ q, (μ' 0).2 9 q = if 150 * t + (k - 1) ≤ q ∧ q < 150 * t + (nl - 1) then (μ 0).2 9 (q + 1) else (μ 0).2 9 q) ∧ (μ' 0).2 10 = upd ((μ 0).2 10) t (n32 (nl - 1)) := by
  intro n
  induction n with
  | zero => rintro k μ ⟨rn, _, _, _, _, q, _⟩; omega
  | succ n ih =>
    rintro k μ ⟨rn, g1, g2, g3, g4, g5, rfl⟩
    rw [m_M_takeOff_63]
    simp (disch := omega) only [l0, l1, l2, l3, l4, l8, l20, l150, l300, l1000, ↓lm1, n32_lt, n32_le, n32_eq, n32_inb, n32_cl, n32_add, mi_lt, mi_le, n_le_mi, n_eq_mi, mi_eq_n, n32_mul, n32_sub, g2]
    rw [if_pos ht]
    by_cases e : nl ≤ k
    · rw [if_pos e, if_pos ht, if_pos ht]
      refine ⟨_, rfl, frM.w3 (by decide), fun q => ?_, ?_⟩
      · simp only [w1_s, w1_a, w2_s, w2_a, w3_s, w3_a, tn, nt, tt, true_and, and_true, false_and, and_false, and_self, if_true, if_false, Nat.reduceEqDiff, reduceIte, Nat.reduceAdd]; rw [if_neg (by omega)]
      · simp (disch := omega) only [w1_s, w1_a, w2_s, w2_a, w3_s, w3_a, tn, nt, tt, true_and, and_true, false_and, and_false, and_self, if_true, if_false, Nat.reduceEqDiff, reduceIte, Nat.reduceAdd, n32_cl]
    · rw [if_neg e, if_pos (by omega), if_pos (by omega)]
      obtain ⟨μ', r1, r2, r3, r5⟩ := ih (k + 1) (w3 μ 0 9 (n32 (150 * t + k - 1)) ((μ 0).2 9 (150 * t + k))) ⟨nl, g1, by simp only [w1_s, w1_a, w2_s, w2_a, w3_s, w3_a, tn, nt, tt, true_and, and_true, false_and, and_false, and_self, if_true, if_false, Nat.reduceEqDiff, reduceIte, Nat.reduceAdd]; exact g2, by omega, by omega, by omega, rfl⟩
      refine ⟨μ', r1, (frM.w3 (by decide)).tr r2, fun q => ?_, by rw [r5]; simp only [w1_s, w1_a, w2_s, w2_a, w3_s, w3_a, tn, nt, tt, true_and, and_true, false_and, and_false, and_self, if_true, if_false, Nat.reduceEqDiff, reduceIte, Nat.reduceAdd]⟩
      rw [r3 q]
      simp (disch := omega) only [w1_s, w1_a, w2_s, w2_a, w3_s, w3_a, tn, nt, tt, true_and, and_true, false_and, and_false, and_self, if_true, if_false, Nat.reduceEqDiff, reduceIte, Nat.reduceAdd, n32_cl, upd_ap]
      by_cases e1 : 150 * t + (k + 1 - 1) ≤ q ∧ q < 150 * t + (nl - 1)
      · rw [if_pos e1, if_neg (by omega), if_pos (by omega)]
      · rw [if_neg e1]
        by_cases e2 : q = 150 * t + k - 1
        · rw [if_pos e2, if_pos (by omega), show q + 1 = 150 * t + k by omega]
        · rw [if_neg e2, if_neg (by omega)]
theorem off2_l {N : Nat} {t rn cn nl : Nat} (hN : 200 ≤ N) (ht : t < 4) (h1 : 1 ≤ nl) (hc : cn ≤ 150) (hr1 : 1 ≤ rn) (hr : rn ≤ 150) : ∀ (n k : Nat) (μ : SX), (μ 0).2 10 t = n32 rn → nl ≤ k → k ≤ cn → cn - k < n →
    ∃ μ', m_M_takeOff_20 N n μ (n32 t) (n32 nl) (n32 cn) (n32 k) = some μ' ∧ frM [] [8, 9, 10] μ μ' ∧ (∀ q, (μ' 0).2 8 q = if 150 * t + (k - nl) ≤ q ∧ q < 150 * t + (cn - nl) then (μ 0).2 8 (q + nl) else (μ 0).2 8 q) ∧
      (∀ q, (μ' 0).2 9 q = if 150 * t ≤ q ∧ q < 150 * t + (rn - 1) then (μ 0).2 9 (q + 1) else (μ 0).2 9 q) ∧ (μ' 0).2 10 = upd ((μ 0).2 10) t (n32 (rn - 1)) := by
  intro n
  induction n with
  | zero => intro k μ _ _ _ _; omega
  | succ n ih =>
    intro k μ g2 g3 g4 g5
    rw [m_M_takeOff_20]
    simp (disch := omega) only [l0, l1, l2, l3, l4, l8, l20, l150, l300, l1000, ↓lm1, n32_lt, n32_le, n32_eq, n32_inb, n32_cl, n32_add, mi_lt, mi_le, n_le_mi, n_eq_mi, mi_eq_n, n32_mul, n32_sub]
    by_cases e : cn ≤ k
    · rw [if_pos e]
      obtain ⟨μ', r1, r2, r3, r4⟩ := off_l (N := N) (t := t) (nl := rn) ht hr1 N 1 μ ⟨rn, hr, g2, by omega, hr1, by omega, rfl⟩
      refine ⟨μ', r1, r2.mo (by simp) (by simp), fun q => ?_, fun q => ?_, r4⟩
      · rw [r2.2 8 (by decide), if_neg (by omega)]
      · rw [r3 q]; rfl
    · rw [if_neg e, if_pos (by omega), if_pos (by omega)]
      obtain ⟨μ', r1, r2, r3, r4, r5⟩ := ih (k + 1) (w3 μ 0 8 (n32 (150 * t + k - nl)) ((μ 0).2 8 (150 * t + k))) (by simp only [w1_s, w1_a, w2_s, w2_a, w3_s, w3_a, tn, nt, tt, true_and, and_true, false_and, and_false, and_self, if_true, if_false, Nat.reduceEqDiff, reduceIte, Nat.reduceAdd]; exact g2) (by omega) (by omega) (by omega)
      refine ⟨μ', r1, (frM.w3 (by decide)).tr r2, fun q => ?_, fun q => by rw [r4 q]; simp only [w1_s, w1_a, w2_s, w2_a, w3_s, w3_a, tn, nt, tt, true_and, and_true, false_and, and_false, and_self, if_true, if_false, Nat.reduceEqDiff, reduceIte, Nat.reduceAdd], by rw [r5]; simp only [w1_s, w1_a, w2_s, w2_a, w3_s, w3_a, tn, nt, tt, true_and, and_true, false_and, and_false, and_self, if_true, if_false, Nat.reduceEqDiff, reduceIte, Nat.reduceAdd]⟩
      rw [r3 q]
      simp (disch := omega) only [w1_s, w1_a, w2_s, w2_a, w3_s, w3_a, tn, nt, tt, true_and, and_true, false_and, and_false, and_self, if_true, if_false, Nat.reduceEqDiff, reduceIte, Nat.reduceAdd, n32_cl, upd_ap]
      by_cases e1 : 150 * t + (k + 1 - nl) ≤ q ∧ q < 150 * t + (cn - nl)
      · rw [if_pos e1, if_neg (by omega), if_pos (by omega)]
      · rw [if_neg e1]
        by_cases e2 : q = 150 * t + k - nl
        · rw [if_pos e2, if_pos (by omega), show q + nl = 150 * t + k by omega]
        · rw [if_neg e2, if_neg (by omega)]
theorem takeM {N : Nat} {σ μ : SX} {t rn cn c : Nat} {ls : Nat → Nat} (hN : 200 ≤ N) (h : TaR σ μ t rn cn c ls) (ht : t < 4) (hr1 : 1 ≤ rn) :
    ∃ μ', m_M_takeOff N μ (n32 t) = some μ' ∧ frM [] [8, 9, 10] μ μ' ∧ (∀ q, (μ' 0).2 8 q = if 150 * t ≤ q ∧ q < 150 * t + (cn - ls 0) then (μ 0).2 8 (q + ls 0) else (μ 0).2 8 q) ∧
      (∀ q, (μ' 0).2 9 q = if 150 * t ≤ q ∧ q < 150 * t + (rn - 1) then (μ 0).2 9 (q + 1) else (μ 0).2 9 q) ∧ (μ' 0).2 10 = upd ((μ 0).2 10) t (n32 (rn - 1)) := by
  have hr := tap_rn h
  have hs := tap_sm h (k := 1) hr1
  obtain ⟨⟨a1, a2⟩, ⟨a3, a4⟩, a5, a6, a7⟩ := id h
  obtain ⟨b1, b2, b3⟩ := a5 0 (by omega)
  have e1 : sm ls 1 = ls 0 := Nat.zero_add _
  rw [e1] at hs
  rw [Nat.add_zero] at b2
  rw [m_M_takeOff, on_eq hN h ht, bI_s]
  simp (disch := omega) only [l0, l1, l2, l3, l4, l8, l20, l150, l300, l1000, ↓lm1, n32_lt, n32_le, n32_eq, n32_inb, n32_cl, n32_add, mi_lt, mi_le, n_le_mi, n_eq_mi, mi_eq_n, n32_mul]
  rw [if_pos (by omega), b2]
  obtain ⟨μ', r1, r2, r3, r4, r5⟩ := off2_l (N := N) (rn := rn) hN ht b3 a4 hr1 (by omega) N (ls 0) μ a2 (Nat.le_refl _) hs (by omega)
  refine ⟨μ', r1, r2, fun q => ?_, r4, r5⟩
  rw [r3 q, Nat.sub_self, Nat.add_zero]
/-- both take: the tape that is taken from -/
theorem tap_take {s s' : SS} {off : Nat} {r r' : Int32} {ta le ta' le' : Nat → Int32} {rn cn c : Nat} {ls : Nat → Nat} (h : TapR s off r ta le rn cn c ls) (h1 : 1 ≤ rn)
    (x1 : s'.1 1 = n32 (rn - 1)) (x2 : s'.1 0 = n32 (cn - ls 0)) (x3 : ∀ q, q < cn - ls 0 → s'.2 1 q = s.2 1 (ls 0 + q)) (x4 : ∀ q, q < rn - 1 → s'.2 2 q = s.2 2 (1 + q))
    (y1 : r' = n32 (rn - 1)) (y2 : ∀ q, ta' q = if off ≤ q ∧ q < off + (cn - ls 0) then ta (q + ls 0) else ta q) (y3 : ∀ q, le' q = if off ≤ q ∧ q < off + (rn - 1) then le (q + 1) else le q) : TapR s' off r' ta' le' (rn - 1) (cn - ls 0) c (fun k => ls (k + 1)) := by
  obtain ⟨⟨a1, a2⟩, ⟨a3, a4⟩, a5, a6, a7⟩ := h
  refine ⟨⟨x1, y1⟩, ⟨x2, by omega⟩, fun k hk => ?_, ?_, fun k hk => ?_⟩
  · rw [x4 k hk, y3, if_pos (by omega), Nat.add_comm 1 k, Nat.add_assoc]
    exact a5 (k + 1) (by omega)
  · have := sm_shift (f := ls) (n := rn - 1)
    rw [show rn - 1 + 1 = rn by omega, a6] at this
    omega
  · rw [x3 k hk, y2, if_pos (by omega), Nat.add_comm (ls 0) k, Nat.add_assoc]
    exact a7 (k + ls 0) (by omega)
