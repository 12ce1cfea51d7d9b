/-! Layer B: the deck of both, and its order. -/
def isC (c : Nat) (v : Int32) : Prop := ∃ q, q < c ∧ v = n32 q
def DeckR (d : SS) (mc mp : Int32) (fl pf wy : Nat → Int32) (c p : Nat) : Prop :=
  (d.1 0 = n32 c ∧ mc = n32 c ∧ c ≤ 150) ∧ (d.1 1 = n32 p ∧ mp = n32 p ∧ p ≤ 3) ∧ (∀ k, k < c → d.2 1 k = fl (2 * k) ∧ d.2 2 k = fl (2 * k + 1)) ∧
  ∀ k, k < p → d.2 3 k = pf k ∧ d.2 4 k = wy k ∧ (pf k = n32 0 ∨ pf k = n32 1) ∧ (wy k = n32 0 ∨ wy k = n32 1 ∨ wy k = n32 2 ∨ wy k = n32 3)
abbrev DkR (σ μ : SX) (c p : Nat) : Prop := DeckR (σ 1) ((μ 0).1 2) ((μ 0).1 3) ((μ 0).2 1) ((μ 0).2 2) ((μ 0).2 3) c p
theorem cmp0 {a : Int32} : (0 ≤ lg_cmp a.toInt64 0) ↔ 0 ≤ a := by
  have e : (0 : Int64).toInt = 0 := rfl
  have h1 : (a.toInt64 > 0) ↔ (0 : Int) < a.toInt := by
    rw [gt_iff_lt, Int64.lt_iff_toInt_lt, Int32.toInt_toInt64, e]
  have h2 : (a.toInt64 = 0) ↔ a.toInt = 0 := by
    rw [← Int64.toInt_inj, Int32.toInt_toInt64, e]
  have h3 : (0 ≤ a) ↔ (0 : Int) ≤ a.toInt := by rw [Int32.le_iff_toInt_le, Int32.toInt_zero]
  unfold lg_cmp
  by_cases q1 : a.toInt64 > 0
  · rw [if_pos q1, h3]
    have := h1.mp q1
    exact ⟨fun _ => by omega, fun _ => by decide⟩
  · rw [if_neg q1, h3]
    have n1 : ¬ (0 : Int) < a.toInt := fun q => q1 (h1.mpr q)
    by_cases q2 : a.toInt64 = 0
    · rw [if_pos q2]
      have := h2.mp q2
      exact ⟨fun _ => by omega, fun _ => by decide⟩
    · rw [if_neg q2]
      have n2 : ¬ a.toInt = 0 := fun q => q2 (h2.mpr q)
      exact ⟨fun q => absurd q (by decide), fun _ => by omega⟩
theorem rank_eq {w v : Int32} (h : w = n32 0 ∨ w = n32 1 ∨ w = n32 2 ∨ w = n32 3) : ∃ r, m_D_rank w v = some r ∧ m_M_standing v w = some r := by
  rcases h with rfl | rfl | rfl | rfl
  · exact ⟨v.toInt64, rfl, rfl⟩
  · exact ⟨-v.toInt64, rfl, rfl⟩
  · exact ⟨v.toInt64 &&& 4294967295, rfl, rfl⟩
  · by_cases q : 0 ≤ v
    · refine ⟨v.toInt64, ?_, ?_⟩
      · show (if 0 ≤ (lg_cmp v.toInt64 0) then some v.toInt64 else some (-v.toInt64)) = _
        rw [if_pos (cmp0.mpr q)]
      · show (if 0 ≤ v then some v.toInt64 else some (-v.toInt64)) = _
        rw [if_pos q]
    · refine ⟨-v.toInt64, ?_, ?_⟩
      · show (if 0 ≤ (lg_cmp v.toInt64 0) then some v.toInt64 else some (-v.toInt64)) = _
        rw [if_neg (fun h => q (cmp0.mp h))]
      · show (if 0 ≤ v then some v.toInt64 else some (-v.toInt64)) = _
        rw [if_neg q]
theorem has_c {N : Nat} {σ μ : SX} {c p q : Nat} (h : DkR σ μ c p) (hq : q < 2147483648) : m_D_hasCard N σ (n32 q) = some (if q < c then n32 1 else n32 0, σ) := by
  obtain ⟨⟨a1, a2, a3⟩, -⟩ := h
  rw [m_D_hasCard, a1]
  simp (disch := omega) only [l0, l1, n32_lt, n32_le]
  by_cases e : q < c
  · rw [if_neg (by omega), if_neg (by omega), if_pos e]
  · rw [if_neg (by omega), if_pos (by omega), if_neg e]
/-- a card's value in a field -/
theorem val_eq {N : Nat} {σ μ : SX} {c p : Nat} (h : DkR σ μ c p) {q f : Nat} (hq : q < c) (hf : f ≤ 1) : m_D_value N σ (n32 q) (n32 f) = some ((μ 0).2 1 (2 * q + f), σ) := by
  have hc := has_c (N := N) (q := q) h (by have := h.1.2.2; omega)
  rw [if_pos hq] at hc
  obtain ⟨⟨a1, a2, a3⟩, -, a4, -⟩ := h
  obtain ⟨b1, b2⟩ := a4 q hq
  rw [m_D_value, hc, bI_s, m_O_isField]
  simp (disch := omega) only [l0, l1, l2, n32_lt, n32_le, n32_eq, n32_inb, n32_cl]
  have e2 : ¬ (1 = 0) := by omega
  rw [if_neg e2, if_neg (by omega), if_neg (by omega), bP_s]
  simp (disch := omega) only [n32_eq]
  rw [if_neg e2, if_pos (by omega)]
  by_cases e : f = 0
  · rw [if_pos e, if_pos (by omega), b1, e]; rfl
  · rw [if_neg e, if_pos (by omega), b2, show f = 1 by omega]
theorem cmp_l {N : Nat} {σ μ : SX} {c p : Nat} (h : DkR σ μ c p) {x y : Nat} (hx : x < c) (hy : y < c) : ∀ (n k : Nat), k ≤ p → p - k < n →
    ∃ r, (r = n32 0 ∨ r = n32 1) ∧ m_D_comesBefore_2 N n σ (n32 x) (n32 y) (n32 k) = some (r, σ) ∧ m_M_comesFirst_2 N n μ (n32 x) (n32 y) (n32 k) = some (r, μ) := by
  intro n
  induction n with
  | zero => intro k h1 h2; omega
  | succ n ih =>
    intro k h1 h2
    obtain ⟨⟨a1, a2, a3⟩, ⟨a4, a5, a6⟩, a7, a8⟩ := id h
    rw [m_D_comesBefore_2, m_M_comesFirst_2, a4, a5]
    simp (disch := omega) only [l0, l1, l2, n32_lt, n32_le, n32_eq, n32_inb, n32_cl, n32_add, n32_mul]
    by_cases e : p ≤ k
    · rw [if_pos e, if_pos e]
      by_cases e2 : y ≤ x
      · rw [if_pos e2, if_pos e2]; exact ⟨_, Or.inl rfl, rfl, rfl⟩
      · rw [if_neg e2, if_neg e2]; exact ⟨_, Or.inr rfl, rfl, rfl⟩
    · obtain ⟨b1, b2, b3, b4⟩ := a8 k (by omega)
      have hf : ∃ f, f ≤ 1 ∧ (μ 0).2 2 k = n32 f := by
        rcases b3 with e | e
        · exact ⟨0, by omega, e⟩
        · exact ⟨1, by omega, e⟩
      obtain ⟨f, f1, f2⟩ := hf
      obtain ⟨r1, c1, c2⟩ := rank_eq (v := (μ 0).2 1 (2 * x + f)) b4
      obtain ⟨r2, c3, c4⟩ := rank_eq (v := (μ 0).2 1 (2 * y + f)) b4
      have hk : k < 3 := by omega
      rw [if_neg e, if_neg e, b1, b2, f2, val_eq h hx f1, val_eq h hy f1]
      simp (disch := omega) only [n32_add, n32_inb, n32_cl, bI_s]
      rw [c1, c2, c3, c4]
      simp only [bL_s, if_pos hk, if_pos (show 2 * x + f < 300 by omega), if_pos (show 2 * y + f < 300 by omega)]
      by_cases e3 : lg_cmp r1 r2 = n32 0
      · rw [if_pos e3, if_pos e3]; exact ih (k + 1) (by omega) (by omega)
      · rw [if_neg e3, if_neg e3]
        by_cases e4 : n32 0 ≤ lg_cmp r1 r2
        · rw [if_pos e4, if_pos e4]; exact ⟨_, Or.inl rfl, rfl, rfl⟩
        · rw [if_neg e4, if_neg e4]; exact ⟨_, Or.inr rfl, rfl, rfl⟩
/-- both order two cards alike -/
theorem cmp_eq {N : Nat} {σ μ : SX} {c p : Nat} (hN : 10 ≤ N) (h : DkR σ μ c p) {a b : Int32} (ha : isC c a) (hb : isC c b) :
    ∃ r, (r = n32 0 ∨ r = n32 1) ∧ m_D_comesBefore N σ a b = some (r, σ) ∧ m_M_comesFirst N μ a b = some (r, μ) := by
  obtain ⟨x, hx, rfl⟩ := ha
  obtain ⟨y, hy, rfl⟩ := hb
  have := h.2.1.2.2
  exact cmp_l h hx hy N 0 (by omega) (by omega)
