/-! Layer B: the heads of the sources. -/
def hdd (rl dn : Nat → Nat) (ls : Nat → Nat → Nat) (k : Nat) : Nat := if dn (rl k) = 0 then ls (rl k) 0 else 0
def cdd (μ : SX) (rl hk : Nat → Nat) (k : Nat) : Int32 := (μ 0).2 8 (150 * rl k + hk k)
def HdR (σ μ : SX) (c : Nat) (rl rn cn dn : Nat → Nat) (ls : Nat → Nat → Nat) (hk : Nat → Nat) : Prop :=
  TapesL σ μ c rn cn ls ∧ DumR σ μ dn ∧ RolR σ μ rl ∧ (∀ k, k < 3 → 1 ≤ rn (rl k) + dn (rl k) ∧ dn (rl k) ≤ 150) ∧ ∀ k, k < 3 → (σ 0).2 2 k = n32 (hk k) ∧ (σ 0).2 3 k = n32 (hdd rl dn ls k) ∧ (μ 0).2 16 k = n32 (hk k) ∧ hk k ≤ hdd rl dn ls k
theorem rol_x {N : Nat} {σ μ : SX} {rl : Nat → Nat} {k : Nat} (h : RolR σ μ rl) (hk : k < 4) : m_O_tapeInRole N σ (n32 k) = some (rl k, σ) := by
  obtain ⟨a1, a2, a3⟩ := h k hk
  rw [m_O_tapeInRole, if_pos (inbn (by omega) hk), n32_cl (by omega), a1, if_pos (inbn (by omega) a3), n32_cl (by omega)]
theorem dum_x {N : Nat} {σ : SX} {d t : Nat} (h : (σ (7 + t)).1 2 = n32 d) (hd : d ≤ 150) : m_T_hasDummy N σ t = some (if d = 0 then n32 0 else n32 1, σ) := by
  rw [m_T_hasDummy, h, l0]
  by_cases e : d = 0
  · rw [if_pos e, if_pos (by rw [e]; decide)]
  · rw [if_neg e, if_neg (by rw [n32_le (by omega) (by omega)]; omega)]; rfl
theorem hd_cn {t : SS} {off : Nat} {r : Int32} {ta le : Nat → Int32} {rn cn c : Nat} {ls : Nat → Nat} (h : TapR t off r ta le rn cn c ls) (h1 : 1 ≤ rn) : ls 0 ≤ cn ∧ 1 ≤ ls 0 := by
  have := tap_sm h (k := 1) h1
  rw [sm, sm] at this
  exact ⟨by omega, (h.2.2.1 0 h1).2.2⟩
theorem next_c {N : Nat} {σ μ : SX} {c : Nat} {rl rn cn dn hk : Nat → Nat} {ls : Nat → Nat → Nat} (hN : 200 ≤ N) (h : HdR σ μ c rl rn cn dn ls hk) {k : Nat} (k3 : k < 3) (hlt : hk k < hdd rl dn ls k) :
    m_O_nextCardOf N σ (n32 k) = some (cdd μ rl hk k, σ) ∧ isC c (cdd μ rl hk k) ∧ dn (rl k) = 0 ∧ hk k < 150 := by
  obtain ⟨h1, h2, h3, h4, h5⟩ := h
  obtain ⟨a1, a2, a3⟩ := h3 k (by omega)
  have d0 : dn (rl k) = 0 := by
    unfold hdd at hlt
    by_cases e : dn (rl k) = 0
    · exact e
    · rw [if_neg e] at hlt; omega
  have hl : hk k < ls (rl k) 0 := by unfold hdd at hlt; rw [if_pos d0] at hlt; exact hlt
  have h6 := h1 (rl k) a3
  have h7 := (h4 k k3).1
  have q := hd_cn h6 (by omega)
  have q2 := h6.2.1.2
  have q3 := h6.2.2.2.2 (hk k) (by omega)
  refine ⟨?_, q3.2, d0, by omega⟩
  rw [m_O_nextCardOf, rol_x h3 (by omega), bR_s, if_pos (inbn (by omega) k3), n32_cl (by omega), (h5 k k3).1, l0, corX hN h6 (r := 0) (i := hk k) (by omega) hl, bI_s, sm, Nat.zero_add, q3.1]
  rfl
theorem pick_l {N : Nat} {σ μ : SX} {c p : Nat} {rl rn cn dn hk : Nat → Nat} {ls : Nat → Nat → Nat} (hN : 200 ≤ N) (hd : DkR σ μ c p) (h : HdR σ μ c rl rn cn dn ls hk) (k27 : SX → Int32 → Option (Int32 × SX)) : ∀ (n k : Nat) (b v : Int32), k ≤ 3 → 3 - k < n → ((b = mi ∧ v = mi) ∨ ∃ q, q < 3 ∧ b = n32 q ∧ hk q < hdd rl dn ls q ∧ v = cdd μ rl hk q) →
    ∃ b', m_O_sourceOfFirstCard_4 N n σ b (n32 k) = some (b', σ) ∧ ((b' = mi ∧ b = mi ∧ (∀ q, k ≤ q → q < 3 → hdd rl dn ls q ≤ hk q) ∧ m_M_mergeRuns_37 N k27 n μ b v (n32 k) = k27 μ mi) ∨
      ∃ q, q < 3 ∧ b' = n32 q ∧ hk q < hdd rl dn ls q ∧ m_M_mergeRuns_37 N k27 n μ b v (n32 k) = bI (m_M_write N (w3 μ 0 16 (n32 q) (n32 (hk q + 1))) (cdd μ rl hk q)) fun r170 σ170 => (if r170 = n32 0 then some (n32 0, σ170) else k27 σ170 (n32 q))) := by
  intro n
  induction n with
  | zero => intro k b v _ h; omega
  | succ n ih =>
    intro k b v k3 hn hb
    obtain ⟨h1, h2, h3, h4, h5⟩ := id h
    rw [m_O_sourceOfFirstCard_4, m_M_mergeRuns_37, l3]
    by_cases e : k = 3
    · subst e
      have le3 : n32 3 ≤ n32 3 := by rw [n32_le (by omega) (by omega)]; omega
      rw [if_pos le3, if_pos le3]
      refine ⟨b, rfl, ?_⟩
      rcases hb with ⟨rfl, rfl⟩ | ⟨q, q3, rfl, q4, rfl⟩
      · exact Or.inl ⟨rfl, rfl, fun q a b => by omega, if_pos (by decide)⟩
      · refine Or.inr ⟨q, q3, rfl, q4, ?_⟩
        have qb : inb (n32 q) 3 = true := inbn (by omega) q3
        have q5 := (next_c hN h q3 q4).2.2.2
        rw [if_neg (nlt0 (by omega)), if_pos qb, if_pos qb, n32_cl (by omega), (h5 q q3).2.2.1, l1, n32_add]
        rfl
    · have k3' : k < 3 := by omega
      obtain ⟨a1, a2, a3⟩ := h3 k (by omega)
      obtain ⟨b1, b2, b3, b4⟩ := h5 k k3'
      have nl3 : ¬ n32 3 ≤ n32 k := by rw [n32_le (by omega) (by omega)]; omega
      have kb : inb (n32 k) 3 = true := inbn (by omega) k3'
      have kb4 : inb (n32 k) 4 = true := inbn (by omega) (by omega)
      have ck : (n32 k).toNatClampNeg = k := n32_cl (by omega)
      have cr : (n32 (rl k)).toNatClampNeg = rl k := n32_cl (by omega)
      have rb : inb (n32 (rl k)) 4 = true := inbn (by omega) a3
      have c15 : (150 : Int32) * n32 (rl k) = n32 (150 * rl k) := by rw [l150, n32_mul]
      have c15c : (n32 (150 * rl k)).toNatClampNeg = 150 * rl k := n32_cl (by omega)
      have r6 : inb (n32 (150 * rl k)) 600 = true := inbn (by omega) (by omega)
      have kp : n32 k + 1 = n32 (k + 1) := by rw [l1, n32_add]
      have d2 := (h2 (rl k) a3).2
      have h6 := h1 (rl k) a3
      have h7 := h4 k k3'
      rw [if_neg nl3, if_neg nl3, if_pos kb, if_pos kb, ck, b1, b2, if_pos kb4, a2, if_pos rb, cr, d2, kp, c15, c15c]
      by_cases e0 : dn (rl k) = 0
      · have hq := hd_cn h6 (by omega)
        have hq2 := h6.2.1.2
        have hdk : hdd rl dn ls k = ls (rl k) 0 := if_pos e0
        have le0 : (μ 0).2 9 (150 * rl k) = n32 (ls (rl k) 0) := (h6.2.2.1 0 (by omega)).2.1
        have z0 : n32 (dn (rl k)) = 0 := by rw [e0]; rfl
        rw [if_pos z0, if_pos kb, if_pos r6, le0, hdk, b3]
        by_cases e1 : ls (rl k) 0 ≤ hk k
        · have e2 : n32 (ls (rl k) 0) ≤ n32 (hk k) := by rw [n32_le (by omega) (by omega)]; exact e1
          rw [if_pos e2, if_pos e2]
          obtain ⟨b', w1, w2⟩ := ih (k + 1) b v (by omega) (by omega) hb
          refine ⟨b', w1, ?_⟩
          rcases w2 with ⟨u1, u2, u3, u4⟩ | w2
          · refine Or.inl ⟨u1, u2, fun q x y => ?_, u4⟩
            by_cases eq : q = k
            · subst eq; rw [hdk]; exact e1
            · exact u3 q (by omega) y
          · exact Or.inr w2
        · have e2 : ¬ n32 (ls (rl k) 0) ≤ n32 (hk k) := by rw [n32_le (by omega) (by omega)]; exact e1
          have hlt : hk k < hdd rl dn ls k := by rw [hdk]; omega
          have r7 : inb (n32 (150 * rl k + hk k)) 600 = true := inbn (by omega) (by omega)
          have r8 : (n32 (150 * rl k + hk k)).toNatClampNeg = 150 * rl k + hk k := n32_cl (by omega)
          obtain ⟨x1, x2, x3, x4⟩ := next_c hN h k3' hlt
          rw [if_neg e2, if_neg e2, if_pos kb, n32_add, if_pos r7, r8]
          have fin : ∃ b', m_O_sourceOfFirstCard_4 N n σ (n32 k) (n32 (k + 1)) = some (b', σ) ∧ ((b' = mi ∧ b = mi ∧ (∀ q, k ≤ q → q < 3 → hdd rl dn ls q ≤ hk q) ∧ m_M_mergeRuns_37 N k27 n μ (n32 k) (cdd μ rl hk k) (n32 (k + 1)) = k27 μ mi) ∨
      ∃ q, q < 3 ∧ b' = n32 q ∧ hk q < hdd rl dn ls q ∧ m_M_mergeRuns_37 N k27 n μ (n32 k) (cdd μ rl hk k) (n32 (k + 1)) = bI (m_M_write N (w3 μ 0 16 (n32 q) (n32 (hk q + 1))) (cdd μ rl hk q)) fun r170 σ170 => (if r170 = n32 0 then some (n32 0, σ170) else k27 σ170 (n32 q))) := by
            obtain ⟨b', w1, w2⟩ := ih (k + 1) (n32 k) (cdd μ rl hk k) (by omega) (by omega) (Or.inr ⟨k, k3', rfl, hlt, rfl⟩)
            refine ⟨b', w1, ?_⟩
            rcases w2 with ⟨u1, u2, u3, u4⟩ | w2
            · exact absurd u2 (by rw [n_eq_mi (by omega)]; exact id)
            · exact Or.inr w2
          rcases hb with ⟨rfl, rfl⟩ | ⟨q, q3, rfl, q4, rfl⟩
          · rw [if_pos (show mi = -1 from rfl), if_pos (show mi < 0 by decide), m_M_mergeRuns_114, m_M_mergeRuns_119, if_neg (show ¬ (1 : Int32) = 0 by decide), m_M_mergeRuns_131, if_neg (show ¬ (1 : Int32) = 0 by decide), kp]
            exact fin
          · obtain ⟨y1, y2, y3, y4⟩ := next_c hN h q3 q4
            obtain ⟨r, g1, g2, g3⟩ := cmp_eq (N := N) (by omega) hd x2 y2
            rw [if_neg (show ¬ n32 q = -1 by rw [lm1, n_eq_mi (by omega)]; exact id), if_neg (nlt0 (by omega)), x1, bI_s, y1, bI_s, g2, bI_s]
            rw [show (μ 0).2 8 (150 * rl k + hk k) = cdd μ rl hk k from rfl, g3, bI_s]
            rcases g1 with rfl | rfl
            · rw [if_pos eq00, if_pos eq00, m_M_mergeRuns_119, if_pos (show (0 : Int32) = 0 from rfl), m_M_mergeRuns_131, if_pos (show (0 : Int32) = 0 from rfl), kp]
              obtain ⟨b', w1, w2⟩ := ih (k + 1) (n32 q) (cdd μ rl hk q) (by omega) (by omega) (Or.inr ⟨q, q3, rfl, q4, rfl⟩)
              refine ⟨b', w1, ?_⟩
              rcases w2 with ⟨u1, u2, u3, u4⟩ | w2
              · exact absurd u2 (by rw [n_eq_mi (by omega)]; exact id)
              · exact Or.inr w2
            · rw [if_neg ne10, if_neg ne10, m_M_mergeRuns_114, m_M_mergeRuns_119, if_neg (show ¬ (1 : Int32) = 0 by decide), m_M_mergeRuns_131, if_neg (show ¬ (1 : Int32) = 0 by decide), kp]
              exact fin
      · have hdk : hdd rl dn ls k = 0 := if_neg e0
        have z0 : ¬ n32 (dn (rl k)) = 0 := by rw [l0, n32_eq (by omega) (by omega)]; exact e0
        have e2 : n32 (hdd rl dn ls k) ≤ n32 (hk k) := by rw [n32_le (by omega) (by omega)]; omega
        rw [if_neg z0, if_pos e2]
        obtain ⟨b', w1, w2⟩ := ih (k + 1) b v (by omega) (by omega) hb
        refine ⟨b', w1, ?_⟩
        rcases w2 with ⟨u1, u2, u3, u4⟩ | w2
        · refine Or.inl ⟨u1, u2, fun q x y => ?_, u4⟩
          by_cases eq : q = k
          · subst eq; rw [hdk]; omega
          · exact u3 q (by omega) y
        · exact Or.inr w2
