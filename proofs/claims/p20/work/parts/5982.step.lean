/-! Layer B: steps. -/
theorem brk {σ μ : SX} {c p : Nat} (hb : Bas σ μ c p) (hc : Core σ μ c) : Bas (w1 σ 0 1 ((σ 0).1 1 + 1)) (w1 μ 0 8 ((μ 0).1 8 + 1)) c p ∧ Core (w1 σ 0 1 ((σ 0).1 1 + 1)) (w1 μ 0 8 ((μ 0).1 8 + 1)) c := by
  obtain ⟨B1, B2, B3, ⟨rm, B4, B5, B6, B7⟩, B8⟩ := hb
  refine ⟨⟨?_, ?_, fau_fr B3 (fun t ht => by rw [w1_n (by omega)]) (by rw [w1_a]), ⟨rm, B4, B5, by rw [w1_n (by decide)]; exact B6, by simp only [w1_s, w1_a, w2_s, w2_a, w3_s, w3_a, tn, nt, tt, true_and, and_true, false_and, and_false, and_self, if_true, if_false, Nat.reduceEqDiff, reduceIte, Nat.reduceAdd]; exact B7⟩, by rw [w1_s, if_pos ⟨rfl, rfl⟩, w1_s, if_pos ⟨rfl, rfl⟩, B8]⟩, ?_⟩
  · unfold DkR; rw [w1_n (by decide)]; simp only [w1_s, w1_a, w2_s, w2_a, w3_s, w3_a, tn, nt, tt, true_and, and_true, false_and, and_false, and_self, if_true, if_false, Nat.reduceEqDiff, reduceIte, Nat.reduceAdd]; exact B1
  · unfold WR; rw [w1_n (by decide)]; simp only [w1_s, w1_a, w2_s, w2_a, w3_s, w3_a, tn, nt, tt, true_and, and_true, false_and, and_false, and_self, if_true, if_false, Nat.reduceEqDiff, reduceIte, Nat.reduceAdd]; exact B2
  · exact core_fr hc (by simp only [w1_s, w1_a, w2_s, w2_a, w3_s, w3_a, tn, nt, tt, true_and, and_true, false_and, and_false, and_self, if_true, if_false, Nat.reduceEqDiff, reduceIte, Nat.reduceAdd]) (by rw [w1_a]) (w1_n (by decide)) (w1_n (by decide)) (fun t ht => by rw [w1_n (by omega)]; exact ⟨rfl, fun _ _ => rfl⟩) (frM.w1 (by decide))
theorem step_l {N : Nat} (hN : 200 ≤ N) {v c p : Nat} (hv : v ≤ 300) : ∀ (n d : Nat) (σ μ : SX), d ≤ v → v - d < n → Bas σ μ c p → Core σ μ c → ¬ (σ 0).1 0 = n32 0 →
    ∃ r σ' μ', m_O_step_47 N n σ (n32 v) (n32 d) = some (r, σ') ∧ m_M_step_50 N n μ (n32 v) (n32 d) = some (r, μ') ∧ (μ' 0).1 0 = (μ 0).1 0 ∧ Bas σ' μ' c p ∧ Core σ' μ' c := by
  intro n
  induction n with
  | zero => intro d σ μ _ h; omega
  | succ n ih =>
    intro d σ μ hd hn hb hc h0
    rw [m_O_step_47, m_M_step_50]
    by_cases e : d = v
    · subst e
      have le : n32 d ≤ n32 d := by rw [n32_le (by omega) (by omega)]; omega
      rw [if_pos le, if_pos le]
      exact ⟨_, _, _, rfl, rfl, rfl, hb, hc⟩
    have nle : ¬ n32 v ≤ n32 d := by rw [n32_le (by omega) (by omega)]; omega
    rw [if_neg nle, if_neg nle]
    obtain ⟨st, a1, a2, a3⟩ := id hc
    rcases a3 with ⟨rfl, h⟩ | ⟨rfl, h⟩ | ⟨rfl, c1, h⟩ | ⟨rfl, c1, h⟩ | ⟨rfl, h⟩
    · exact absurd a1 h0
    · rw [a1, a2, if_pos (show n32 3 = 3 from rfl), if_pos (show (3 : Int32) ≤ n32 3 by decide)]
      exact ⟨_, _, _, rfl, rfl, rfl, hb, hc⟩
    · obtain ⟨r, σ', μ', x1, x2, x3, x4, x5⟩ := lay_eq hN hb h a1 a2
      rw [a1, a2, if_neg (show ¬ n32 1 = (3 : Int32) by decide), if_neg (show ¬ (3 : Int32) ≤ n32 1 by decide), if_pos (show n32 1 = (1 : Int32) from rfl), if_pos (show n32 1 = (1 : Int32) from rfl), x1, x2, bI_s, bI_s, m_O_step_81]
      rcases x5 with ⟨rfl, y1, y2, y3⟩ | ⟨rfl, y⟩
      · rw [if_pos eq00, if_pos eq00, m_M_step_88]
        obtain ⟨q1, q2⟩ := brk x4 ⟨1, y1, y2, Or.inr (Or.inr (Or.inl ⟨rfl, c1, y3⟩))⟩
        exact ⟨_, _, _, rfl, rfl, by rw [w1_s, if_neg (by decide)]; exact x3, q1, q2⟩
      · rw [if_neg ne10, if_neg ne10, l1, n32_add]
        have co : Core σ' μ' c ∧ ¬ (σ' 0).1 0 = n32 0 := by
          rcases y with ⟨y1, y2, y3⟩ | ⟨y1, y2, y3⟩
          · exact ⟨⟨1, y1, y2, Or.inr (Or.inr (Or.inl ⟨rfl, c1, y3⟩))⟩, by rw [y1]; decide⟩
          · exact ⟨⟨2, y1, y2, Or.inr (Or.inr (Or.inr (Or.inl ⟨rfl, c1, y3⟩)))⟩, by rw [y1]; decide⟩
        obtain ⟨r, σ2, μ2, z1, z2, z3, z4, z5⟩ := ih (d + 1) σ' μ' (by omega) (by omega) x4 co.1 co.2
        exact ⟨r, σ2, μ2, z1, z2, z3.trans x3, z4, z5⟩
    · obtain ⟨r, σ', μ', x1, x2, x3, x4, x5⟩ := merge_eq hN hb h a1 a2
      rw [a1, a2, if_neg (show ¬ n32 2 = (3 : Int32) by decide), if_neg (show ¬ (3 : Int32) ≤ n32 2 by decide), if_neg (show ¬ n32 2 = (1 : Int32) by decide), if_neg (show ¬ n32 2 = (1 : Int32) by decide), x1, x2, bI_s, bI_s, m_O_step_81]
      rcases x5 with ⟨rfl, y1, y2, y3⟩ | ⟨rfl, y⟩
      · rw [if_pos eq00, if_pos eq00, m_M_step_88]
        obtain ⟨q1, q2⟩ := brk x4 ⟨2, y1, y2, Or.inr (Or.inr (Or.inr (Or.inl ⟨rfl, c1, y3⟩)))⟩
        exact ⟨_, _, _, rfl, rfl, by rw [w1_s, if_neg (by decide)]; exact x3, q1, q2⟩
      · rw [if_neg ne10, if_neg ne10, l1, n32_add]
        have co : Core σ' μ' c ∧ ¬ (σ' 0).1 0 = n32 0 := by
          rcases y with ⟨y1, y2, y3⟩ | ⟨y1, y2, y3⟩
          · exact ⟨⟨2, y1, y2, Or.inr (Or.inr (Or.inr (Or.inl ⟨rfl, c1, y3⟩)))⟩, by rw [y1]; decide⟩
          · exact ⟨⟨3, y1, y2, Or.inr (Or.inr (Or.inr (Or.inr ⟨rfl, c1, y3⟩)))⟩, by rw [y1]; decide⟩
        obtain ⟨r, σ2, μ2, z1, z2, z3, z4, z5⟩ := ih (d + 1) σ' μ' (by omega) (by omega) x4 co.1 co.2
        exact ⟨r, σ2, μ2, z1, z2, z3.trans x3, z4, z5⟩
    · rw [a1, a2, if_pos (show n32 3 = 3 from rfl), if_pos (show (3 : Int32) ≤ n32 3 by decide)]
      exact ⟨_, _, _, rfl, rfl, rfl, hb, hc⟩
theorem step_eq {N : Nat} {σ μ : SX} {a : Int32} {f : Nat → Int64} (hN : 400 ≤ N) (h : R σ μ) : ansL (m_L_step N σ f a) (m_M_step N μ a) σ f := by
  obtain ⟨c, p, hb, hc⟩ := id h
  have bad1 : m_O_step N σ a = none → xm_O_step N σ a = some 1 → m_M_step N μ a = m_M_step_13 N μ a → ansL (m_L_step N σ f a) (m_M_step N μ a) σ f := fun q1 q2 q3 => by
    refine Or.inr ⟨1, 0, w1 μ 0 0 1, by decide, ?_, ?_, w0_0, R_w0 h⟩
    · rw [m_L_step, q1, q2]; rfl
    · rw [q3, m_M_step_13, m_M_step_36, w0_0]; rfl
  have bad2 : m_O_step N σ a = none → xm_O_step N σ a = some 0 → m_M_step N μ a = m_M_step_31 N μ a → ansL (m_L_step N σ f a) (m_M_step N μ a) σ f := fun q1 q2 q3 => by
    refine Or.inr ⟨2, 0, w1 μ 0 0 2, by decide, ?_, ?_, w0_0, R_w0 h⟩
    · rw [m_L_step, q1, q2]; rfl
    · rw [q3, m_M_step_31, m_M_step_36, w0_0]; rfl
  by_cases e1 : a < 1
  · exact bad1 (by rw [m_O_step, if_pos e1]) (by rw [xm_O_step, if_pos e1]) (by rw [m_M_step, if_pos e1])
  by_cases e2 : a ≤ 300
  · rcases st_0 hc with ⟨s1, s2, -⟩ | ⟨s1, s2, -⟩
    · have s1' : (σ 0).1 0 = 0 := s1
      have s2' : (μ 0).1 4 = 0 := s2
      exact bad2 (by rw [m_O_step, if_neg e1, if_pos e2, if_pos s1']) (by rw [xm_O_step, if_neg e1, if_pos e2, if_pos s1']) (by rw [m_M_step, if_neg e1, if_pos e2, if_pos s2'])
    · have s1' : ¬ (σ 0).1 0 = 0 := s1
      have s2' : ¬ (μ 0).1 4 = 0 := s2
      by_cases e3 : (μ 0).1 5 = 0
      · exact bad2 (by rw [m_O_step, if_neg e1, if_pos e2, if_neg s1', pow_x hb.2.1, bI_s, if_pos e3]) (by rw [xm_O_step, if_neg e1, if_pos e2, if_neg s1', pow_x hb.2.1, bI_s, if_pos e3]) (by rw [m_M_step, if_neg e1, if_pos e2, if_neg s2', if_pos e3])
      · have nn : ¬ a < 0 := fun q => e1 (by rw [Int32.lt_iff_toInt_lt] at q ⊢; have : (1 : Int32).toInt = 1 := rfl; have : (0 : Int32).toInt = 0 := rfl; omega)
        obtain ⟨v, hv, rfl⟩ := ge0 nn
        have v3 : v ≤ 300 := by rw [l300, n32_le (by omega) (by omega)] at e2; exact e2
        obtain ⟨r, σ', μ', x1, x2, x3, x4, x5⟩ := step_l (N := N) (v := v) (by omega) v3 N 0 σ (w1 μ 0 0 0) (by omega) (by omega) (bas_w0 hb) (core_m hc (frM.w1 (by decide))) s1
        refine Or.inl ⟨r, σ', μ', ?_, ?_, by rw [x3, w0_0], c, p, x4, x5⟩
        · rw [m_L_step, m_O_step, if_neg e1, if_pos e2, if_neg s1', pow_x hb.2.1, bI_s, if_neg e3, show (0 : Int32) = n32 0 from rfl, x1]
        · rw [m_M_step, if_neg e1, if_pos e2, if_neg s2', if_neg e3, m_M_step_36, w0_0, if_pos (by decide)]; exact x2
  · exact bad1 (by rw [m_O_step, if_neg e1, if_neg e2]) (by rw [xm_O_step, if_neg e1, if_neg e2]) (by rw [m_M_step, if_neg e1, if_neg e2])
