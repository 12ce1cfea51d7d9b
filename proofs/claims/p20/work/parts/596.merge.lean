/-! Layer B: runs are merged. -/
theorem evd_s {N n k : Nat} {σ μ : SX} {rl dn : Nat → Nat} (hd : DumR σ μ dn) (hr : RolR σ μ rl) (k3 : k < 3) (h : dn (rl k) ≤ 150) : m_O_everySourceHasDummy_2 N (n + 1) σ (n32 k) = if dn (rl k) = 0 then some (n32 0, σ) else m_O_everySourceHasDummy_2 N n σ (n32 (k + 1)) := by
  have nl3 : ¬ n32 3 ≤ n32 k := by rw [n32_le (by omega) (by omega)]; omega
  rw [m_O_everySourceHasDummy_2, l3, if_neg nl3, rol_x hr (by omega), bR_s, dum_x (hd (rl k) (hr k (by omega)).2.2).1 h, bI_s, l1, n32_add]
  by_cases e : dn (rl k) = 0
  · rw [if_pos e, if_pos e, if_pos eq00]; rfl
  · rw [if_neg e, if_neg e, if_neg ne10]
def anyD (rl dn : Nat → Nat) : Prop := dn (rl 0) = 0 ∨ dn (rl 1) = 0 ∨ dn (rl 2) = 0
theorem evd_x {N : Nat} {σ μ : SX} {rl dn : Nat → Nat} (hN : 200 ≤ N) (hd : DumR σ μ dn) (hr : RolR σ μ rl) (h : ∀ k, k < 3 → dn (rl k) ≤ 150) : (anyD rl dn ∧ m_O_everySourceHasDummy N σ = some (n32 0, σ) ∧ m_M_merge N μ = m_M_merge_46 N μ) ∨ (¬ anyD rl dn ∧ m_O_everySourceHasDummy N σ = some (n32 1, σ) ∧ m_M_merge N μ = m_M_merge_47 N μ 1) := by
  obtain ⟨n, rfl⟩ : ∃ n, N = n + 4 := ⟨N - 4, by omega⟩
  have c0 : (0 : Int32).toNatClampNeg = 0 := by decide
  have c1 : (1 : Int32).toNatClampNeg = 1 := by decide
  have c2 : (2 : Int32).toNatClampNeg = 2 := by decide
  obtain ⟨a1, a2, a3⟩ := hr 0 (by omega)
  obtain ⟨b1, b2, b3⟩ := hr 1 (by omega)
  obtain ⟨d1, d2, d3⟩ := hr 2 (by omega)
  have g0 := h 0 (by omega)
  have g1 := h 1 (by omega)
  have g2 := h 2 (by omega)
  have le : ∀ d, d ≤ 150 → d ≠ 0 → ¬ n32 d ≤ (0 : Int32) := fun d h1 h2 => by rw [l0, n32_le (by omega) (by omega)]; omega
  rw [m_O_everySourceHasDummy, m_M_merge, c0, c1, c2, a2, b2, d2, if_pos (inbn (by omega) a3), if_pos (inbn (by omega) b3), if_pos (inbn (by omega) d3), n32_cl (by omega), n32_cl (by omega), n32_cl (by omega), (hd (rl 0) a3).2, (hd (rl 1) b3).2, (hd (rl 2) d3).2]
  rw [show (0 : Int32) = n32 0 from rfl, evd_s hd hr (by omega) g0, evd_s hd hr (by omega) g1, evd_s hd hr (by omega) g2]
  by_cases e0 : dn (rl 0) = 0
  · rw [if_pos e0, if_pos (show n32 (dn (rl 0)) ≤ n32 0 by rw [e0]; decide)]
    exact Or.inl ⟨Or.inl e0, rfl, rfl⟩
  · rw [if_neg e0, if_neg (show ¬ n32 (dn (rl 0)) ≤ n32 0 from le _ g0 e0)]
    by_cases e1 : dn (rl 1) = 0
    · rw [if_pos e1, if_pos (show n32 (dn (rl 1)) ≤ n32 0 by rw [e1]; decide)]
      exact Or.inl ⟨Or.inr (Or.inl e1), rfl, rfl⟩
    · rw [if_neg e1, if_neg (show ¬ n32 (dn (rl 1)) ≤ n32 0 from le _ g1 e1)]
      by_cases e2 : dn (rl 2) = 0
      · rw [if_pos e2, if_pos (show n32 (dn (rl 2)) ≤ n32 0 by rw [e2]; decide)]
        exact Or.inl ⟨Or.inr (Or.inr e2), rfl, rfl⟩
      · rw [if_neg e2, if_neg (show ¬ n32 (dn (rl 2)) ≤ n32 0 from le _ g2 e2), m_O_everySourceHasDummy_2, if_pos (by decide)]
        exact Or.inr ⟨fun q => q.elim e0 (fun q => q.elim e1 e2), rfl, rfl⟩
theorem mer_fr {σ μ σ' μ' : SX} {c : Nat} (h : MerR σ μ c) (x2 : σ' 2 = σ 2) (x4 : σ' 4 = σ 4) (x0 : (σ' 0).2 1 = (σ 0).2 1) (xt : ∀ t, t < 4 → (σ' (7 + t)).2 = (σ (7 + t)).2 ∧ ∀ q, q ≠ 3 → (σ' (7 + t)).1 q = (σ (7 + t)).1 q) (fm : frM [5, 6, 7, 16] [4, 15, 16] μ μ') : MerR σ' μ' c := by
  obtain ⟨nn, rn, cn, dn, ls, lv, x, y, z, m, rl, h1, h2, h3, h4, h5, h6, h7, hh⟩ := h
  refine ⟨nn, rn, cn, dn, ls, lv, x, y, z, m, rl, ?_, ?_, ?_, ?_, h5, by rw [x4]; exact h6, by rw [fm.1 12 (by decide)]; exact h7, hh⟩
  · unfold StR; rw [x2, fm.1 9 (by decide), fm.1 10 (by decide), fm.2 5 (by decide), fm.2 6 (by decide)]; exact h1
  · exact tapes_fr h2 (fun t ht => ⟨(xt t ht).1, (xt t ht).2 0 (by decide), (xt t ht).2 1 (by decide)⟩) (fm.2 8 (by decide)) (fm.2 9 (by decide)) (fm.2 10 (by decide))
  · intro t ht; rw [(xt t ht).2 2 (by decide), fm.2 11 (by decide)]; exact h3 t ht
  · intro t ht; rw [x0, fm.2 12 (by decide)]; exact h4 t ht
theorem tf_l {f : Nat → SS} {σ μ μ' : SX} {c : Nat} {rn cn : Nat → Nat} {ls : Nat → Nat → Nat} (h : TapesF f μ c rn cn ls) (hx : ∀ t, t < 4 → (σ (7 + t)).2 = (f t).2 ∧ (σ (7 + t)).1 0 = (f t).1 0 ∧ (σ (7 + t)).1 1 = (f t).1 1)
    (h8 : (μ' 0).2 8 = (μ 0).2 8) (h9 : (μ' 0).2 9 = (μ 0).2 9) (h10 : (μ' 0).2 10 = (μ 0).2 10) : TapesL σ μ' c rn cn ls := fun t ht => by
  obtain ⟨e1, e2, e3⟩ := hx t ht
  have := h t ht
  unfold TaR TapR
  unfold TapR at this
  rw [e1, e2, e3, h8, h9, h10]; exact this
theorem mer_A {N : Nat} {σ μ : SX} {th : Int32} {c p nn lv x y z m : Nat} {rn cn dn rl : Nat → Nat} {ls : Nat → Nat → Nat} (hN : 200 ≤ N) (hth : (μ 0).1 0 = th) (hb : Bas σ μ c p) (hst : (σ 0).1 0 = n32 2) (hph : (μ 0).1 4 = n32 2)
    (h1 : StR σ μ 0 nn c) (h2 : TapesL σ μ c rn cn ls) (h3 : DumR σ μ dn) (h4 : RolR σ μ rl) (h5 : Perm4 rl) (h6 : (σ 4).1 0 = n32 lv) (h7 : (μ 0).1 12 = n32 lv) (h8 : Pn lv = (x, y, z)) (h9 : 1 ≤ lv) (h10 : x ≤ 150) (h11 : m < z)
    (hm : rn (rl 0) + dn (rl 0) + m = x ∧ rn (rl 1) + dn (rl 1) + m = y ∧ rn (rl 2) + dn (rl 2) + m = z ∧ rn (rl 3) + dn (rl 3) = m) (hc : cn (rl 0) + cn (rl 1) + cn (rl 2) + cn (rl 3) ≤ 150) :
    ∃ σ' μ', (bR (m_O_tapeInRole N σ 3) fun x9 σ9 => (bV (m_T_addDummies N σ x9 1) fun σ13 => m_O_mergeRuns_47 N σ13)) = some (n32 1, σ') ∧
      m_M_merge_47 N μ 1 = some (n32 1, μ') ∧ (μ' 0).1 0 = th ∧ Bas σ' μ' c p ∧ (((σ' 0).1 0 = n32 2 ∧ (μ' 0).1 4 = n32 2 ∧ MerR σ' μ' c) ∨ ((σ' 0).1 0 = n32 3 ∧ (μ' 0).1 4 = n32 3 ∧ DonR σ' μ' c)) := by
  have hp := pn_f (n := lv - 1) (x := x) (y := y) (z := z) (by rw [show lv - 1 + 1 = lv by omega]; exact h8)
  obtain ⟨hm0, hm1, hm2, hm3⟩ := id hm
  obtain ⟨pa, pb, pc, pd, pe, pf⟩ := id h5
  have hl : ∀ k, k < 4 → rl k < 4 := fun k hk => (h4 k hk).2.2
  have g3 := hl 3 (by omega)
  have rk : ∀ k, k < 3 → rl k ≠ rl 3 := fun k hk => by
    rcases (show k = 0 ∨ k = 1 ∨ k = 2 by omega) with rfl | rfl | rfl <;> assumption
  have kb : ∀ k, k < 3 → 1 ≤ rn (rl k) + dn (rl k) ∧ dn (rl k) ≤ 150 := fun k hk => by
    rcases (show k = 0 ∨ k = 1 ∨ k = 2 by omega) with rfl | rfl | rfl <;> omega
  rw [l3, rol_x h4 (by omega), bR_s, m_T_addDummies, bV_s, (h3 (rl 3) g3).1, l1, n32_add, m_O_mergeRuns_47, m_M_merge_47, if_neg (show ¬ n32 1 = 0 by decide), m_M_merge_68]
  obtain ⟨σ13, e13⟩ : ∃ s, s = w1 σ (7 + rl 3) 2 (n32 (dn (rl 3) + 1)) := ⟨_, rfl⟩
  have f13 : frX [7 + rl 3] σ σ13 := by rw [e13]; exact frX.w1 (by simp)
  have ok : ∀ k, k < 3 → σ13 (7 + rl k) = σ (7 + rl k) := fun k hk => f13 _ (by simp; exact rk k hk)
  have o7 : ∀ j, j < 7 → σ13 j = σ j := fun j hj => f13 _ (by simp; omega)
  rw [← e13]
  obtain ⟨f', σ', μ', rn', cn', dn', ls', n, z1, z2, z3, z4, z5, z6, z7, z8, z9, z10, z11, z12, z13, z14⟩ := tk_3 (v := n32 1) (f := fun t => σ (7 + t)) (σ := σ13) (μ := μ) (dn := dn) hN h2 (fun t ht => by rw [o7 0 (by omega)]; exact h4 t ht) h5 (fun k hk => (ok k hk).symm) (fun k hk => by rw [ok k hk]; exact h3 (rl k) (hl k (by omega))) kb
  have r3 : (μ' 0).2 12 3 = n32 (rl 3) := by rw [z6.2 12 (by decide)]; exact (h4 3 (by omega)).2.1
  have c3 : (3 : Int32).toNatClampNeg = 3 := by decide
  rw [z1, bV_s, show (0 : Int32) = n32 0 from rfl, z2, m_M_merge_70, if_pos (by decide), if_neg (show ¬ n32 1 = 0 by decide), c3, r3, if_pos (inbn (by omega) g3), if_pos (inbn (by omega) g3), n32_cl (by omega), z7, (h3 (rl 3) g3).2, l1, n32_add]
  have oj : ∀ j, j < 7 → σ' j = σ j := fun j hj => (z3 j hj).trans (o7 j hj)
  have fm : frM [] [8, 9, 10, 11] μ (w3 μ' 0 11 (n32 (rl 3)) (n32 (dn (rl 3) + 1))) := z6.tr (frM.w3 (by decide))
  have t3 : (σ' (7 + rl 3)).1 3 = (σ (7 + rl 3)).1 3 := by rw [z4, e13, w1_s, if_neg (by omega)]
  refine turn_eq (nn := nn) (lv := lv) (x := x) (y := y) (z := z) (m := m + 1) (rn := rn') (cn := cn') (dn := up dn' (rl 3) (dn (rl 3) + 1)) (rl := rl) (ls := ls') hN ((fm.1 0 (by decide)).trans hth) ?_ ?_ ?_ ?_ ?_ ?_ ?_ h5 ?_ ?_ h8 h9 h10 (by omega) ⟨?_, ?_, ?_, ?_⟩ ?_
  · refine bas_fr hb (oj 1 (by omega)) (by rw [oj 2 (by omega)]) (by rw [oj 0 (by omega)]) ?_ (fau_fr hb.2.2.1 (fun t ht => ?_) (fm.2 4 (by decide))) ⟨fm.1 1 (by decide), fm.1 2 (by decide), fm.1 3 (by decide), fm.1 8 (by decide)⟩ ⟨fm.2 1 (by decide), fm.2 2 (by decide), fm.2 3 (by decide)⟩
    · unfold WR; rw [oj 5 (by omega), fm.1 5 (by decide), fm.1 6 (by decide), fm.1 7 (by decide)]; exact hb.2.1
    · by_cases e : t = rl 3
      · rw [e]; exact t3
      · rw [z5 t ht, f13 _ (by simp; exact e)]
  · rw [oj 0 (by omega)]; exact hst
  · rw [fm.1 4 (by decide)]; exact hph
  · unfold StR; rw [oj 2 (by omega), fm.1 9 (by decide), fm.1 10 (by decide), fm.2 5 (by decide), fm.2 6 (by decide)]; exact h1
  · refine tf_l z8 (fun t ht => ?_) (by simp only [w1_s, w1_a, w2_s, w2_a, w3_s, w3_a, tn, nt, tt, true_and, and_true, false_and, and_false, and_self, if_true, if_false, Nat.reduceEqDiff, reduceIte, Nat.reduceAdd]) (by simp only [w1_s, w1_a, w2_s, w2_a, w3_s, w3_a, tn, nt, tt, true_and, and_true, false_and, and_false, and_self, if_true, if_false, Nat.reduceEqDiff, reduceIte, Nat.reduceAdd]) (by simp only [w1_s, w1_a, w2_s, w2_a, w3_s, w3_a, tn, nt, tt, true_and, and_true, false_and, and_false, and_self, if_true, if_false, Nat.reduceEqDiff, reduceIte, Nat.reduceAdd])
    rcases perm_s h5 hl ht with rfl | rfl | rfl | rfl
    · rw [(z10 0 (by omega)).1]; exact ⟨rfl, rfl, rfl⟩
    · rw [(z10 1 (by omega)).1]; exact ⟨rfl, rfl, rfl⟩
    · rw [(z10 2 (by omega)).1]; exact ⟨rfl, rfl, rfl⟩
    · rw [z9, z4, e13, w1_a, w1_s, if_neg (by omega), w1_s, if_neg (by omega)]; exact ⟨rfl, rfl, rfl⟩
  · intro t ht
    rw [w3_a, if_pos ⟨rfl, rfl⟩, n32_cl (by omega), upd_ap]
    by_cases e : t = rl 3
    · rw [e, up_s, if_pos rfl, z4, e13, w1_s, if_pos ⟨rfl, rfl⟩]; exact ⟨rfl, rfl⟩
    · rw [up_n e, if_neg e]
      rcases perm_s h5 hl ht with rfl | rfl | rfl | rfl
      · exact (z10 0 (by omega)).2.1
      · exact (z10 1 (by omega)).2.1
      · exact (z10 2 (by omega)).2.1
      · exact absurd rfl e
  · intro t ht; rw [oj 0 (by omega), fm.2 12 (by decide)]; exact h4 t ht
  · rw [oj 4 (by omega)]; exact h6
  · rw [fm.1 12 (by decide)]; exact h7
  · rw [up_n pc]; have := (z10 0 (by omega)).2.2.1; omega
  · rw [up_n pe]; have := (z10 1 (by omega)).2.2.1; omega
  · rw [up_n pf]; have := (z10 2 (by omega)).2.2.1; omega
  · rw [up_s, z11]; omega
  · have q0 := (z10 0 (by omega)).2.2.2
    have q1 := (z10 1 (by omega)).2.2.2
    have q2 := (z10 2 (by omega)).2.2.2
    rw [z12]; omega
