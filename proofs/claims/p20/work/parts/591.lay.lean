/-! Layer B: a run is laid. -/
theorem lay_fr {σ μ σ' μ' : SX} {c : Nat} (h : LayR σ μ c) (fx : frX [3, 5, 6] σ σ') (fm : frM [5, 6, 7, 14, 15, 16] [13, 14, 15] μ μ') : LayR σ' μ' c := by
  obtain ⟨hn, nn, rn, cn, dn, ls, lv, pl, x, y, z, md, h1, h2, h3, h4, h5, h6, h7, h8, h9, hh⟩ := h
  refine ⟨hn, nn, rn, cn, dn, ls, lv, pl, x, y, z, md, ?_, ?_, h3, ?_, ?_, ?_, ?_, ?_, ?_, hh⟩
  · unfold StR; rw [fx 2 (by decide), fm.1 9 (by decide), fm.1 10 (by decide), fm.2 5 (by decide), fm.2 6 (by decide)]; exact h1
  · rw [fm.2 6 (by decide)]; exact h2
  · exact tapes_fr h4 (fun t ht => by rw [fx (7 + t) (by simp; omega)]; exact ⟨rfl, rfl, rfl⟩) (fm.2 8 (by decide)) (fm.2 9 (by decide)) (fm.2 10 (by decide))
  · intro t ht; rw [fx (7 + t) (by simp; omega), fm.2 11 (by decide)]; exact h5 t ht
  · intro t ht; rw [fx 0 (by decide), fm.2 12 (by decide)]; exact h6 t ht
  · unfold PlX; rw [fx 4 (by decide), fx 7 (by decide), fx 8 (by decide), fx 9 (by decide)]; exact h7
  · unfold PlM; rw [fm.1 12 (by decide), fm.1 13 (by decide), fm.2 7 (by decide), fm.2 11 (by decide)]; exact h8
  · rw [fm.1 11 (by decide)]; exact h9
theorem lay_2 {N : Nat} {σ μ : SX} {th : Int32} {c p hn nn i lv pl x y z e0 e1 e2 md : Nat} {rn cn : Nat → Nat} {ls : Nat → Nat → Nat} (hN : 200 ≤ N) (hth : (μ 0).1 0 = th) (hb : Bas σ μ c p) (hst : (σ 0).1 0 = n32 1)
    (h1 : StR σ μ hn nn c) (h2 : ∀ k, k < hn → (μ 0).2 6 k = n32 0) (h4 : TapesL σ μ c rn cn ls) (h5 : DumR σ μ (fun t => if t = 0 then e0 else if t = 1 then e1 else if t = 2 then e2 else 0)) (h6 : RolR σ μ (fun k => k)) (hrow : RwR σ μ i c)
    (h7 : PlX σ lv pl x y z e0 e1 e2) (h8 : PlM μ lv pl x y z e0 e1 e2) (h9 : (μ 0).1 11 = n32 md) (i1 : 1 ≤ i) (h10 : Pn lv = (x, y, z)) (h11 : 1 ≤ lv) (h12 : x ≤ 150) (g0 : rn 0 + e0 = x) (g1 : rn 1 + e1 = y) (g2 : rn 2 + e2 = z) (g3 : rn 3 = 0)
    (h13 : PlN pl e0 e1 e2) (h15 : cn 0 + cn 1 + cn 2 + i + hn = nn) (h16 : md = rn 0 + rn 1 + rn 2) :
    ∃ r σ' μ', (if inb (n32 pl) 4 = true then (bV (m_T_addDummies N σ (n32 pl).toNatClampNeg (-1)) fun σ57 => (bV (m_T_append N σ57 (n32 pl).toNatClampNeg) fun σ65 => (bI (m_S_isEmpty N σ65 2) fun r72 σ72 => (if r72 = n32 0 then some (1, σ65) else some (1, (w1 σ65 0 0 2)))))) else none) = some (r, σ') ∧
      m_M_lay_28 N μ = some (r, μ') ∧ (μ' 0).1 0 = th ∧ Bas σ' μ' c p ∧ ((r = n32 0 ∧ (σ' 0).1 0 = n32 1 ∧ (μ' 0).1 4 = n32 1 ∧ LayR σ' μ' c) ∨
      (r = n32 1 ∧ (((σ' 0).1 0 = n32 1 ∧ (μ' 0).1 4 = n32 1 ∧ LayR σ' μ' c) ∨ ((σ' 0).1 0 = n32 2 ∧ (μ' 0).1 4 = n32 2 ∧ MerR σ' μ' c)))) := by
  obtain ⟨B1, B2, B3, ⟨rm, B4, B5, B6, B7⟩, B8⟩ := id hb
  have c150 := B1.1.2.2
  obtain ⟨⟨a1, a2, a3⟩, ⟨a4, a5, a6⟩, a7⟩ := id h1
  obtain ⟨p1, p2, p3, p4, p5, p6, p7, p8⟩ := id h7
  obtain ⟨q1, q2, q3, q4, q5, q6, q7, q8⟩ := id h8
  have r0 := tap_rn (h4 0 (by omega))
  have r1 := tap_rn (h4 1 (by omega))
  have r2 := tap_rn (h4 2 (by omega))
  have c3 : cn 3 = 0 := by
    have := (h4 3 (by omega)).2.2.2.1
    rw [g3] at this; exact this.symm
  have pn2 := pn_f (n := lv - 1) (x := x) (y := y) (z := z) (by rw [show lv - 1 + 1 = lv by omega]; exact h10)
  have pl3 : pl < 3 := by
    unfold PlN at h13; omega
  obtain ⟨dn, hdn⟩ : ∃ dn : Nat → Nat, dn = (fun t => if t = 0 then e0 else if t = 1 then e1 else if t = 2 then e2 else 0) := ⟨_, rfl⟩
  rw [← hdn] at h5
  have D0 : dn 0 = e0 := by rw [hdn]; rfl
  have D1 : dn 1 = e1 := by rw [hdn]; rfl
  have D2 : dn 2 = e2 := by rw [hdn]; rfl
  have D3 : dn 3 = 0 := by rw [hdn]; rfl
  have dpl : 1 ≤ dn pl ∧ dn pl ≤ 150 := by
    rcases h13 with ⟨rfl, w, -⟩ | ⟨rfl, w, -⟩ | ⟨rfl, w, -⟩
    · rw [D0]; omega
    · rw [D1]; omega
    · rw [D2]; omega
  have cpl : cn pl + i ≤ 150 := by
    rcases h13 with ⟨rfl, -⟩ | ⟨rfl, -⟩ | ⟨rfl, -⟩ <;> omega
  -- one dummy less
  have m_def : m_M_lay_28 N μ = (bV (m_M_append N (w3 (w1 μ 0 11 (n32 (md + 1))) 0 11 (n32 pl) (n32 (dn pl - 1))) (n32 pl)) fun σ63 => (if ((σ63 0).1 9) = n32 0 then some (n32 1, (w1 σ63 0 4 (n32 2))) else some (n32 1, (w1 σ63 0 4 (n32 1))))) := by
    have d11 := (h5 pl (by omega)).2
    rw [m_M_lay_28]
    simp (disch := omega) only [l0, l1, l2, l3, l4, l8, l20, l150, l300, l1000, ↓lm1, n32_lt, n32_le, n32_eq, n32_inb, n32_cl, n32_add, mi_lt, mi_le, n_le_mi, n_eq_mi, mi_eq_n, w1_s, w1_a, w2_s, w2_a, w3_s, w3_a, tn, nt, tt, true_and, and_true, false_and, and_false, and_self, if_true, if_false, Nat.reduceEqDiff, reduceIte, Nat.reduceAdd, q2, h9, d11, n32_sub]
    rw [if_pos (show pl < 4 by omega), if_pos (show pl < 4 by omega)]
  rw [m_def, if_pos (inbn (by omega) (by omega)), n32_cl (by omega), m_T_addDummies, bV_s, (h5 pl (by omega)).1, lm1, n_add_mi dpl.1]
  have tl2 : TapesL (w1 σ (7 + pl) 2 (n32 (dn pl - 1))) (w3 (w1 μ 0 11 (n32 (md + 1))) 0 11 (n32 pl) (n32 (dn pl - 1))) c rn cn ls := tapes_fr h4 (fun t ht => ⟨by simp only [w1_s, w1_a, w2_s, w2_a, w3_s, w3_a, tn, nt, tt, true_and, and_true, false_and, and_false, and_self, if_true, if_false, Nat.reduceEqDiff, reduceIte, Nat.reduceAdd], by simp only [w1_s, w1_a, w2_s, w2_a, w3_s, w3_a, tn, nt, tt, true_and, and_true, false_and, and_false, and_self, if_true, if_false, Nat.reduceEqDiff, reduceIte, Nat.reduceAdd], by simp only [w1_s, w1_a, w2_s, w2_a, w3_s, w3_a, tn, nt, tt, true_and, and_true, false_and, and_false, and_self, if_true, if_false, Nat.reduceEqDiff, reduceIte, Nat.reduceAdd]⟩) (by simp only [w1_s, w1_a, w2_s, w2_a, w3_s, w3_a, tn, nt, tt, true_and, and_true, false_and, and_false, and_self, if_true, if_false, Nat.reduceEqDiff, reduceIte, Nat.reduceAdd]) (by simp only [w1_s, w1_a, w2_s, w2_a, w3_s, w3_a, tn, nt, tt, true_and, and_true, false_and, and_false, and_self, if_true, if_false, Nat.reduceEqDiff, reduceIte, Nat.reduceAdd]) (by simp only [w1_s, w1_a, w2_s, w2_a, w3_s, w3_a, tn, nt, tt, true_and, and_true, false_and, and_false, and_self, if_true, if_false, Nat.reduceEqDiff, reduceIte, Nat.reduceAdd])
  have rw2 : RwR (w1 σ (7 + pl) 2 (n32 (dn pl - 1))) (w3 (w1 μ 0 11 (n32 (md + 1))) 0 11 (n32 pl) (n32 (dn pl - 1))) i c := by
    unfold RwR; rw [w1_n (by omega)]; simp only [w1_s, w1_a, w2_s, w2_a, w3_s, w3_a, tn, nt, tt, true_and, and_true, false_and, and_false, and_self, if_true, if_false, Nat.reduceEqDiff, reduceIte, Nat.reduceAdd]; exact hrow
  obtain ⟨σ', μ', x1, x2, x3, x4, x5, x6, x7⟩ := app_both hN tl2 (by omega) rw2 i1 cpl
  rw [x1, x2, bV_s, bV_s]
  have fx : frX [7 + pl] σ σ' := (frX.w1 (by simp)).tr x3
  have fm : frM [11] [8, 9, 10, 11] μ μ' := ((frM.w1 (by decide)).tr (frM.w3 (by decide))).tr (x6.mo (by decide) (by decide))
  have o0 : ∀ j, j < 7 → σ' j = σ j := fun j hj => fx j (by simp; omega)
  have m11 : (μ' 0).1 11 = n32 (md + 1) := by rw [x6.1 11 (by decide)]; simp only [w1_s, w1_a, w2_s, w2_a, w3_s, w3_a, tn, nt, tt, true_and, and_true, false_and, and_false, and_self, if_true, if_false, Nat.reduceEqDiff, reduceIte, Nat.reduceAdd]
  have a11 : (μ' 0).2 11 = upd ((μ 0).2 11) pl (n32 (dn pl - 1)) := by rw [x6.2 11 (by decide)]; simp (disch := omega) only [w1_s, w1_a, w2_s, w2_a, w3_s, w3_a, tn, nt, tt, true_and, and_true, false_and, and_false, and_self, if_true, if_false, Nat.reduceEqDiff, reduceIte, Nat.reduceAdd, n32_cl]
  have du' : DumR σ' μ' (up dn pl (dn pl - 1)) := fun t ht => by
    rw [a11, upd_ap]
    by_cases e : t = pl
    · subst e
      rw [up_s, if_pos rfl, x4]
      exact ⟨by simp only [w1_s, w1_a, w2_s, w2_a, w3_s, w3_a, tn, nt, tt, true_and, and_true, false_and, and_false, and_self, if_true, if_false, Nat.reduceEqDiff, reduceIte, Nat.reduceAdd], rfl⟩
    · rw [up_n e, if_neg e, fx (7 + t) (by simp; omega)]; exact h5 t ht
  have ta3 : ∀ t, t < 4 → (σ' (7 + t)).1 3 = (σ (7 + t)).1 3 := fun t ht => by
    by_cases e : t = pl
    · subst e; rw [x5]; simp only [w1_s, w1_a, w2_s, w2_a, w3_s, w3_a, tn, nt, tt, true_and, and_true, false_and, and_false, and_self, if_true, if_false, Nat.reduceEqDiff, reduceIte, Nat.reduceAdd]
    · rw [fx (7 + t) (by simp; omega)]
  have bas' : ∀ v w : Int32, Bas (w1 σ' 0 0 v) (w1 μ' 0 4 w) c p := fun v w => by
    refine ⟨?_, ?_, fau_fr B3 (fun t ht => by rw [w1_n (by omega)]; exact ta3 t ht) (by simp only [w1_s, w1_a, w2_s, w2_a, w3_s, w3_a, tn, nt, tt, true_and, and_true, false_and, and_false, and_self, if_true, if_false, Nat.reduceEqDiff, reduceIte, Nat.reduceAdd]; exact fm.2 4 (by decide)), ⟨rm, B4, B5, by simp only [w1_s, w1_a, w2_s, w2_a, w3_s, w3_a, tn, nt, tt, true_and, and_true, false_and, and_false, and_self, if_true, if_false, Nat.reduceEqDiff, reduceIte, Nat.reduceAdd]; rw [o0 2 (by omega)]; exact B6, by simp only [w1_s, w1_a, w2_s, w2_a, w3_s, w3_a, tn, nt, tt, true_and, and_true, false_and, and_false, and_self, if_true, if_false, Nat.reduceEqDiff, reduceIte, Nat.reduceAdd]; rw [fm.1 1 (by decide)]; exact B7⟩, by simp only [w1_s, w1_a, w2_s, w2_a, w3_s, w3_a, tn, nt, tt, true_and, and_true, false_and, and_false, and_self, if_true, if_false, Nat.reduceEqDiff, reduceIte, Nat.reduceAdd]; rw [o0 0 (by omega), fm.1 8 (by decide)]; exact B8⟩
    · unfold DkR; simp only [w1_s, w1_a, w2_s, w2_a, w3_s, w3_a, tn, nt, tt, true_and, and_true, false_and, and_false, and_self, if_true, if_false, Nat.reduceEqDiff, reduceIte, Nat.reduceAdd]; rw [w1_n (by decide), o0 1 (by omega), fm.1 2 (by decide), fm.1 3 (by decide), fm.2 1 (by decide), fm.2 2 (by decide), fm.2 3 (by decide)]; exact B1
    · unfold WR; simp only [w1_s, w1_a, w2_s, w2_a, w3_s, w3_a, tn, nt, tt, true_and, and_true, false_and, and_false, and_self, if_true, if_false, Nat.reduceEqDiff, reduceIte, Nat.reduceAdd]; rw [w1_n (by decide), o0 5 (by omega), fm.1 5 (by decide), fm.1 6 (by decide), fm.1 7 (by decide)]; exact B2
  have st' : ∀ v w : Int32, StR (w1 σ' 0 0 v) (w1 μ' 0 4 w) hn nn c := fun v w => by
    unfold StR; simp only [w1_s, w1_a, w2_s, w2_a, w3_s, w3_a, tn, nt, tt, true_and, and_true, false_and, and_false, and_self, if_true, if_false, Nat.reduceEqDiff, reduceIte, Nat.reduceAdd]; rw [w1_n (by decide), o0 2 (by omega), fm.1 9 (by decide), fm.1 10 (by decide), fm.2 5 (by decide), fm.2 6 (by decide)]; exact h1
  have tl' : ∀ v w : Int32, TapesL (w1 σ' 0 0 v) (w1 μ' 0 4 w) c (up rn pl (rn pl + 1)) (up cn pl (cn pl + i)) (up ls pl (fun k => if k = rn pl then i else ls pl k)) := fun v w => tapes_fr x7 (fun t ht => by rw [w1_n (by omega)]; exact ⟨rfl, rfl, rfl⟩) (by simp only [w1_s, w1_a, w2_s, w2_a, w3_s, w3_a, tn, nt, tt, true_and, and_true, false_and, and_false, and_self, if_true, if_false, Nat.reduceEqDiff, reduceIte, Nat.reduceAdd]) (by simp only [w1_s, w1_a, w2_s, w2_a, w3_s, w3_a, tn, nt, tt, true_and, and_true, false_and, and_false, and_self, if_true, if_false, Nat.reduceEqDiff, reduceIte, Nat.reduceAdd]) (by simp only [w1_s, w1_a, w2_s, w2_a, w3_s, w3_a, tn, nt, tt, true_and, and_true, false_and, and_false, and_self, if_true, if_false, Nat.reduceEqDiff, reduceIte, Nat.reduceAdd])
  have dd' : ∀ v w : Int32, DumR (w1 σ' 0 0 v) (w1 μ' 0 4 w) (up dn pl (dn pl - 1)) := fun v w t ht => by rw [w1_n (by omega)]; simp only [w1_s, w1_a, w2_s, w2_a, w3_s, w3_a, tn, nt, tt, true_and, and_true, false_and, and_false, and_self, if_true, if_false, Nat.reduceEqDiff, reduceIte, Nat.reduceAdd]; exact du' t ht
  have ro' : ∀ v w : Int32, RolR (w1 σ' 0 0 v) (w1 μ' 0 4 w) (fun k => k) := fun v w t ht => by simp only [w1_s, w1_a, w2_s, w2_a, w3_s, w3_a, tn, nt, tt, true_and, and_true, false_and, and_false, and_self, if_true, if_false, Nat.reduceEqDiff, reduceIte, Nat.reduceAdd]; rw [o0 0 (by omega), fm.2 12 (by decide)]; exact h6 t ht
  have nums : (up rn pl (rn pl + 1)) 0 + (up dn pl (dn pl - 1)) 0 = x ∧ (up rn pl (rn pl + 1)) 1 + (up dn pl (dn pl - 1)) 1 = y ∧ (up rn pl (rn pl + 1)) 2 + (up dn pl (dn pl - 1)) 2 = z ∧ (up rn pl (rn pl + 1)) 3 = 0 ∧ (up dn pl (dn pl - 1)) 3 = 0 ∧
      (up rn pl (rn pl + 1)) 0 + (up rn pl (rn pl + 1)) 1 + (up rn pl (rn pl + 1)) 2 = md + 1 ∧ (up cn pl (cn pl + i)) 0 + (up cn pl (cn pl + i)) 1 + (up cn pl (cn pl + i)) 2 + hn = nn ∧ (up cn pl (cn pl + i)) 3 = 0 ∧ PR pl ((up dn pl (dn pl - 1)) 0) ((up dn pl (dn pl - 1)) 1) ((up dn pl (dn pl - 1)) 2) := by
    rcases h13 with ⟨rfl, w1, w2⟩ | ⟨rfl, w1, w2⟩ | ⟨rfl, w1, w2⟩
    · simp only [up, if_true, if_false, reduceIte, Nat.reduceEqDiff, D0, D1, D2, D3]
      exact ⟨by omega, by omega, by omega, by omega, trivial, by omega, by omega, by omega, w2⟩
    · simp only [up, if_true, if_false, reduceIte, Nat.reduceEqDiff, D0, D1, D2, D3]
      exact ⟨by omega, by omega, by omega, by omega, trivial, by omega, by omega, by omega, w2⟩
    · simp only [up, if_true, if_false, reduceIte, Nat.reduceEqDiff, D0, D1, D2, D3]
      exact ⟨by omega, by omega, by omega, by omega, trivial, by omega, by omega, by omega, w2⟩
  obtain ⟨N0, N1, N2, N3, N4, N5, N6, N7, N8⟩ := nums
  have s9 : (μ' 0).1 9 = n32 hn := by rw [fm.1 9 (by decide)]; exact a2
  have s2 : (σ' 2).1 1 = n32 hn := by rw [o0 2 (by omega)]; exact a1
  have px' : ∀ v : Int32, PlX (w1 σ' 0 0 v) lv pl x y z ((up dn pl (dn pl - 1)) 0) ((up dn pl (dn pl - 1)) 1) ((up dn pl (dn pl - 1)) 2) := fun v => by
    refine ⟨?_, ?_, ?_, ?_, ?_, (dd' v 0 0 (by omega)).1, (dd' v 0 1 (by omega)).1, (dd' v 0 2 (by omega)).1⟩ <;> (rw [w1_n (by decide), o0 4 (by omega)]; assumption)
  have pm' : ∀ w : Int32, PlM (w1 μ' 0 4 w) lv pl x y z ((up dn pl (dn pl - 1)) 0) ((up dn pl (dn pl - 1)) 1) ((up dn pl (dn pl - 1)) 2) := fun w => by
    refine ⟨?_, ?_, ?_, ?_, ?_, (dd' 0 w 0 (by omega)).2, (dd' 0 w 1 (by omega)).2, (dd' 0 w 2 (by omega)).2⟩ <;> simp only [w1_s, w1_a, w2_s, w2_a, w3_s, w3_a, tn, nt, tt, true_and, and_true, false_and, and_false, and_self, if_true, if_false, Nat.reduceEqDiff, reduceIte, Nat.reduceAdd]
    · rw [fm.1 12 (by decide)]; exact q1
    · rw [fm.1 13 (by decide)]; exact q2
    · rw [fm.2 7 (by decide)]; exact q3
    · rw [fm.2 7 (by decide)]; exact q4
    · rw [fm.2 7 (by decide)]; exact q5
  rw [m_S_isEmpty, s9, s2, l0, l1]
  by_cases e : hn = 0
  · subst e
    rw [if_pos rfl, if_pos rfl, bI_s, if_neg (by decide), l2]
    refine ⟨_, _, _, rfl, rfl, by simp only [w1_s, w1_a, w2_s, w2_a, w3_s, w3_a, tn, nt, tt, true_and, and_true, false_and, and_false, and_self, if_true, if_false, Nat.reduceEqDiff, reduceIte, Nat.reduceAdd]; rw [fm.1 0 (by decide)]; exact hth, bas' _ _, Or.inr ⟨rfl, Or.inr ⟨by simp only [w1_s, w1_a, w2_s, w2_a, w3_s, w3_a, tn, nt, tt, true_and, and_true, false_and, and_false, and_self, if_true, if_false, Nat.reduceEqDiff, reduceIte, Nat.reduceAdd], by simp only [w1_s, w1_a, w2_s, w2_a, w3_s, w3_a, tn, nt, tt, true_and, and_true, false_and, and_false, and_self, if_true, if_false, Nat.reduceEqDiff, reduceIte, Nat.reduceAdd], ?_⟩⟩⟩
    exact ⟨nn, _, _, _, _, lv, x, y, z, 0, fun k => k, st' _ _, tl' _ _, dd' _ _, ro' _ _, ⟨by decide, by decide, by decide, by decide, by decide, by decide⟩, (px' _).1, (pm' _).1, h10, h11, h12, by omega, ⟨N0, N1, N2, by dsimp only; omega⟩, by dsimp only; omega⟩
  · have ne : ¬ n32 hn = n32 0 := by rw [n32_eq (by omega) (by omega)]; exact e
    rw [if_neg ne, if_neg ne, bI_s, if_pos rfl]
    have same : w1 σ' 0 0 (n32 1) = σ' := by
      funext j
      unfold w1
      by_cases ej : j = 0
      · subst ej
        rw [if_pos rfl]
        refine Prod.ext (funext fun k => ?_) rfl
        by_cases ek : k = 0
        · subst ek; rw [o0 0 (by omega)]; exact hst.symm
        · exact if_neg ek
      · rw [if_neg ej]
    refine ⟨_, _, _, rfl, rfl, by simp only [w1_s, w1_a, w2_s, w2_a, w3_s, w3_a, tn, nt, tt, true_and, and_true, false_and, and_false, and_self, if_true, if_false, Nat.reduceEqDiff, reduceIte, Nat.reduceAdd]; rw [fm.1 0 (by decide)]; exact hth, same ▸ bas' (n32 1) _, Or.inr ⟨rfl, Or.inl ⟨by rw [o0 0 (by omega)]; exact hst, by simp only [w1_s, w1_a, w2_s, w2_a, w3_s, w3_a, tn, nt, tt, true_and, and_true, false_and, and_false, and_self, if_true, if_false, Nat.reduceEqDiff, reduceIte, Nat.reduceAdd], ?_⟩⟩⟩
    refine same ▸ ⟨hn, nn, _, _, _, _, lv, pl, x, y, z, md + 1, st' (n32 1) _, fun k hk => by simp only [w1_s, w1_a, w2_s, w2_a, w3_s, w3_a, tn, nt, tt, true_and, and_true, false_and, and_false, and_self, if_true, if_false, Nat.reduceEqDiff, reduceIte, Nat.reduceAdd]; rw [fm.2 6 (by decide)]; exact h2 k hk, by omega, tl' (n32 1) _, dd' (n32 1) _, ro' (n32 1) _, px' (n32 1), pm' _, by simp only [w1_s, w1_a, w2_s, w2_a, w3_s, w3_a, tn, nt, tt, true_and, and_true, false_and, and_false, and_self, if_true, if_false, Nat.reduceEqDiff, reduceIte, Nat.reduceAdd]; exact m11, h10, h11, h12, N8, ⟨N0, N1, N2, N3, N4⟩, N6, N5.symm, fun q => by omega⟩
theorem lay_eq {N : Nat} {σ μ : SX} {c p : Nat} (hN : 200 ≤ N) (hb : Bas σ μ c p) (hl : LayR σ μ c) (hst : (σ 0).1 0 = n32 1) (hph : (μ 0).1 4 = n32 1) :
    ∃ r σ' μ', m_O_layRun N σ = some (r, σ') ∧ m_M_lay N μ = some (r, μ') ∧ (μ' 0).1 0 = (μ 0).1 0 ∧ Bas σ' μ' c p ∧ ((r = n32 0 ∧ (σ' 0).1 0 = n32 1 ∧ (μ' 0).1 4 = n32 1 ∧ LayR σ' μ' c) ∨
      (r = n32 1 ∧ (((σ' 0).1 0 = n32 1 ∧ (μ' 0).1 4 = n32 1 ∧ LayR σ' μ' c) ∨ ((σ' 0).1 0 = n32 2 ∧ (μ' 0).1 4 = n32 2 ∧ MerR σ' μ' c)))) := by
  obtain ⟨B1, B2, B3, ⟨rm, B4, B5, B6, B7⟩, B8⟩ := id hb
  obtain ⟨hn, nn, rn, cn, dn, ls, lv, pl, x, y, z, md, h1, h2, h3, h4, h5, h6, h7, h8, h9, h10, h11, h12, h13, ⟨g0, g1, g2, g3, g4⟩, h15, h16, h17⟩ := id hl
  obtain ⟨⟨a1, a2, a3⟩, ⟨a4, a5, a6⟩, a7⟩ := id h1
  have c150 := B1.1.2.2
  have r0 := tap_rn (h4 0 (by omega))
  have r1 := tap_rn (h4 1 (by omega))
  have r2 := tap_rn (h4 2 (by omega))
  -- copies
  obtain ⟨σ8, x1, x2, x3, x4, x5, x6⟩ := copy_eq (N := N) (σ := σ) (j := 3) (j2 := 2) (hn := hn) (by omega) (by decide) a1 a3 (fun q hq => by rw [(a7 q hq).2.1]; exact (a7 q hq).2.2.2)
  obtain ⟨μ1, y1, y2, y3, y4, y5, y6⟩ := aside_eq (N := N) (μ := μ) (by omega)
  rw [m_O_layRun, m_M_lay, x1, y1, bV_s, bV_s, m_O_writeRunFromTrial, m_R_forgetAll, bV_s, m_M_makeRun, l0]
  have f9 : frX [3, 6] σ (w1 σ8 6 0 (n32 0)) := (x2.mo (by decide)).tr (frX.w1 (by decide))
  have tr0 : TrR (w1 σ8 6 0 (n32 0)) μ1 hn nn c := by
    unfold TrR
    rw [w1_n (by decide)]
    refine ⟨⟨x4, by rw [y3]; exact a2, a3⟩, ⟨by rw [x5]; exact a4, by rw [y4]; exact a5, a6⟩, fun k hk => ?_⟩
    obtain ⟨q1, q2⟩ := x6 k hk
    obtain ⟨q3, q4⟩ := y6 k (by omega)
    obtain ⟨q5, q6, q7, q8⟩ := a7 k hk
    rw [q1, q2, q3, q4, nar_b q8]; exact ⟨q5, q6, q7, q8⟩
  have dk0 : DkR (w1 σ8 6 0 (n32 0)) μ1 c p := by
    unfold DkR; rw [f9 1 (by decide), y2.1 2 (by decide), y2.1 3 (by decide), y2.2 1 (by decide), y2.2 2 (by decide), y2.2 3 (by decide)]; exact B1
  have wr0 : WR (w1 σ8 6 0 (n32 0)) μ1 := by
    unfold WR; rw [f9 5 (by decide), y2.1 5 (by decide), y2.1 6 (by decide), y2.1 7 (by decide)]; exact B2
  have rw0 : RwR (w1 σ8 6 0 (n32 0)) μ1 0 c := ⟨by simp only [w1_s, w1_a, w2_s, w2_a, w3_s, w3_a, tn, nt, tt, true_and, and_true, false_and, and_false, and_self, if_true, if_false, Nat.reduceEqDiff, reduceIte, Nat.reduceAdd], y5, by omega, fun k hk => by omega⟩
  obtain ⟨r, σ2, μ2, z1, z2, z3, z4, z5, z6, z7⟩ := make_l (N := N) (by omega) (T := cn 0 + cn 1 + cn 2) N 0 _ μ1 hn nn dk0 wr0 tr0 rw0 (by omega) (by omega)
  have fx2 : frX [3, 5, 6] σ σ2 := (f9.mo (by decide)).tr z3
  have fm2 : frM [5, 6, 7, 14, 15, 16] [13, 14, 15] μ μ2 := (y2.mo (by decide) (by decide)).tr z4
  have bas2 : Bas σ2 μ2 c p := by
    refine ⟨?_, z5, fau_fr B3 (fun t ht => by rw [fx2 (7 + t) (by simp; omega)]) (fm2.2 4 (by decide)), ⟨rm, B4, B5, by rw [fx2 2 (by decide)]; exact B6, by rw [fm2.1 1 (by decide)]; exact B7⟩, by rw [fx2 0 (by decide), fm2.1 8 (by decide)]; exact B8⟩
    unfold DkR; rw [fx2 1 (by decide), fm2.1 2 (by decide), fm2.1 3 (by decide), fm2.2 1 (by decide), fm2.2 2 (by decide), fm2.2 3 (by decide)]; exact B1
  rw [z1, z2, bI_s, bI_s]
  rcases z7 with rfl | ⟨rfl, i, hn', nn', v1, v2, v3, -, v5⟩
  · rw [if_pos rfl, if_pos rfl]
    exact ⟨_, _, _, rfl, rfl, fm2.1 0 (by decide), bas2, Or.inl ⟨rfl, by rw [fx2 0 (by decide)]; exact hst, by rw [fm2.1 4 (by decide)]; exact hph, lay_fr hl fx2 fm2⟩⟩
  · have i1 : 1 ≤ i := by
      rcases Nat.eq_zero_or_pos i with e | e
      · exact absurd (by rw [(y6 0 (by omega)).2, h2 0 (by omega)]; rfl) (v5 e 0 (by omega))
      · exact e
    have ne : ¬ n32 1 = n32 0 := by decide
    rw [if_neg ne, if_neg ne]
    obtain ⟨⟨b1, b2, b3⟩, ⟨b4, b5, b6⟩, b7⟩ := id v2
    obtain ⟨σ3, s1, s2, s3, s4, s5⟩ := next_eq (N := N) (σ := σ2) (j := 3) (by omega) b1 b3
    obtain ⟨σ4, t1, t2, t3, t4, t5, t6⟩ := copy_eq (N := N) (σ := σ3) (j := 2) (j2 := 3) (hn := hn') (by omega) (by decide) (by rw [s3]; exact b1) b3 (fun q hq => Or.inl (s5 q hq))
    obtain ⟨μ3, u1, u2, u3, u4, u5⟩ := back_eq (N := N) (μ := μ2) (by omega)
    rw [s1, bV_s, t1, bV_s, u1, bV_s]
    have fx4 : frX [2, 3, 5, 6] σ σ4 := (fx2.mo (by decide)).tr ((s2.mo (by decide)).tr (t2.mo (by decide)))
    have fm3 : frM [5, 6, 7, 9, 10, 14, 15, 16] [5, 6, 13, 14, 15] μ μ3 := (fm2.mo (by decide) (by decide)).tr (u2.mo (by decide) (by decide))
    have st4 : StR σ4 μ3 hn' nn' c := by
      refine ⟨⟨t4, by rw [u3]; exact b2, b3⟩, ⟨by rw [t5, s3]; exact b4, by rw [u4]; exact b5, b6⟩, fun k hk => ?_⟩
      obtain ⟨q1, q2⟩ := t6 k hk
      obtain ⟨q3, q4⟩ := u5 k (by omega)
      obtain ⟨q5, q6, q7, q8⟩ := b7 k hk
      rw [q1, q2, q3, q4, s4, s5 k hk]; exact ⟨q5, rfl, q7, Or.inl rfl⟩
    have la4 : ∀ k, k < hn' → (μ3 0).2 6 k = n32 0 := fun k hk => (u5 k (by omega)).2
    have px4 : PlX σ4 lv pl x y z (dn 0) (dn 1) (dn 2) := by
      unfold PlX; rw [fx4 4 (by decide), fx4 7 (by decide), fx4 8 (by decide), fx4 9 (by decide)]; exact h7
    have pm3 : PlM μ3 lv pl x y z (dn 0) (dn 1) (dn 2) := by
      unfold PlM; rw [fm3.1 12 (by decide), fm3.1 13 (by decide), fm3.2 7 (by decide), fm3.2 11 (by decide)]; exact h8
    have hpn := pn_f (n := lv - 1) (x := x) (y := y) (z := z) (by rw [show lv - 1 + 1 = lv by omega]; exact h10)
    obtain ⟨pl', lv', x', y', z', e0, e1, e2, σ5, μ4, k1, k2, k3, k4, k5, k6, k7, k8, k9⟩ := place_eq (N := N) px4 pm3 (by omega) (by omega) (by omega) (by omega) (by omega) h13
    -- the place, both
    have key : ∃ μ5, (if ((μ3 0).1 11) ≤ n32 0 then m_M_lay_28 N μ3 else (bV (m_M_findPlace N μ3) fun σ25 => m_M_lay_28 N σ25)) = m_M_lay_28 N μ5 ∧ frM [12, 13] [7, 11] μ3 μ5 ∧ (μ5 0).2 11 3 = (μ3 0).2 11 3 ∧ PlM μ5 lv' pl' x' y' z' e0 e1 e2 := by
      have m11 : (μ3 0).1 11 = n32 md := by rw [fm3.1 11 (by decide)]; exact h9
      rw [m11]
      by_cases e : md = 0
      · obtain ⟨q1, q2⟩ := h17 e
        subst q1
        subst q2
        have q4 := pl_0 k9 h10 (by omega) (by omega) (by omega)
        refine ⟨μ3, by rw [e, if_pos (by rw [n32_le (by omega) (by omega)]; omega)], frM.rf, rfl, ?_⟩
        obtain ⟨q5, q6, q7, q8, q9, q10, q11, q12⟩ := q4
        rw [q5, q6, q7, q8, q9, q10, q11, q12]; exact pm3
      · rw [k2, bV_s, if_neg (by rw [n32_le (by omega) (by omega)]; omega)]
        exact ⟨μ4, rfl, k5, k6, k8⟩
    obtain ⟨μ5, K1, K2, K3, K4⟩ := key
    rw [K1, k1, bI_s]
    obtain ⟨n1, n2, n3, n4, n5, n6, n7⟩ := pl_nx k9 h10 h11 h12 g0 g1 g2 (by omega)
    have fx5 : frX [2, 3, 4, 5, 6, 7, 8, 9] σ σ5 := (fx4.mo (by decide)).tr (k3.mo (by decide))
    have fm5 : frM [5, 6, 7, 9, 10, 12, 13, 14, 15, 16] [5, 6, 7, 11, 13, 14, 15] μ μ5 := (fm3.mo (by decide) (by decide)).tr (K2.mo (by decide) (by decide))
    have s24 : frX [2, 3] σ2 σ4 := (s2.mo (by decide)).tr (t2.mo (by decide))
    have tx : ∀ t, t < 4 → (σ5 (7 + t)).2 = (σ (7 + t)).2 ∧ (σ5 (7 + t)).1 0 = (σ (7 + t)).1 0 ∧ (σ5 (7 + t)).1 1 = (σ (7 + t)).1 1 ∧ (σ5 (7 + t)).1 3 = (σ (7 + t)).1 3 := fun t ht => by
      obtain ⟨w1, w2⟩ := k4 (7 + t) (by omega)
      rw [w1, w2 0 (by omega), w2 1 (by omega), w2 3 (by omega), fx4 (7 + t) (by simp; omega)]; exact ⟨rfl, rfl, rfl, rfl⟩
    refine lay_2 (hn := hn') (nn := nn') (i := i) (lv := lv') (pl := pl') (x := x') (y := y') (z := z') (e0 := e0) (e1 := e1) (e2 := e2) (md := md) (rn := rn) (cn := cn) (ls := ls) hN (fm5.1 0 (by decide)) ?_ ?_ ?_ ?_ ?_ ?_ ?_ ?_ k7 K4 ?_ i1 n1 n2 n3 n4 n5 n6 g3 n7 v3 h16
    · refine ⟨?_, ?_, fau_fr B3 (fun t ht => (tx t ht).2.2.2) (fm5.2 4 (by decide)), ⟨rm, B4, B5, ?_, by rw [fm5.1 1 (by decide)]; exact B7⟩, by rw [fx5 0 (by decide), fm5.1 8 (by decide)]; exact B8⟩
      · unfold DkR; rw [fx5 1 (by decide), fm5.1 2 (by decide), fm5.1 3 (by decide), fm5.2 1 (by decide), fm5.2 2 (by decide), fm5.2 3 (by decide)]; exact B1
      · unfold WR; rw [k3 5 (by decide), s24 5 (by decide), K2.1 5 (by decide), K2.1 6 (by decide), K2.1 7 (by decide), u2.1 5 (by decide), u2.1 6 (by decide), u2.1 7 (by decide)]; exact z5
      · rw [k3 2 (by decide), t3, s2 2 (by decide), fx2 2 (by decide)]; exact B6
    · rw [fx5 0 (by decide)]; exact hst
    · unfold StR; rw [k3 2 (by decide), K2.1 9 (by decide), K2.1 10 (by decide), K2.2 5 (by decide), K2.2 6 (by decide)]; exact st4
    · rw [K2.2 6 (by decide)]; exact la4
    · exact tapes_fr h4 (fun t ht => ⟨(tx t ht).1, (tx t ht).2.1, (tx t ht).2.2.1⟩) (fm5.2 8 (by decide)) (fm5.2 9 (by decide)) (fm5.2 10 (by decide))
    · intro t ht
      obtain ⟨_, _, _, _, _, o6, o7, o8⟩ := k7
      obtain ⟨_, _, _, _, _, w6, w7, w8⟩ := K4
      rcases (show t = 0 ∨ t = 1 ∨ t = 2 ∨ t = 3 by omega) with rfl | rfl | rfl | rfl
      · exact ⟨o6, w6⟩
      · exact ⟨o7, w7⟩
      · exact ⟨o8, w8⟩
      · have d3 := h5 3 (by omega)
        rw [g4] at d3
        exact ⟨by rw [fx5 (7 + 3) (by decide)]; exact d3.1, by rw [K3, fm3.2 11 (by decide)]; exact d3.2⟩
    · intro t ht; rw [fx5 0 (by decide), fm5.2 12 (by decide)]; exact h6 t ht
    · unfold RwR; rw [k3 6 (by decide), s24 6 (by decide), K2.1 16 (by decide), K2.2 15 (by decide), u2.1 16 (by decide), u2.2 15 (by decide)]; exact v1
    · rw [fm5.1 11 (by decide)]; exact h9
