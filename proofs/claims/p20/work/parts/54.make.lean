/-! Layer B: a run is made. -/
theorem row_add {r r' : SS} {cnt cnt' : Int32} {run run' : Nat → Int32} {n c : Nat} {v : Int32} (h : RowR r cnt run n c) (hv : isC c v) (hn : n < 150) (h1 : r'.1 0 = n32 (n + 1)) (h2 : cnt' = n32 (n + 1)) (h3 : r'.2 1 = upd (r.2 1) n v) (h4 : run' = upd run n v) : RowR r' cnt' run' (n + 1) c := by
  refine ⟨h1, h2, by omega, fun k hk => ?_⟩
  rw [h3, h4, upd_ap, upd_ap]
  by_cases e : k = n
  · rw [if_pos e, if_pos e]; exact ⟨rfl, hv⟩
  · rw [if_neg e, if_neg e]; exact h.2.2.2 k (by omega)
theorem card_in {N : Nat} {σ : SX} {j hn k : Nat} (h : (σ j).1 1 = n32 hn) (h8 : hn ≤ 8) (hk : k < hn) : m_S_cardIn N σ j (n32 k) = some ((σ j).2 1 k, σ) := by
  rw [m_S_cardIn, h]
  simp (disch := omega) only [l0, l1, l2, l3, l4, l8, l20, l150, l300, l1000, ↓lm1, n32_lt, n32_le, n32_eq, n32_inb, n32_cl, n32_add, mi_lt, mi_le, n_le_mi, n_eq_mi, mi_eq_n]
  rw [if_neg (by omega), if_neg (by omega), if_pos (by omega)]
theorem repl_1 {N : Nat} {σ μ : SX} {c p hn nn k : Nat} {r : Int32} (hd : DkR σ μ c p) (h1 : (σ 3).1 1 = n32 hn) (h2 : (σ 3).1 2 = n32 nn) (h8 : hn ≤ 8) (hk : k < hn) (hn' : nn < c) (hr : r = n32 0 ∨ r = n32 1)
    (hc : m_D_comesBefore N σ (n32 nn) ((σ 3).2 1 k) = some (r, σ)) : m_S_replaceCard N σ 3 (n32 k) = some (w1 (w3 (w3 σ 3 2 (n32 k) r) 3 1 (n32 k) (n32 nn)) 3 2 (n32 (nn + 1))) := by
  have c150 := hd.1.2.2
  rw [m_S_replaceCard, h1, h2, has_c hd (by omega), if_pos hn', bI_s]
  simp (disch := omega) only [l0, l1, l2, l3, l4, l8, l20, l150, l300, l1000, ↓lm1, n32_lt, n32_le, n32_eq, n32_inb, n32_cl, n32_add, mi_lt, mi_le, n_le_mi, n_eq_mi, mi_eq_n]
  have k8 : k < 8 := by omega
  have ne : ¬ (1 = 0) := by omega
  rw [if_neg (show ¬ k < 0 by omega), if_pos hk, if_neg ne, if_pos k8, hc, bI_s, if_pos k8, if_pos k8, nar_b hr]
  simp (disch := omega) only [l0, l1, l2, l3, l4, l8, l20, l150, l300, l1000, ↓lm1, n32_lt, n32_le, n32_eq, n32_inb, n32_cl, n32_add, mi_lt, mi_le, n_le_mi, n_eq_mi, mi_eq_n, w1_s, w1_a, w2_s, w2_a, w3_s, w3_a, tn, nt, tt, true_and, and_true, false_and, and_false, and_self, if_true, if_false, Nat.reduceEqDiff, reduceIte, Nat.reduceAdd, h2]
theorem repl_2 {N : Nat} {σ μ : SX} {c p hn nn k : Nat} (hd : DkR σ μ c p) (h1 : (σ 3).1 1 = n32 hn) (h2 : (σ 3).1 2 = n32 nn) (h8 : hn ≤ 8) (hk : k < hn) (hn' : c ≤ nn) (hn2 : nn ≤ c) (hr : (σ 3).2 2 (hn - 1) = n32 0 ∨ (σ 3).2 2 (hn - 1) = n32 1) :
    m_S_replaceCard N σ 3 (n32 k) = some (w3 (w3 (w1 σ 3 1 (n32 (hn - 1))) 3 1 (n32 k) ((σ 3).2 1 (hn - 1))) 3 2 (n32 k) ((σ 3).2 2 (hn - 1))) := by
  have c150 := hd.1.2.2
  rw [m_S_replaceCard, h1, h2, has_c hd (by omega), if_neg (show ¬ nn < c by omega), bI_s]
  have e1 : 1 ≤ hn := by omega
  simp (disch := omega) only [l0, l1, l2, l3, l4, l8, l20, l150, l300, l1000, ↓lm1, n32_lt, n32_le, n32_eq, n32_inb, n32_cl, n32_add, mi_lt, mi_le, n_le_mi, n_eq_mi, mi_eq_n, w1_s, w1_a, w2_s, w2_a, w3_s, w3_a, tn, nt, tt, true_and, and_true, false_and, and_false, and_self, if_true, if_false, Nat.reduceEqDiff, reduceIte, Nat.reduceAdd, n32_sub, h1]
  have k8 : k < 8 := by omega
  have m8 : hn - 1 < 8 := by omega
  rw [if_neg (show ¬ k < 0 by omega), if_pos hk, if_pos m8, if_pos k8, if_pos m8, if_pos k8, nar_b hr]
theorem make_l {N : Nat} (hN : 10 ≤ N) {c p T : Nat} : ∀ (n i : Nat) (σ μ : SX) (hn nn : Nat), DkR σ μ c p → WR σ μ → TrR σ μ hn nn c → RwR σ μ i c → T + i + hn = nn → 150 - i < n →
    ∃ r σ' μ', m_O_writeRunFromTrial_9 N n σ (n32 i) = some (r, σ') ∧ (bI (m_M_first N μ) fun b _ => m_M_makeRun_5 N n μ b) = some (r, μ') ∧ frX [3, 5, 6] σ σ' ∧ frM [5, 6, 7, 14, 15, 16] [13, 14, 15] μ μ' ∧ WR σ' μ' ∧ (σ' 3).1 0 = (σ 3).1 0 ∧
      (r = n32 0 ∨ (r = n32 1 ∧ ∃ i' hn' nn', RwR σ' μ' i' c ∧ TrR σ' μ' hn' nn' c ∧ T + i' + hn' = nn' ∧ i ≤ i' ∧ (i' = i → ∀ j, j < hn → (μ 0).2 14 j ≠ n32 0))) := by
  intro n
  induction n with
  | zero => intro i σ μ hn nn _ _ _ _ _ h; omega
  | succ n ih =>
    intro i σ μ hn nn hd hw ht hr hT hi
    obtain ⟨b, f1, f2, f3⟩ := first_eq hN hd ht
    have c150 := hd.1.2.2
    have i150 := hr.2.2.1
    obtain ⟨⟨a1, a2, a3⟩, ⟨a4, a5, a6⟩, a7⟩ := id ht
    rw [m_O_writeRunFromTrial_9, f1, f2, bI_s, bI_s, m_M_makeRun_5]
    rcases f3 with ⟨rfl, f4⟩ | ⟨k, hk, rfl⟩
    · refine ⟨n32 1, σ, μ, ?_, ?_, frX.rf, frM.rf, hw, rfl, Or.inr ⟨rfl, i, hn, nn, hr, ht, hT, Nat.le_refl i, fun _ => f4⟩⟩
      · rw [if_pos (show mi = -1 from rfl)]
        by_cases e : (150 : Int32) ≤ n32 i
        · rw [if_pos e]; rfl
        · rw [if_neg e]; rfl
      · rw [if_pos (show mi < 0 by decide)]; rfl
    · have i1 : i < 150 := by omega
      obtain ⟨b1, b2, b3, b4⟩ := a7 k hk
      obtain ⟨σ1, μ1, e1, e2, e3⟩ := write_eq (N := N) (v := (μ 0).2 13 k) hw hr.2.1 i1
      have k8 : k < 8 := by omega
      have kb : inb (n32 k) 8 = true := inbn (by omega) k8
      have z1 : ¬ (150 : Int32) ≤ n32 i := by rw [l150, n32_le (by omega) (by omega)]; omega
      have z2 : ¬ n32 k = -1 := by rw [lm1, n_eq_mi (by omega)]; exact id
      have z3 : (n32 k).toNatClampNeg = k := n32_cl (by omega)
      rw [if_neg z1, if_neg z2, if_neg (nlt0 (by omega)), if_pos kb, z3]
      rcases e3 with ⟨g1, g2, g3⟩ | ⟨g1, g2, g3, g4, g5⟩
      · rw [g1, g2, bI_s, bI_s, if_pos eq00, if_pos eq00]
        exact ⟨n32 0, σ1, μ1, rfl, rfl, e1.mo (by simp), g3.mo (by simp) (by simp), e2, by rw [e1 3 (by decide)], Or.inl rfl⟩
      · rw [g1, g2, bI_s, bI_s, if_neg ne10, if_neg ne10]
        have s3 : σ1 3 = σ 3 := e1 3 (by decide)
        rw [card_in (σ := σ1) (hn := hn) (by rw [s3]; exact a1) a3 hk, bI_s, s3, b1]
        obtain ⟨σ2, q1, q2, q3, q4⟩ := radd_eq (N := N) (σ := σ1) (n := i) (v := (μ 0).2 13 k) (by rw [e1 6 (by decide)]; exact hr.1) i1
        rw [q1, bV_s]
        have t3 : σ2 3 = σ 3 := (q2 3 (by decide)).trans s3
        have t1 : σ2 1 = σ 1 := (q2 1 (by decide)).trans (e1 1 (by decide))
        have t5 : σ2 5 = σ1 5 := q2 5 (by decide)
        have t6 : σ1 6 = σ 6 := e1 6 (by decide)
        have hrow : RowR (σ2 6) ((μ1 0).1 16) ((μ1 0).2 15) (i + 1) c := row_add hr b3 i1 q3 g4 (by rw [q4, t6]) g5
        have m2 := g3.1 2 (by decide)
        have m15 := g3.1 15 (by decide)
        have m14 := g3.1 14 (by decide)
        have A13 := g3.2 13 (by decide)
        have A14 := g3.2 14 (by decide)
        have hd2 : DkR σ2 μ1 c p := by
          unfold DkR
          rw [t1, m2, g3.1 3 (by decide), g3.2 1 (by decide), g3.2 2 (by decide), g3.2 3 (by decide)]; exact hd
        rw [l1, n32_add]
        have cc : ((μ1 0).1 2 ≤ (μ1 0).1 15) = (c ≤ nn) := by rw [m2, m15, hd.1.2.1, a5, n32_le (by omega) (by omega)]
        have hb : inb (n32 (hn - 1)) 8 = true := inbn (by omega) (by omega)
        have w14 : ∀ v : Int32, ((w1 μ1 0 14 v) 0).1 14 = v := fun v => by simp only [w1_s, w1_a, w2_s, w2_a, w3_s, w3_a, tn, nt, tt, true_and, and_true, false_and, and_false, and_self, if_true, if_false, Nat.reduceEqDiff, reduceIte, Nat.reduceAdd]
        have w14b : ∀ v v2 v3 : Int32, ((w3 (w1 μ1 0 14 v) 0 13 v2 v3) 0).1 14 = v := fun v v2 v3 => by simp only [w1_s, w1_a, w2_s, w2_a, w3_s, w3_a, tn, nt, tt, true_and, and_true, false_and, and_false, and_self, if_true, if_false, Nat.reduceEqDiff, reduceIte, Nat.reduceAdd]
        have w13 : ∀ v : Int32, ((w1 μ1 0 14 v) 0).2 13 = (μ1 0).2 13 := fun v => by simp only [w1_s, w1_a, w2_s, w2_a, w3_s, w3_a, tn, nt, tt, true_and, and_true, false_and, and_false, and_self, if_true, if_false, Nat.reduceEqDiff, reduceIte, Nat.reduceAdd]
        have w13b : ∀ v v2 v3 : Int32, ((w3 (w1 μ1 0 14 v) 0 13 v2 v3) 0).2 14 = (μ1 0).2 14 := fun v v2 v3 => by simp only [w1_s, w1_a, w2_s, w2_a, w3_s, w3_a, tn, nt, tt, true_and, and_true, false_and, and_false, and_self, if_true, if_false, Nat.reduceEqDiff, reduceIte, Nat.reduceAdd]
        have w15 : ∀ v v2 : Int32, ((w3 μ1 0 13 v v2) 0).1 15 = (μ1 0).1 15 := fun v v2 => by simp only [w1_s, w1_a, w2_s, w2_a, w3_s, w3_a, tn, nt, tt, true_and, and_true, false_and, and_false, and_self, if_true, if_false, Nat.reduceEqDiff, reduceIte, Nat.reduceAdd]
        have w15b : ∀ v v2 v3 : Int32, ((w3 (w3 μ1 0 13 v v2) 0 14 v v3) 0).1 15 = (μ1 0).1 15 := fun v v2 v3 => by simp only [w1_s, w1_a, w2_s, w2_a, w3_s, w3_a, tn, nt, tt, true_and, and_true, false_and, and_false, and_self, if_true, if_false, Nat.reduceEqDiff, reduceIte, Nat.reduceAdd]
        by_cases ec : c ≤ nn
        · have h1n : 1 ≤ hn := by omega
          have m8 : hn - 1 < 8 := by omega
          obtain ⟨d1, d2, d3, d4⟩ := a7 (hn - 1) (by omega)
          rw [repl_2 (hn := hn) (nn := nn) hd2 (by rw [t3]; exact a1) (by rw [t3]; exact a4) a3 hk ec a6 (by rw [t3, d2]; exact d4), bV_s]
          rw [if_pos (cc.mpr ec)]
          have x1 : (μ1 0).1 14 - n32 1 = n32 (hn - 1) := by rw [m14, a2, n32_sub h1n]
          have x2 : (n32 (hn - 1)).toNatClampNeg = hn - 1 := n32_cl (by omega)
          simp only [x1, w14, w14b, w13, w13b, x2, A13, A14]
          rw [if_pos hb, if_pos kb, if_pos hb, if_pos kb, nar_b d4]
          obtain ⟨r, σ', μ', y1, y2, y3, y4, y5, y7, y6⟩ := ih (i + 1) (w3 (w3 (w1 σ2 3 1 (n32 (hn - 1))) 3 1 (n32 k) ((σ2 3).2 1 (hn - 1))) 3 2 (n32 k) ((σ2 3).2 2 (hn - 1)))
            (w3 (w3 (w1 μ1 0 14 (n32 (hn - 1))) 0 13 (n32 k) ((μ 0).2 13 (hn - 1))) 0 14 (n32 k) ((μ 0).2 14 (hn - 1))) (hn - 1) nn
            (by simp only [DkR, w1_s, w1_a, w2_s, w2_a, w3_s, w3_a, tn, nt, tt, true_and, and_true, false_and, and_false, and_self, if_true, if_false, Nat.reduceEqDiff, reduceIte, Nat.reduceAdd]; rw [w3_n (by decide), w3_n (by decide), w1_n (by decide)]; exact hd2)
            (by simp only [WR, w1_s, w1_a, w2_s, w2_a, w3_s, w3_a, tn, nt, tt, true_and, and_true, false_and, and_false, and_self, if_true, if_false, Nat.reduceEqDiff, reduceIte, Nat.reduceAdd]; rw [w3_n (by decide), w3_n (by decide), w1_n (by decide), t5]; exact e2)
            (by
              refine ⟨⟨by simp only [w1_s, w1_a, w2_s, w2_a, w3_s, w3_a, tn, nt, tt, true_and, and_true, false_and, and_false, and_self, if_true, if_false, Nat.reduceEqDiff, reduceIte, Nat.reduceAdd], by simp only [w1_s, w1_a, w2_s, w2_a, w3_s, w3_a, tn, nt, tt, true_and, and_true, false_and, and_false, and_self, if_true, if_false, Nat.reduceEqDiff, reduceIte, Nat.reduceAdd], by omega⟩, ⟨by simp only [w1_s, w1_a, w2_s, w2_a, w3_s, w3_a, tn, nt, tt, true_and, and_true, false_and, and_false, and_self, if_true, if_false, Nat.reduceEqDiff, reduceIte, Nat.reduceAdd, t3]; exact a4, by simp only [w1_s, w1_a, w2_s, w2_a, w3_s, w3_a, tn, nt, tt, true_and, and_true, false_and, and_false, and_self, if_true, if_false, Nat.reduceEqDiff, reduceIte, Nat.reduceAdd, m15]; exact a5, a6⟩, fun q hq => ?_⟩
              simp (disch := omega) only [w1_s, w1_a, w2_s, w2_a, w3_s, w3_a, tn, nt, tt, true_and, and_true, false_and, and_false, and_self, if_true, if_false, Nat.reduceEqDiff, reduceIte, Nat.reduceAdd, upd_ap, n32_cl, t3, A13, A14]
              by_cases eq : q = k
              · rw [if_pos eq, if_pos eq, if_pos eq, if_pos eq]; exact ⟨d1, d2, d3, d4⟩
              · rw [if_neg eq, if_neg eq, if_neg eq, if_neg eq]; exact a7 q (by omega))
            (by simp only [RwR, w1_s, w1_a, w2_s, w2_a, w3_s, w3_a, tn, nt, tt, true_and, and_true, false_and, and_false, and_self, if_true, if_false, Nat.reduceEqDiff, reduceIte, Nat.reduceAdd]; rw [w3_n (by decide), w3_n (by decide), w1_n (by decide)]; exact hrow)
            (by omega) (by omega)
          refine ⟨r, σ', μ', y1, y2, ((e1.mo (by simp)).tr (q2.mo (by simp))).tr ((((frX.w1 (by decide)).tr (frX.w3 (by decide))).tr (frX.w3 (by decide))).tr y3), (g3.mo (by simp) (by simp)).tr ((((frM.w1 (by decide)).tr (frM.w3 (by decide))).tr (frM.w3 (by decide))).tr y4), y5, by rw [y7]; simp only [w1_s, w1_a, w2_s, w2_a, w3_s, w3_a, tn, nt, tt, true_and, and_true, false_and, and_false, and_self, if_true, if_false, Nat.reduceEqDiff, reduceIte, Nat.reduceAdd, t3], ?_⟩
          rcases y6 with y6 | ⟨y6, i', hn', nn', z1, z2, z3, z4, z5⟩
          · exact Or.inl y6
          · exact Or.inr ⟨y6, i', hn', nn', z1, z2, z3, by omega, fun e => by omega⟩
        · have hd3 : DkR σ2 (w3 μ1 0 13 (n32 k) (n32 nn)) c p := by simp only [DkR, w1_s, w1_a, w2_s, w2_a, w3_s, w3_a, tn, nt, tt, true_and, and_true, false_and, and_false, and_self, if_true, if_false, Nat.reduceEqDiff, reduceIte, Nat.reduceAdd]; exact hd2
          obtain ⟨r, hr2, c1, c2⟩ := cmp_eq hN hd3 (a := n32 nn) (b := (μ 0).2 13 k) ⟨nn, by omega, rfl⟩ b3
          rw [repl_1 (hn := hn) (nn := nn) (r := r) hd2 (by rw [t3]; exact a1) (by rw [t3]; exact a4) a3 hk (by omega) hr2 (by rw [t3, b1]; exact c1), bV_s]
          rw [if_neg (fun q => ec (cc.mp q)), if_pos kb]
          simp only [w15, w15b, m15, a5]
          rw [c2, bI_s, if_pos kb, nar_b hr2, n32_add]
          obtain ⟨r', σ', μ', y1, y2, y3, y4, y5, y7, y6⟩ := ih (i + 1) (w1 (w3 (w3 σ2 3 2 (n32 k) r) 3 1 (n32 k) (n32 nn)) 3 2 (n32 (nn + 1)))
            (w1 (w3 (w3 μ1 0 13 (n32 k) (n32 nn)) 0 14 (n32 k) r) 0 15 (n32 (nn + 1))) hn (nn + 1)
            (by simp only [DkR, w1_s, w1_a, w2_s, w2_a, w3_s, w3_a, tn, nt, tt, true_and, and_true, false_and, and_false, and_self, if_true, if_false, Nat.reduceEqDiff, reduceIte, Nat.reduceAdd]; rw [w1_n (by decide), w3_n (by decide), w3_n (by decide)]; exact hd2)
            (by simp only [WR, w1_s, w1_a, w2_s, w2_a, w3_s, w3_a, tn, nt, tt, true_and, and_true, false_and, and_false, and_self, if_true, if_false, Nat.reduceEqDiff, reduceIte, Nat.reduceAdd]; rw [w1_n (by decide), w3_n (by decide), w3_n (by decide), t5]; exact e2)
            (by
              refine ⟨⟨by simp only [w1_s, w1_a, w2_s, w2_a, w3_s, w3_a, tn, nt, tt, true_and, and_true, false_and, and_false, and_self, if_true, if_false, Nat.reduceEqDiff, reduceIte, Nat.reduceAdd, t3]; exact a1, by simp only [w1_s, w1_a, w2_s, w2_a, w3_s, w3_a, tn, nt, tt, true_and, and_true, false_and, and_false, and_self, if_true, if_false, Nat.reduceEqDiff, reduceIte, Nat.reduceAdd, m14]; exact a2, a3⟩, ⟨by simp only [w1_s, w1_a, w2_s, w2_a, w3_s, w3_a, tn, nt, tt, true_and, and_true, false_and, and_false, and_self, if_true, if_false, Nat.reduceEqDiff, reduceIte, Nat.reduceAdd], by simp only [w1_s, w1_a, w2_s, w2_a, w3_s, w3_a, tn, nt, tt, true_and, and_true, false_and, and_false, and_self, if_true, if_false, Nat.reduceEqDiff, reduceIte, Nat.reduceAdd], by omega⟩, fun q hq => ?_⟩
              simp (disch := omega) only [w1_s, w1_a, w2_s, w2_a, w3_s, w3_a, tn, nt, tt, true_and, and_true, false_and, and_false, and_self, if_true, if_false, Nat.reduceEqDiff, reduceIte, Nat.reduceAdd, upd_ap, n32_cl, t3, A13, A14]
              by_cases eq : q = k
              · rw [if_pos eq, if_pos eq, if_pos eq, if_pos eq]; exact ⟨rfl, rfl, ⟨nn, by omega, rfl⟩, hr2⟩
              · rw [if_neg eq, if_neg eq, if_neg eq, if_neg eq]; exact a7 q (by omega))
            (by simp only [RwR, w1_s, w1_a, w2_s, w2_a, w3_s, w3_a, tn, nt, tt, true_and, and_true, false_and, and_false, and_self, if_true, if_false, Nat.reduceEqDiff, reduceIte, Nat.reduceAdd]; rw [w1_n (by decide), w3_n (by decide), w3_n (by decide)]; exact hrow)
            (by omega) (by omega)
          refine ⟨r', σ', μ', y1, y2, ((e1.mo (by simp)).tr (q2.mo (by simp))).tr ((((frX.w3 (by decide)).tr (frX.w3 (by decide))).tr (frX.w1 (by decide))).tr y3), (g3.mo (by simp) (by simp)).tr ((((frM.w3 (by decide)).tr (frM.w3 (by decide))).tr (frM.w1 (by decide))).tr y4), y5, by rw [y7]; simp only [w1_s, w1_a, w2_s, w2_a, w3_s, w3_a, tn, nt, tt, true_and, and_true, false_and, and_false, and_self, if_true, if_false, Nat.reduceEqDiff, reduceIte, Nat.reduceAdd, t3], ?_⟩
          rcases y6 with y6 | ⟨y6, i', hn', nn', z1, z2, z3, z4, z5⟩
          · exact Or.inl y6
          · exact Or.inr ⟨y6, i', hn', nn', z1, z2, z3, by omega, fun e => by omega⟩
