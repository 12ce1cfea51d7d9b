/-! Layer B: the loop of merging. -/
theorem hd_fr {σ μ σ' μ' : SX} {c : Nat} {rl rn cn dn hk hk' : Nat → Nat} {ls : Nat → Nat → Nat} (h : HdR σ μ c rl rn cn dn ls hk) (x : ∀ t, t < 4 → σ' (7 + t) = σ (7 + t)) (x1 : (σ' 0).2 1 = (σ 0).2 1) (x3 : (σ' 0).2 3 = (σ 0).2 3) (fm : frM [5, 6, 7, 16] [15, 16] μ μ')
    (hh : ∀ k, k < 3 → (σ' 0).2 2 k = n32 (hk' k) ∧ (μ' 0).2 16 k = n32 (hk' k) ∧ hk' k ≤ hdd rl dn ls k) : HdR σ' μ' c rl rn cn dn ls hk' := by
  obtain ⟨h1, h2, h3, h4, h5⟩ := h
  refine ⟨tapes_fr h1 (fun t ht => by rw [x t ht]; exact ⟨rfl, rfl, rfl⟩) (fm.2 8 (by decide)) (fm.2 9 (by decide)) (fm.2 10 (by decide)), ?_, ?_, h4, fun k hk => ?_⟩
  · intro t ht; rw [x t ht, fm.2 11 (by decide)]; exact h2 t ht
  · intro t ht; rw [x1, fm.2 12 (by decide)]; exact h3 t ht
  · rw [x3]; exact ⟨(hh k hk).1, (h5 k hk).2.1, (hh k hk).2.1, (hh k hk).2.2⟩
theorem merge_l {N : Nat} {c p : Nat} {rl rn cn dn : Nat → Nat} {ls : Nat → Nat → Nat} (hN : 200 ≤ N) (hT : hdd rl dn ls 0 + hdd rl dn ls 1 + hdd rl dn ls 2 ≤ 150) : ∀ (n b : Nat) (σ μ : SX) (hk : Nat → Nat), b < 3 → DkR σ μ c p → WR σ μ → HdR σ μ c rl rn cn dn ls hk → RwR σ μ (hk 0 + hk 1 + hk 2) c → (hdd rl dn ls 0 + hdd rl dn ls 1 + hdd rl dn ls 2) - (hk 0 + hk 1 + hk 2) + 1 < n →
    ∃ r σ' μ', m_O_writeMergedRun_57 N n σ (n32 (hk 0 + hk 1 + hk 2)) = some (r, σ') ∧ m_M_mergeRuns_27 N n μ (n32 b) = some (r, μ') ∧ frX [0, 5, 6] σ σ' ∧ (σ' 0).1 = (σ 0).1 ∧ (σ' 0).2 1 = (σ 0).2 1 ∧ frM [5, 6, 7, 16] [15, 16] μ μ' ∧ WR σ' μ' ∧
      (r = n32 0 ∨ (r = n32 1 ∧ RwR σ' μ' (hdd rl dn ls 0 + hdd rl dn ls 1 + hdd rl dn ls 2) c)) := by
  intro n
  induction n with
  | zero => intro b σ μ hk _ _ _ _ _ h; omega
  | succ n ih =>
    intro b σ μ hk b3 hd hw hh hr hn
    obtain ⟨i, hi⟩ : ∃ i, i = hk 0 + hk 1 + hk 2 := ⟨_, rfl⟩
    have g0 := (hh.2.2.2.2 0 (by omega)).2.2.2
    have g1 := (hh.2.2.2.2 1 (by omega)).2.2.2
    have g2 := (hh.2.2.2.2 2 (by omega)).2.2.2
    obtain ⟨b', p1, p2⟩ := pick_l hN hd hh (m_M_mergeRuns_27 N n) N 0 mi mi (by omega) (by omega) (Or.inl ⟨rfl, rfl⟩)
    rw [m_O_writeMergedRun_57, m_M_mergeRuns_27, if_neg (nlt0 (by omega)), l0, lm1, m_O_sourceOfFirstCard, l0, lm1, p1, bI_s]
    rw [← hi] at hr hn ⊢
    rcases p2 with ⟨rfl, -, p3, p4⟩ | ⟨q, q3, rfl, p3, p4⟩
    · rw [p4]
      have c0 := p3 0 (by omega) (by omega)
      have c1 := p3 1 (by omega) (by omega)
      have c2 := p3 2 (by omega) (by omega)
      have ei : i = hdd rl dn ls 0 + hdd rl dn ls 1 + hdd rl dn ls 2 := by omega
      refine ⟨n32 1, σ, μ, ?_, ?_, frX.rf, rfl, rfl, frM.rf, hw, Or.inr ⟨rfl, ei ▸ hr⟩⟩
      · rw [if_pos (show mi = mi from rfl)]
        by_cases e : (150 : Int32) ≤ n32 i
        · rw [if_pos e]; rfl
        · rw [if_neg e]; rfl
      · obtain ⟨k, rfl⟩ : ∃ k, n = k + 1 := ⟨n - 1, by omega⟩
        rw [m_M_mergeRuns_27, if_pos (show mi < 0 by decide)]; rfl
    · have qs : i + 1 ≤ hdd rl dn ls 0 + hdd rl dn ls 1 + hdd rl dn ls 2 := by
        rcases (show q = 0 ∨ q = 1 ∨ q = 2 by omega) with rfl | rfl | rfl <;> omega
      obtain ⟨x1, x2, x3, x4⟩ := next_c hN hh q3 p3
      have z1 : ¬ (150 : Int32) ≤ n32 i := by rw [l150, n32_le (by omega) (by omega)]; omega
      have z2 : ¬ n32 q = mi := by rw [n_eq_mi (by omega)]; exact id
      rw [p4, if_neg z1, if_neg z2]
      have hw2 : WR σ (w3 μ 0 16 (n32 q) (n32 (hk q + 1))) := by unfold WR; rw [w3_s]; exact hw
      obtain ⟨σ1, μ1, e1, e2, e3⟩ := write_eq (N := N) (k := i) (v := cdd μ rl hk q) hw2 (by rw [w3_s]; exact hr.2.1) (by omega)
      have fw : frM [5, 6, 7, 16] [15, 16] μ (w3 μ 0 16 (n32 q) (n32 (hk q + 1))) := frM.w3 (by decide)
      rcases e3 with ⟨g1, g2, g3⟩ | ⟨g1, g2, g3, g4, g5⟩
      · rw [g1, g2, bI_s, bI_s, if_pos (show n32 0 = n32 0 from rfl), if_pos (show n32 0 = n32 0 from rfl)]
        exact ⟨n32 0, σ1, μ1, rfl, rfl, e1.mo (by decide), by rw [e1 0 (by decide)], by rw [e1 0 (by decide)], fw.tr (g3.mo (by decide) (by decide)), e2, Or.inl rfl⟩
      · rw [g1, g2, bI_s, bI_s, if_neg (show ¬ n32 1 = n32 0 by decide), if_neg (show ¬ n32 1 = n32 0 by decide)]
        have hh1 : HdR σ1 μ c rl rn cn dn ls hk := hd_fr hh (fun t ht => e1 (7 + t) (by simp; omega)) (by rw [e1 0 (by decide)]) (by rw [e1 0 (by decide)]) frM.rf (fun k hk => by rw [e1 0 (by decide)]; exact ⟨(hh.2.2.2.2 k hk).1, (hh.2.2.2.2 k hk).2.2.1, (hh.2.2.2.2 k hk).2.2.2⟩)
        rw [(next_c hN hh1 q3 p3).1, bI_s]
        obtain ⟨σ2, q1, q2, q4, q5⟩ := radd_eq (N := N) (σ := σ1) (n := i) (v := cdd μ rl hk q) (by rw [e1 6 (by decide)]; exact hr.1) (by omega)
        have s20 : σ2 0 = σ 0 := (q2 0 (by decide)).trans (e1 0 (by decide))
        have qb : inb (n32 q) 3 = true := inbn (by omega) q3
        rw [q1, bV_s, if_pos qb, if_pos qb, n32_cl (show q < 2147483648 by omega), s20, (hh.2.2.2.2 q q3).1, l1, n32_add, n32_add]
        have fm1 : frM [5, 6, 7, 16] [15, 16] μ μ1 := fw.tr (g3.mo (by decide) (by decide))
        have fx3 : frX [0, 5, 6] σ (w3 σ2 0 2 (n32 q) (n32 (hk q + 1))) := ((e1.mo (by decide)).tr (q2.mo (by decide))).tr (frX.w3 (by decide))
        have a16 : (μ1 0).2 16 = upd ((μ 0).2 16) q (n32 (hk q + 1)) := by rw [g3.2 16 (by decide)]; simp (disch := omega) only [w1_s, w1_a, w2_s, w2_a, w3_s, w3_a, tn, nt, tt, true_and, and_true, false_and, and_false, and_self, if_true, if_false, Nat.reduceEqDiff, reduceIte, Nat.reduceAdd, n32_cl]
        have hs : up hk q (hk q + 1) 0 + up hk q (hk q + 1) 1 + up hk q (hk q + 1) 2 = i + 1 := by
          rcases (show q = 0 ∨ q = 1 ∨ q = 2 by omega) with rfl | rfl | rfl <;> (simp only [up, if_true, if_false, reduceIte, Nat.reduceEqDiff]; omega)
        have t0 : ∀ k, ((w3 σ2 0 2 (n32 q) (n32 (hk q + 1))) 0).2 k = if k = 2 then upd ((σ 0).2 2) q (n32 (hk q + 1)) else (σ 0).2 k := fun k => by
          rw [w3_a, n32_cl (by omega), s20]
          by_cases ek : k = 2
          · rw [if_pos ⟨rfl, ek⟩, if_pos ek, ek]
          · rw [if_neg (fun e => ek e.2), if_neg ek]
        have t01 : ((w3 σ2 0 2 (n32 q) (n32 (hk q + 1))) 0).1 = (σ 0).1 := by rw [w3_s, s20]
        have hh3 : HdR (w3 σ2 0 2 (n32 q) (n32 (hk q + 1))) μ1 c rl rn cn dn ls (up hk q (hk q + 1)) := by
          refine hd_fr hh (fun t ht => fx3 (7 + t) (by simp; omega)) (by rw [t0, if_neg (by decide)]) (by rw [t0, if_neg (by decide)]) fm1 (fun k k3 => ?_)
          rw [t0, if_pos rfl, a16, upd_ap, upd_ap]
          by_cases ek : k = q
          · rw [if_pos ek, if_pos ek, ek, up_s]; exact ⟨rfl, rfl, by omega⟩
          · rw [if_neg ek, if_neg ek, up_n ek]; exact ⟨(hh.2.2.2.2 k k3).1, (hh.2.2.2.2 k k3).2.2.1, (hh.2.2.2.2 k k3).2.2.2⟩
        have dk3 : DkR (w3 σ2 0 2 (n32 q) (n32 (hk q + 1))) μ1 c p := by
          unfold DkR; rw [fx3 1 (by decide), fm1.1 2 (by decide), fm1.1 3 (by decide), fm1.2 1 (by decide), fm1.2 2 (by decide), fm1.2 3 (by decide)]; exact hd
        have w5 : (w3 σ2 0 2 (n32 q) (n32 (hk q + 1))) 5 = σ1 5 := (w3_n (by decide)).trans (q2 5 (by decide))
        have wr3 : WR (w3 σ2 0 2 (n32 q) (n32 (hk q + 1))) μ1 := by unfold WR; rw [w5]; exact e2
        have rw3 : RwR (w3 σ2 0 2 (n32 q) (n32 (hk q + 1))) μ1 (up hk q (hk q + 1) 0 + up hk q (hk q + 1) 1 + up hk q (hk q + 1) 2) c := by
          rw [hs]
          unfold RwR
          rw [w3_n (by decide)]
          exact row_add (r := σ 6) (run := (μ 0).2 15) hr x2 (by omega) q4 g4 (by rw [q5, e1 6 (by decide)]) (by rw [g5, w3_a, if_neg (by decide)])
        obtain ⟨r, σ', μ', y1, y2, y3, y4, y5, y6, y7, y8⟩ := ih q _ μ1 (up hk q (hk q + 1)) q3 dk3 wr3 hh3 rw3 (by rw [hs]; omega)
        rw [hs] at y1
        exact ⟨r, σ', μ', y1, y2, fx3.tr y3, y4.trans t01, by rw [y5, t0, if_neg (by decide)], fm1.tr y6, y7, y8⟩
theorem rl0_x {N : Nat} {σ : SX} {t off : Nat} {r : Int32} {ta le : Nat → Int32} {rn cn c : Nat} {ls : Nat → Nat} (h : TapR (σ (7 + t)) off r ta le rn cn c ls) (h1 : 1 ≤ rn) : m_T_runLength N σ t 0 = some (n32 (ls 0), σ) := by
  have hr := tap_rn h
  have hc := h.2.1.2
  have z1 : ¬ (0 : Int32) < 0 := by decide
  have z2 : ¬ n32 rn ≤ (0 : Int32) := by rw [l0, n32_le (by omega) (by omega)]; omega
  rw [m_T_runLength, if_neg z1, h.1.1, if_neg z2, if_pos (by decide), l0, n32_cl (by omega), (h.2.2.1 0 h1).1]
theorem ini_l {N : Nat} {μ : SX} {c : Nat} {rl rn cn dn : Nat → Nat} {ls : Nat → Nat → Nat} (h1 : ∀ k, k < 3 → 1 ≤ rn (rl k) + dn (rl k) ∧ dn (rl k) ≤ 150) : ∀ (n k : Nat) (σ : SX), k ≤ 3 → 3 - k < n → TapesL σ μ c rn cn ls → DumR σ μ dn → RolR σ μ rl →
    (∀ q, q < k → (σ 0).2 2 q = n32 0 ∧ (σ 0).2 3 q = n32 (hdd rl dn ls q)) → ∃ σ', m_O_writeMergedRun_9 N n σ (n32 k) = m_O_writeMergedRun_57 N N σ' 0 ∧ frX [0] σ σ' ∧ (σ' 0).1 = (σ 0).1 ∧ (σ' 0).2 1 = (σ 0).2 1 ∧ ∀ q, q < 3 → (σ' 0).2 2 q = n32 0 ∧ (σ' 0).2 3 q = n32 (hdd rl dn ls q) := by
  intro n
  induction n with
  | zero => intro k σ _ h; omega
  | succ n ih =>
    intro k σ k3 hn ht hd hr hq
    rw [m_O_writeMergedRun_9, l3]
    by_cases e : k = 3
    · subst e
      rw [if_pos (show n32 3 ≤ n32 3 by decide)]
      exact ⟨σ, rfl, frX.rf, rfl, rfl, hq⟩
    · have k3' : k < 3 := by omega
      obtain ⟨a1, a2, a3⟩ := hr k (by omega)
      have nl3 : ¬ n32 3 ≤ n32 k := by rw [n32_le (by omega) (by omega)]; omega
      have kb : inb (n32 k) 3 = true := inbn (by omega) k3'
      have h2 := h1 k k3'
      have dx : ((w3 σ 0 2 (n32 k) 0) (7 + rl k)).1 2 = n32 (dn (rl k)) := by rw [w3_n (by omega)]; exact (hd (rl k) a3).1
      rw [if_neg nl3, rol_x hr (by omega), bR_s, if_pos kb, dum_x dx h2.2, bI_s, if_pos kb]
      have fin : ∀ v : Nat, v = hdd rl dn ls k → ∃ σ', m_O_writeMergedRun_9 N n (w3 (w3 σ 0 2 (n32 k) 0) 0 3 (n32 k) (n32 v)) (n32 k + 1) = m_O_writeMergedRun_57 N N σ' 0 ∧ frX [0] σ σ' ∧ (σ' 0).1 = (σ 0).1 ∧ (σ' 0).2 1 = (σ 0).2 1 ∧ ∀ q, q < 3 → (σ' 0).2 2 q = n32 0 ∧ (σ' 0).2 3 q = n32 (hdd rl dn ls q) := by
        intro v hv
        have fx : frX [0] σ (w3 (w3 σ 0 2 (n32 k) 0) 0 3 (n32 k) (n32 v)) := (frX.w3 (by decide)).tr (frX.w3 (by decide))
        rw [l1, n32_add]
        obtain ⟨σ', y1, y2, y3, y4, y5⟩ := ih (k + 1) (w3 (w3 σ 0 2 (n32 k) 0) 0 3 (n32 k) (n32 v)) (by omega) (by omega) (tapes_fr ht (fun t ht => by rw [fx (7 + t) (by simp)]; exact ⟨rfl, rfl, rfl⟩) rfl rfl rfl)
          (fun t ht => by rw [fx (7 + t) (by simp)]; exact hd t ht) (fun t ht => by simp only [w1_s, w1_a, w2_s, w2_a, w3_s, w3_a, tn, nt, tt, true_and, and_true, false_and, and_false, and_self, if_true, if_false, Nat.reduceEqDiff, reduceIte, Nat.reduceAdd]; exact hr t ht) (fun q hq' => by
            simp (disch := omega) only [w1_s, w1_a, w2_s, w2_a, w3_s, w3_a, tn, nt, tt, true_and, and_true, false_and, and_false, and_self, if_true, if_false, Nat.reduceEqDiff, reduceIte, Nat.reduceAdd, n32_cl, upd_ap]
            by_cases ek : q = k
            · rw [if_pos ek, if_pos ek, ek, hv]; exact ⟨l0, rfl⟩
            · rw [if_neg ek, if_neg ek]; exact hq q (by omega))
        exact ⟨σ', y1, fx.tr y2, by rw [y3, w3_s, w3_s], by rw [y4]; simp only [w1_s, w1_a, w2_s, w2_a, w3_s, w3_a, tn, nt, tt, true_and, and_true, false_and, and_false, and_self, if_true, if_false, Nat.reduceEqDiff, reduceIte, Nat.reduceAdd], y5⟩
      by_cases e0 : dn (rl k) = 0
      · have tk : TaR (w3 σ 0 2 (n32 k) 0) μ (rl k) (rn (rl k)) (cn (rl k)) c (ls (rl k)) := by unfold TaR; rw [w3_n (by omega)]; exact ht (rl k) a3
        rw [if_pos e0, if_pos eq00, rl0_x tk (by omega), bI_s, if_pos kb]
        exact fin _ (if_pos e0).symm
      · rw [if_neg e0, if_neg ne10]
        exact fin 0 (if_neg e0).symm
theorem iniM_l {N : Nat} : ∀ (n k : Nat) (μ : SX), k ≤ 3 → 3 - k < n → (∀ q, q < k → (μ 0).2 16 q = n32 0) → ∃ μ', m_M_mergeRuns_7 N n μ (n32 k) = m_M_mergeRuns_27 N N μ' 0 ∧ frM [] [16] μ μ' ∧ ∀ q, q < 3 → (μ' 0).2 16 q = n32 0 := by
  intro n
  induction n with
  | zero => intro k μ _ h; omega
  | succ n ih =>
    intro k μ k3 hn hq
    rw [m_M_mergeRuns_7, l3]
    by_cases e : k = 3
    · subst e
      rw [if_pos (show n32 3 ≤ n32 3 by decide)]
      exact ⟨μ, rfl, frM.rf, hq⟩
    · have k3' : k < 3 := by omega
      have nl3 : ¬ n32 3 ≤ n32 k := by rw [n32_le (by omega) (by omega)]; omega
      have kb : inb (n32 k) 3 = true := inbn (by omega) k3'
      rw [if_neg nl3, if_pos kb, l1, n32_add, l0]
      obtain ⟨μ', y1, y2, y3⟩ := ih (k + 1) (w3 μ 0 16 (n32 k) (n32 0)) (by omega) (by omega) (fun q hq' => by
        simp (disch := omega) only [w1_s, w1_a, w2_s, w2_a, w3_s, w3_a, tn, nt, tt, true_and, and_true, false_and, and_false, and_self, if_true, if_false, Nat.reduceEqDiff, reduceIte, Nat.reduceAdd, n32_cl, upd_ap]
        by_cases ek : q = k
        · rw [if_pos ek]
        · rw [if_neg ek]; exact hq q (by omega))
      exact ⟨μ', by rw [y1, l0], (frM.w3 (by decide)).tr y2, y3⟩
/-- both write the merged run -/
theorem merged_eq {N : Nat} {σ μ : SX} {c p : Nat} {rl rn cn dn : Nat → Nat} {ls : Nat → Nat → Nat} (hN : 200 ≤ N) (hd : DkR σ μ c p) (hw : WR σ μ) (ht : TapesL σ μ c rn cn ls) (hu : DumR σ μ dn) (hr : RolR σ μ rl) (h1 : ∀ k, k < 3 → 1 ≤ rn (rl k) + dn (rl k) ∧ dn (rl k) ≤ 150) (hT : hdd rl dn ls 0 + hdd rl dn ls 1 + hdd rl dn ls 2 ≤ 150) :
    ∃ r σ' μ', m_O_writeMergedRun N σ = some (r, σ') ∧ m_M_mergeRuns N μ = some (r, μ') ∧ frX [0, 5, 6] σ σ' ∧ (σ' 0).1 = (σ 0).1 ∧ (σ' 0).2 1 = (σ 0).2 1 ∧ frM [5, 6, 7, 16] [15, 16] μ μ' ∧ WR σ' μ' ∧
      (r = n32 0 ∨ (r = n32 1 ∧ RwR σ' μ' (hdd rl dn ls 0 + hdd rl dn ls 1 + hdd rl dn ls 2) c)) := by
  rw [m_O_writeMergedRun, m_R_forgetAll, bV_s, m_M_mergeRuns, l0]
  have f4 : frX [6] σ (w1 σ 6 0 (n32 0)) := frX.w1 (by decide)
  obtain ⟨σ1, x1, x2, x3, x4, x5⟩ := ini_l (N := N) (μ := μ) (c := c) (cn := cn) h1 N 0 (w1 σ 6 0 (n32 0)) (by omega) (by omega) (tapes_fr ht (fun t ht => by rw [f4 (7 + t) (by simp; omega)]; exact ⟨rfl, rfl, rfl⟩) rfl rfl rfl) (fun t ht => by rw [f4 (7 + t) (by simp; omega)]; exact hu t ht) (fun t ht => by rw [f4 0 (by decide)]; exact hr t ht) (fun q hq => by omega)
  obtain ⟨μ1, y1, y2, y3⟩ := iniM_l (N := N) N 0 (w1 μ 0 16 (n32 0)) (by omega) (by omega) (fun q hq => by omega)
  have fx : frX [0, 6] σ σ1 := (f4.mo (by decide)).tr (x2.mo (by decide))
  have fm : frM [16] [16] μ μ1 := (frM.w1 (by decide)).tr (y2.mo (by decide) (by decide))
  have o0 : (w1 σ 6 0 (n32 0)) 0 = σ 0 := f4 0 (by decide)
  rw [x1, y1, l0]
  have hh : HdR σ1 μ1 c rl rn cn dn ls (fun _ => 0) := by
    refine ⟨tapes_fr ht (fun t ht => by rw [fx (7 + t) (by simp; omega)]; exact ⟨rfl, rfl, rfl⟩) (fm.2 8 (by decide)) (fm.2 9 (by decide)) (fm.2 10 (by decide)), ?_, ?_, h1, fun k hk => ⟨(x5 k hk).1, (x5 k hk).2, y3 k hk, Nat.zero_le _⟩⟩
    · intro t ht; rw [fx (7 + t) (by simp; omega), fm.2 11 (by decide)]; exact hu t ht
    · intro t ht; rw [x4, o0, fm.2 12 (by decide)]; exact hr t ht
  have dk : DkR σ1 μ1 c p := by
    unfold DkR; rw [fx 1 (by decide), fm.1 2 (by decide), fm.1 3 (by decide), fm.2 1 (by decide), fm.2 2 (by decide), fm.2 3 (by decide)]; exact hd
  have wr : WR σ1 μ1 := by unfold WR; rw [fx 5 (by decide), fm.1 5 (by decide), fm.1 6 (by decide), fm.1 7 (by decide)]; exact hw
  have rw0 : RwR σ1 μ1 (0 + 0 + 0) c := ⟨by rw [x2 6 (by decide)]; simp only [w1_s, w1_a, w2_s, w2_a, w3_s, w3_a, tn, nt, tt, true_and, and_true, false_and, and_false, and_self, if_true, if_false, Nat.reduceEqDiff, reduceIte, Nat.reduceAdd], by rw [y2.1 16 (by decide)]; simp only [w1_s, w1_a, w2_s, w2_a, w3_s, w3_a, tn, nt, tt, true_and, and_true, false_and, and_false, and_self, if_true, if_false, Nat.reduceEqDiff, reduceIte, Nat.reduceAdd], by omega, fun k hk => by omega⟩
  obtain ⟨r, σ', μ', z1, z2, z3, z4, z5, z6, z7, z8⟩ := merge_l hN hT N 0 σ1 μ1 (fun _ => 0) (by omega) dk wr hh rw0 (by omega)
  exact ⟨r, σ', μ', z1, z2, (fx.mo (by decide)).tr z3, by rw [z4, x3, o0], by rw [z5, x4, o0], (fm.mo (by decide) (by decide)).tr z6, z7, z8⟩
/-- both try to read the sources -/
def frT (σ σ' : SX) : Prop := (∀ j, j < 7 → σ' j = σ j) ∧ ∀ t, t < 4 → (σ' (7 + t)).2 = (σ (7 + t)).2 ∧ ∀ q, q ≠ 3 → (σ' (7 + t)).1 q = (σ (7 + t)).1 q
theorem read_l {N : Nat} {rl dn : Nat → Nat} (h1 : ∀ k, k < 3 → dn (rl k) ≤ 150) : ∀ (n k : Nat) (σ μ : SX) (v : Int32), k ≤ 3 → 3 - k < n → (v = n32 0 ∨ v = n32 1) → DumR σ μ dn → RolR σ μ rl → FauR σ μ →
    ∃ r σ' μ', m_O_sourcesCanBeRead_4 N n σ v (n32 k) = some (r, σ') ∧ m_M_isReadable_4 N n μ v (n32 k) = some (r, μ') ∧ (r = n32 0 ∨ r = n32 1) ∧ FauR σ' μ' ∧ frT σ σ' ∧ frM [] [4] μ μ' := by
  intro n
  induction n with
  | zero => intro k σ μ v _ h; omega
  | succ n ih =>
    intro k σ μ v k3 hn hv hd hr hf
    rw [m_O_sourcesCanBeRead_4, m_M_isReadable_4, l3]
    by_cases e : k = 3
    · subst e
      have bv : isB v = true := by rcases hv with rfl | rfl <;> rfl
      rw [if_pos (show n32 3 ≤ n32 3 by decide), if_pos (show n32 3 ≤ n32 3 by decide), if_pos bv, if_pos bv]
      exact ⟨v, σ, μ, rfl, rfl, hv, hf, ⟨fun _ _ => rfl, fun _ _ => ⟨rfl, fun _ _ => rfl⟩⟩, frM.rf⟩
    · have k3' : k < 3 := by omega
      obtain ⟨a1, a2, a3⟩ := hr k (by omega)
      obtain ⟨d1, d2⟩ := hd (rl k) a3
      obtain ⟨f1, f, f2, f3⟩ := hf (rl k) a3
      have nl3 : ¬ n32 3 ≤ n32 k := by rw [n32_le (by omega) (by omega)]; omega
      have kb : inb (n32 k) 4 = true := inbn (by omega) (by omega)
      have rb : inb (n32 (rl k)) 4 = true := inbn (by omega) a3
      have h2 := h1 k k3'
      rw [if_neg nl3, if_neg nl3, rol_x hr (by omega), bR_s, dum_x d1 h2, bI_s, if_pos kb, n32_cl (show k < 2147483648 by omega), a2, if_pos rb, n32_cl (show rl k < 2147483648 by omega), d2, l1, n32_add]
      by_cases e0 : dn (rl k) = 0
      · have z0 : n32 (dn (rl k)) = 0 := by rw [e0]; rfl
        rw [if_pos e0, if_pos eq00, if_pos z0, if_pos rb, m_T_useFault, f1, f3]
        by_cases e1 : f = 0
        · subst e1
          rw [if_pos eq00, bI_s, if_pos (show n32 0 ≤ 0 by decide), if_pos (show (0 : Int32) = 0 from rfl)]
          exact ih (k + 1) σ μ v (by omega) (by omega) hv hd hr hf
        · have z1 : ¬ n32 f = 0 := by rw [l0, n32_eq (by omega) (by omega)]; exact e1
          have z2 : ¬ n32 f ≤ 0 := by rw [l0, n32_le (by omega) (by omega)]; omega
          rw [if_neg z1, bI_s, if_neg z2, if_neg (show ¬ (1 : Int32) = 0 by decide), if_pos rb, if_pos rb, l1, n32_sub (by omega), l0]
          have ft : frT σ (w1 σ (7 + rl k) 3 (n32 (f - 1))) := ⟨fun j hj => w1_n (by omega), fun t ht => ⟨by rw [w1_a], fun q hq => by rw [w1_s, if_neg (fun e => hq e.2)]⟩⟩
          have fm : frM [] [4] μ (w3 μ 0 4 (n32 (rl k)) (n32 (f - 1))) := frM.w3 (by decide)
          obtain ⟨r, σ', μ', y1, y2, y3, y4, y5, y6⟩ := ih (k + 1) (w1 σ (7 + rl k) 3 (n32 (f - 1))) (w3 μ 0 4 (n32 (rl k)) (n32 (f - 1))) (n32 0) (by omega) (by omega) (Or.inl rfl) (fun t ht => by rw [(ft.2 t ht).2 2 (by decide), fm.2 11 (by decide)]; exact hd t ht)
            (fun t ht => by rw [ft.1 0 (by omega), fm.2 12 (by decide)]; exact hr t ht) (fun t ht => by
              simp (disch := omega) only [w1_s, w1_a, w2_s, w2_a, w3_s, w3_a, tn, nt, tt, true_and, and_true, false_and, and_false, and_self, if_true, if_false, Nat.reduceEqDiff, reduceIte, Nat.reduceAdd, n32_cl, upd_ap]
              by_cases et : t = rl k
              · simp only [if_pos et]; exact ⟨trivial, f - 1, by omega, rfl⟩
              · simp only [if_neg et]; exact hf t ht)
          exact ⟨r, σ', μ', y1, y2, y3, y4, ⟨fun j hj => (y5.1 j hj).trans (ft.1 j hj), fun t ht => ⟨(y5.2 t ht).1.trans (ft.2 t ht).1, fun q hq => ((y5.2 t ht).2 q hq).trans ((ft.2 t ht).2 q hq)⟩⟩, fm.tr y6⟩
      · have z0 : ¬ n32 (dn (rl k)) = 0 := by rw [l0, n32_eq (by omega) (by omega)]; exact e0
        rw [if_neg e0, if_neg ne10, if_neg z0]
        exact ih (k + 1) σ μ v (by omega) (by omega) hv hd hr hf
