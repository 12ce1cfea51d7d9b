/-! Layer B: the end of a level. -/
def tn1 (μ : SX) : SX := w1 μ 0 12 (((μ 0).1 12) - 1)
def tn2 (μ : SX) : SX := w3 μ 0 12 2 ((μ 0).2 12 (1 : Int32).toNatClampNeg)
def tn3 (μ : SX) : SX := w3 μ 0 12 1 ((μ 0).2 12 (0 : Int32).toNatClampNeg)
def tn4 (μ : SX) : SX := w3 μ 0 12 0 ((μ 0).2 12 (3 : Int32).toNatClampNeg)
def tnX (μ : SX) : SX := w3 (tn4 (tn3 (tn2 (tn1 μ)))) 0 12 3 ((μ 0).2 12 (2 : Int32).toNatClampNeg)
theorem turn_def {N : Nat} {μ : SX} : m_M_turn N μ = (if inb ((μ 0).2 12 (2 : Int32).toNatClampNeg) 4 = true then (if 0 < ((μ 0).2 10 ((μ 0).2 12 (2 : Int32).toNatClampNeg).toNatClampNeg) then some μ else (if inb ((μ 0).2 12 (2 : Int32).toNatClampNeg) 4 = true then (if ((μ 0).2 11 ((μ 0).2 12 (2 : Int32).toNatClampNeg).toNatClampNeg) ≤ 0 then (if ((tnX μ 0).1 12) = 0 then some (w1 (tnX μ) 0 4 3) else some (w1 (tnX μ) 0 4 2)) else some μ) else none)) else none) := rfl
theorem tnX_f {μ : SX} {lv : Nat} {rl : Nat → Nat} (h : ∀ k, k < 4 → (μ 0).2 12 k = n32 (rl k)) (hl : (μ 0).1 12 = n32 lv) (h1 : 1 ≤ lv) : frM [12] [12] μ (tnX μ) ∧ (tnX μ 0).1 12 = n32 (lv - 1) ∧ (tnX μ 0).2 12 0 = n32 (rl 3) ∧ (tnX μ 0).2 12 1 = n32 (rl 0) ∧ (tnX μ 0).2 12 2 = n32 (rl 1) ∧ (tnX μ 0).2 12 3 = n32 (rl 2) := by
  have c0 : (0 : Int32).toNatClampNeg = 0 := by decide
  have c1 : (1 : Int32).toNatClampNeg = 1 := by decide
  have c2 : (2 : Int32).toNatClampNeg = 2 := by decide
  have c3 : (3 : Int32).toNatClampNeg = 3 := by decide
  have a1 : (tn1 μ 0).2 12 = (μ 0).2 12 := by unfold tn1; rw [w1_a]
  have a2 : (tn2 (tn1 μ) 0).2 12 = upd ((μ 0).2 12) 2 ((μ 0).2 12 1) := by unfold tn2; rw [w3_a, if_pos ⟨rfl, rfl⟩, c2, c1, a1]
  have a3 : (tn3 (tn2 (tn1 μ)) 0).2 12 = upd (upd ((μ 0).2 12) 2 ((μ 0).2 12 1)) 1 ((μ 0).2 12 0) := by
    rw [tn3, w3_a, if_pos ⟨rfl, rfl⟩, c1, c0, a2, upd_ap (j := 0), if_neg (by decide)]
  have a4 : (tn4 (tn3 (tn2 (tn1 μ))) 0).2 12 = upd (upd (upd ((μ 0).2 12) 2 ((μ 0).2 12 1)) 1 ((μ 0).2 12 0)) 0 ((μ 0).2 12 3) := by
    rw [tn4, w3_a, if_pos ⟨rfl, rfl⟩, c3, c0, a3, upd_ap (j := 3), if_neg (by decide), upd_ap (j := 3), if_neg (by decide)]
  have a5 : (tnX μ 0).2 12 = upd (upd (upd (upd ((μ 0).2 12) 2 ((μ 0).2 12 1)) 1 ((μ 0).2 12 0)) 0 ((μ 0).2 12 3)) 3 ((μ 0).2 12 2) := by
    rw [tnX, w3_a, if_pos ⟨rfl, rfl⟩, c3, c2, a4]
  refine ⟨((((frM.w1 (by decide)).tr (frM.w3 (by decide))).tr (frM.w3 (by decide))).tr (frM.w3 (by decide))).tr (frM.w3 (by decide)), ?_, ?_, ?_, ?_, ?_⟩
  · rw [tnX, w3_s, tn4, w3_s, tn3, w3_s, tn2, w3_s, tn1, w1_s, if_pos ⟨rfl, rfl⟩, hl, l1, n32_sub h1]
  · rw [a5]; exact h 3 (by omega)
  · rw [a5]; exact h 0 (by omega)
  · rw [a5]; exact h 1 (by omega)
  · rw [a5]; exact h 2 (by omega)
theorem end_s {N n k : Nat} {σ : SX} {v : Int32} (hk : k < 3) : m_O_endLevel_9 N (n + 1) σ v (n32 (k + 1)) = m_O_endLevel_9 N n (w3 σ 0 1 (n32 (k + 1)) ((σ 0).2 1 k)) v (n32 k) := by
  have z : ¬ n32 (k + 1) ≤ n32 0 := by rw [n32_le (by omega) (by omega)]; omega
  rw [m_O_endLevel_9, l0, if_neg z, l1, n32_sub (by omega), show k + 1 - 1 = k by omega, if_pos (inbn (by omega) (by omega)), if_pos (inbn (by omega) (by omega)), n32_cl (by omega), show -n32 1 = mi by decide, n_add_mi (by omega), show k + 1 - 1 = k by omega]
theorem end_x {N : Nat} {σ : SX} {lv : Nat} {rl : Nat → Nat} (hN : 200 ≤ N) (h : ∀ k, k < 4 → (σ 0).2 1 k = n32 (rl k)) (hl : (σ 4).1 0 = n32 lv) (h1 : 1 ≤ lv) (h2 : lv ≤ 150) :
    ∃ σ', m_O_endLevel N σ = (if lv - 1 = 0 then some (w1 σ' 0 0 (n32 3)) else some σ') ∧ frX [0, 4] σ σ' ∧ (σ' 0).1 = (σ 0).1 ∧ (σ' 4).1 0 = n32 (lv - 1) ∧ (σ' 0).2 1 0 = n32 (rl 3) ∧ (σ' 0).2 1 1 = n32 (rl 0) ∧ (σ' 0).2 1 2 = n32 (rl 1) ∧ (σ' 0).2 1 3 = n32 (rl 2) := by
  obtain ⟨n, rfl⟩ : ∃ n, N = n + 4 := ⟨N - 4, by omega⟩
  have c0 : (n32 0).toNatClampNeg = 0 := by decide
  have c1 : (n32 1).toNatClampNeg = 1 := by decide
  have c2 : (n32 2).toNatClampNeg = 2 := by decide
  have c3 : (n32 3).toNatClampNeg = 3 := by decide
  obtain ⟨s1, e1⟩ : ∃ s1, s1 = w3 σ 0 1 (n32 3) ((σ 0).2 1 2) := ⟨_, rfl⟩
  obtain ⟨s2, e2⟩ : ∃ s2, s2 = w3 s1 0 1 (n32 2) ((s1 0).2 1 1) := ⟨_, rfl⟩
  obtain ⟨s3, e3⟩ : ∃ s3, s3 = w3 s2 0 1 (n32 1) ((s2 0).2 1 0) := ⟨_, rfl⟩
  obtain ⟨s4, e4⟩ : ∃ s4, s4 = w3 s3 0 1 (n32 0) ((σ 0).2 1 3) := ⟨_, rfl⟩
  have a1 : (s1 0).2 1 = upd ((σ 0).2 1) 3 ((σ 0).2 1 2) := by rw [e1, w3_a, if_pos ⟨rfl, rfl⟩, c3]
  have a2 : (s2 0).2 1 = upd (upd ((σ 0).2 1) 3 ((σ 0).2 1 2)) 2 ((σ 0).2 1 1) := by
    rw [e2, w3_a, if_pos ⟨rfl, rfl⟩, c2, a1, upd_ap (j := 1), if_neg (by decide)]
  have a3 : (s3 0).2 1 = upd (upd (upd ((σ 0).2 1) 3 ((σ 0).2 1 2)) 2 ((σ 0).2 1 1)) 1 ((σ 0).2 1 0) := by
    rw [e3, w3_a, if_pos ⟨rfl, rfl⟩, c1, a2, upd_ap (j := 0), if_neg (by decide), upd_ap (j := 0), if_neg (by decide)]
  have a4 : (s4 0).2 1 = upd (upd (upd (upd ((σ 0).2 1) 3 ((σ 0).2 1 2)) 2 ((σ 0).2 1 1)) 1 ((σ 0).2 1 0)) 0 ((σ 0).2 1 3) := by
    rw [e4, w3_a, if_pos ⟨rfl, rfl⟩, c0, a3]
  have f4 : frX [0] σ s4 := by
    rw [e4, e3, e2, e1]; exact (((frX.w3 (by decide)).tr (frX.w3 (by decide))).tr (frX.w3 (by decide))).tr (frX.w3 (by decide))
  have s0 : (s4 0).1 = (σ 0).1 := by rw [e4, e3, e2, e1, w3_s, w3_s, w3_s, w3_s]
  have l4' : (s4 4).1 0 = n32 lv := by rw [f4 4 (by decide)]; exact hl
  refine ⟨w1 s4 4 0 (n32 (lv - 1)), ?_, (f4.mo (by decide)).tr (frX.w1 (by decide)), ?_, ?_, ?_, ?_, ?_, ?_⟩
  · rw [m_O_endLevel, l3, c3, show (3 : Nat) = 2 + 1 from rfl, end_s (by omega), show (2 : Nat) + 1 = 3 from rfl, ← e1, show (2 : Nat) = 1 + 1 from rfl, end_s (by omega), show (1 : Nat) + 1 = 2 from rfl, ← e2, show (1 : Nat) = 0 + 1 from rfl, end_s (by omega), show (0 : Nat) + 1 = 1 from rfl, ← e3, m_O_endLevel_9, l0, if_pos (by decide), ← e4, m_P_goDown, bV_s, m_P_height, bI_s, l4', l1, n32_sub h1]
    have e : ((w1 s4 4 0 (n32 (lv - 1))) 4).1 0 = n32 (lv - 1) := by rw [w1_s, if_pos ⟨rfl, rfl⟩]
    rw [e]
    by_cases z : lv - 1 = 0
    · rw [if_pos z, if_pos (by rw [z])]; rfl
    · rw [if_neg z, if_neg (by rw [n32_eq (by omega) (by omega)]; exact z)]
  · rw [w1_n (by decide)]; exact s0
  · rw [w1_s, if_pos ⟨rfl, rfl⟩]
  · rw [w1_a, a4]; exact h 3 (by omega)
  · rw [w1_a, a4]; exact h 0 (by omega)
  · rw [w1_a, a4]; exact h 1 (by omega)
  · rw [w1_a, a4]; exact h 2 (by omega)
def trn (rl : Nat → Nat) : Nat → Nat := fun k => if k = 0 then rl 3 else if k = 1 then rl 0 else if k = 2 then rl 1 else rl 2
theorem bas_fr {σ μ σ' μ' : SX} {c p : Nat} (h : Bas σ μ c p) (x1 : σ' 1 = σ 1) (x2 : (σ' 2).1 0 = (σ 2).1 0) (x0 : (σ' 0).1 1 = (σ 0).1 1) (hw : WR σ' μ') (hf : FauR σ' μ') (m : (μ' 0).1 1 = (μ 0).1 1 ∧ (μ' 0).1 2 = (μ 0).1 2 ∧ (μ' 0).1 3 = (μ 0).1 3 ∧ (μ' 0).1 8 = (μ 0).1 8)
    (a : (μ' 0).2 1 = (μ 0).2 1 ∧ (μ' 0).2 2 = (μ 0).2 2 ∧ (μ' 0).2 3 = (μ 0).2 3) : Bas σ' μ' c p := by
  obtain ⟨B1, B2, B3, ⟨rm, B4, B5, B6, B7⟩, B8⟩ := h
  obtain ⟨m1, m2, m3, m4⟩ := m
  obtain ⟨a1, a2, a3⟩ := a
  refine ⟨?_, hw, hf, ⟨rm, B4, B5, by rw [x2]; exact B6, by rw [m1]; exact B7⟩, by rw [x0, m4]; exact B8⟩
  unfold DkR; rw [x1, m2, m3, a1, a2, a3]; exact B1
theorem turn_eq {N : Nat} {σ μ : SX} {th : Int32} {c p nn lv x y z m : Nat} {rn cn dn rl : Nat → Nat} {ls : Nat → Nat → Nat} (hN : 200 ≤ N) (hth : (μ 0).1 0 = th) (hb : Bas σ μ c p) (hst : (σ 0).1 0 = n32 2) (hph : (μ 0).1 4 = n32 2)
    (h1 : StR σ μ 0 nn c) (h2 : TapesL σ μ c rn cn ls) (h3 : DumR σ μ dn) (h4 : RolR σ μ rl) (h5 : Perm4 rl) (h6 : (σ 4).1 0 = n32 lv) (h7 : (μ 0).1 12 = n32 lv) (h8 : Pn lv = (x, y, z)) (h9 : 1 ≤ lv) (h10 : x ≤ 150) (h11 : m ≤ z)
    (hm : rn (rl 0) + dn (rl 0) + m = x ∧ rn (rl 1) + dn (rl 1) + m = y ∧ rn (rl 2) + dn (rl 2) + m = z ∧ rn (rl 3) + dn (rl 3) = m) (hc : cn (rl 0) + cn (rl 1) + cn (rl 2) + cn (rl 3) ≤ 150) :
    ∃ σ' μ', (bR (m_O_tapeInRole N σ 2) fun x53 σ53 => (bI (m_T_isBare N σ x53) fun r56 σ56 => (if r56 = 0 then some ((1 : Int32), σ) else (bV (m_O_endLevel N σ) fun σ63 => some (1, σ63))))) = some (n32 1, σ') ∧
      (bV (m_M_turn N μ) fun σ161 => some ((1 : Int32), σ161)) = some (n32 1, μ') ∧ (μ' 0).1 0 = th ∧ Bas σ' μ' c p ∧ (((σ' 0).1 0 = n32 2 ∧ (μ' 0).1 4 = n32 2 ∧ MerR σ' μ' c) ∨ ((σ' 0).1 0 = n32 3 ∧ (μ' 0).1 4 = n32 3 ∧ DonR σ' μ' c)) := by
  have hp := pn_f (n := lv - 1) (x := x) (y := y) (z := z) (by rw [show lv - 1 + 1 = lv by omega]; exact h8)
  obtain ⟨hm0, hm1, hm2, hm3⟩ := id hm
  obtain ⟨a1, a2, a3⟩ := h4 2 (by omega)
  obtain ⟨d1, d2⟩ := h3 (rl 2) a3
  have t2 := h2 (rl 2) a3
  have c2 : (2 : Int32).toNatClampNeg = 2 := by decide
  have rb : inb (n32 (rl 2)) 4 = true := inbn (by omega) a3
  rw [l2, rol_x h4 (by omega), bR_s, m_T_isBare, t2.1.1, d1, turn_def, c2, a2, if_pos rb, if_pos rb, n32_cl (by omega), t2.1.2, d2]
  by_cases e : m = z
  · have r0 : rn (rl 2) = 0 := by omega
    have d0 : dn (rl 2) = 0 := by omega
    have e00 : n32 0 = 0 := eq00
    rw [r0, d0, if_pos e00, if_pos e00, bI_s, if_neg (show ¬ (1 : Int32) = 0 by decide), if_neg (show ¬ (0 : Int32) < n32 0 by decide), if_pos (show n32 0 ≤ (0 : Int32) by decide)]
    obtain ⟨σ1, x1, x2, x3, x4, x5, x6, x7, x8⟩ := end_x (N := N) (σ := σ) hN (fun k hk => (h4 k hk).1) h6 h9 (by omega)
    obtain ⟨y1, y2, y3, y4, y5, y6⟩ := tnX_f (fun k hk => (h4 k hk).2.1) h7 h9
    rw [x1, y2]
    have l0' : rl 0 < 4 := (h4 0 (by omega)).2.2
    have l1' : rl 1 < 4 := (h4 1 (by omega)).2.2
    have l3' : rl 3 < 4 := (h4 3 (by omega)).2.2
    have ot : ∀ t, t < 4 → σ1 (7 + t) = σ (7 + t) := fun t ht => x2 (7 + t) (by simp; omega)
    have bas' : ∀ v w : Int32, Bas (w1 σ1 0 0 v) (w1 (tnX μ) 0 4 w) c p := fun v w => by
      refine bas_fr hb (by rw [w1_n (by decide), x2 1 (by decide)]) (by rw [w1_n (by decide), x2 2 (by decide)]) (by rw [w1_s, if_neg (by decide), x3]) ?_ (fau_fr hb.2.2.1 (fun t ht => by rw [w1_n (by omega), ot t ht]) (by rw [w1_a, y1.2 4 (by decide)])) ⟨by rw [w1_s, if_neg (by decide), y1.1 1 (by decide)], by rw [w1_s, if_neg (by decide), y1.1 2 (by decide)], by rw [w1_s, if_neg (by decide), y1.1 3 (by decide)], by rw [w1_s, if_neg (by decide), y1.1 8 (by decide)]⟩ ⟨by rw [w1_a, y1.2 1 (by decide)], by rw [w1_a, y1.2 2 (by decide)], by rw [w1_a, y1.2 3 (by decide)]⟩
      unfold WR; simp only [w1_s, w1_a, w2_s, w2_a, w3_s, w3_a, tn, nt, tt, true_and, and_true, false_and, and_false, and_self, if_true, if_false, Nat.reduceEqDiff, reduceIte, Nat.reduceAdd]; rw [w1_n (by decide), x2 5 (by decide), y1.1 5 (by decide), y1.1 6 (by decide), y1.1 7 (by decide)]; exact hb.2.1
    have st' : ∀ v w : Int32, StR (w1 σ1 0 0 v) (w1 (tnX μ) 0 4 w) 0 nn c := fun v w => by
      unfold StR; simp only [w1_s, w1_a, w2_s, w2_a, w3_s, w3_a, tn, nt, tt, true_and, and_true, false_and, and_false, and_self, if_true, if_false, Nat.reduceEqDiff, reduceIte, Nat.reduceAdd]; rw [w1_n (by decide), x2 2 (by decide), y1.1 9 (by decide), y1.1 10 (by decide), y1.2 5 (by decide), y1.2 6 (by decide)]; exact h1
    have tl' : ∀ v w : Int32, TapesL (w1 σ1 0 0 v) (w1 (tnX μ) 0 4 w) c rn cn ls := fun v w => tapes_fr h2 (fun t ht => by rw [w1_n (by omega), ot t ht]; exact ⟨rfl, rfl, rfl⟩) (by rw [w1_a, y1.2 8 (by decide)]) (by rw [w1_a, y1.2 9 (by decide)]) (by rw [w1_a, y1.2 10 (by decide)])
    have du' : ∀ v w : Int32, DumR (w1 σ1 0 0 v) (w1 (tnX μ) 0 4 w) dn := fun v w t ht => by rw [w1_n (by omega), ot t ht, w1_a, y1.2 11 (by decide)]; exact h3 t ht
    have ro' : ∀ v w : Int32, RolR (w1 σ1 0 0 v) (w1 (tnX μ) 0 4 w) (trn rl) := fun v w t ht => by
      rw [w1_a, w1_a]
      rcases (show t = 0 ∨ t = 1 ∨ t = 2 ∨ t = 3 by omega) with rfl | rfl | rfl | rfl
      · exact ⟨x5, y3, l3'⟩
      · exact ⟨x6, y4, l0'⟩
      · exact ⟨x7, y5, l1'⟩
      · exact ⟨x8, y6, a3⟩
    have lx' : ∀ v : Int32, ((w1 σ1 0 0 v) 4).1 0 = n32 (lv - 1) := fun v => by rw [w1_n (by decide)]; exact x4
    have lm' : ∀ w : Int32, ((w1 (tnX μ) 0 4 w) 0).1 12 = n32 (lv - 1) := fun w => by rw [w1_s, if_neg (by decide)]; exact y2
    by_cases z0 : lv - 1 = 0
    · rw [if_pos z0, z0, if_pos e00, bV_s, bV_s]
      refine ⟨_, _, rfl, rfl, by simp only [w1_s, w1_a, w2_s, w2_a, w3_s, w3_a, tn, nt, tt, true_and, and_true, false_and, and_false, and_self, if_true, if_false, Nat.reduceEqDiff, reduceIte, Nat.reduceAdd]; rw [y1.1 0 (by decide)]; exact hth, bas' _ _, Or.inr ⟨by simp only [w1_s, w1_a, w2_s, w2_a, w3_s, w3_a, tn, nt, tt, true_and, and_true, false_and, and_false, and_self, if_true, if_false, Nat.reduceEqDiff, reduceIte, Nat.reduceAdd], by simp only [w1_s, w1_a, w2_s, w2_a, w3_s, w3_a, tn, nt, tt, true_and, and_true, false_and, and_false, and_self, if_true, if_false, Nat.reduceEqDiff, reduceIte, Nat.reduceAdd]; exact l3, ?_⟩⟩
      exact ⟨nn, rn, cn, dn, ls, trn rl, st' _ _, tl' _ _, du' _ _, ro' _ _, ⟨Ne.symm h5.2.2.1, Ne.symm h5.2.2.2.2.1, Ne.symm h5.2.2.2.2.2, h5.1, h5.2.1, h5.2.2.2.1⟩, z0 ▸ lx' _, z0 ▸ lm' _⟩
    · have zn : ¬ n32 (lv - 1) = 0 := by rw [l0, n32_eq (by omega) (by omega)]; exact z0
      rw [if_neg z0, if_neg zn, bV_s, bV_s]
      have same : w1 σ1 0 0 (n32 2) = σ1 := by
        funext j
        unfold w1
        by_cases ej : j = 0
        · subst ej
          rw [if_pos rfl]
          refine Prod.ext (funext fun k => ?_) rfl
          by_cases ek : k = 0
          · subst ek; rw [x3]; exact hst.symm
          · exact if_neg ek
        · rw [if_neg ej]
      have pn : Pn lv = ((Pn (lv - 1)).1 + (Pn (lv - 1)).2.1, (Pn (lv - 1)).1 + (Pn (lv - 1)).2.2, (Pn (lv - 1)).1) := by
        rw [show lv = lv - 1 + 1 by omega, Pn]; rfl
      rw [h8] at pn
      simp only [Prod.mk.injEq] at pn
      obtain ⟨pn1, pn2, pn3⟩ := pn
      have hp' := pn_f (n := lv - 1 - 1) (x := (Pn (lv - 1)).1) (y := (Pn (lv - 1)).2.1) (z := (Pn (lv - 1)).2.2) (by rw [show lv - 1 - 1 + 1 = lv - 1 by omega])
      obtain ⟨q1, q2, q3, q4, q5, q6⟩ := h5
      refine ⟨_, _, rfl, rfl, by simp only [w1_s, w1_a, w2_s, w2_a, w3_s, w3_a, tn, nt, tt, true_and, and_true, false_and, and_false, and_self, if_true, if_false, Nat.reduceEqDiff, reduceIte, Nat.reduceAdd]; rw [y1.1 0 (by decide)]; exact hth, same ▸ bas' (n32 2) _, Or.inl ⟨by rw [x3]; exact hst, by simp only [w1_s, w1_a, w2_s, w2_a, w3_s, w3_a, tn, nt, tt, true_and, and_true, false_and, and_false, and_self, if_true, if_false, Nat.reduceEqDiff, reduceIte, Nat.reduceAdd]; exact l2, ?_⟩⟩
      refine same ▸ ⟨nn, rn, cn, dn, ls, lv - 1, (Pn (lv - 1)).1, (Pn (lv - 1)).2.1, (Pn (lv - 1)).2.2, 0, trn rl, st' (n32 2) _, tl' (n32 2) _, du' (n32 2) _, ro' (n32 2) _, ⟨Ne.symm q3, Ne.symm q5, Ne.symm q6, q1, q2, q4⟩, lx' (n32 2), lm' _, rfl, by omega, by omega, by omega, ⟨?_, ?_, ?_, ?_⟩, ?_⟩
      · show rn (rl 3) + dn (rl 3) + 0 = _; omega
      · show rn (rl 0) + dn (rl 0) + 0 = _; omega
      · show rn (rl 1) + dn (rl 1) + 0 = _; omega
      · show rn (rl 2) + dn (rl 2) = 0; omega
      · show cn (rl 3) + cn (rl 0) + cn (rl 1) + cn (rl 2) ≤ 150; omega
  · have mer : MerR σ μ c := ⟨nn, rn, cn, dn, ls, lv, x, y, z, m, rl, h1, h2, h3, h4, h5, h6, h7, h8, h9, h10, by omega, hm, hc⟩
    refine ⟨σ, μ, ?_, ?_, hth, hb, Or.inl ⟨hst, hph, mer⟩⟩
    · by_cases r0 : rn (rl 2) = 0
      · have zn : ¬ n32 (dn (rl 2)) = 0 := by rw [l0, n32_eq (by omega) (by omega)]; omega
        rw [r0, if_pos eq00, if_neg zn, bI_s, if_pos (show (0 : Int32) = 0 from rfl)]; rfl
      · have zn : ¬ n32 (rn (rl 2)) = 0 := by rw [l0, n32_eq (by omega) (by omega)]; omega
        rw [if_neg zn, bI_s, if_pos (show (0 : Int32) = 0 from rfl)]; rfl
    · by_cases r0 : rn (rl 2) = 0
      · have zn : ¬ n32 (dn (rl 2)) ≤ 0 := by rw [l0, n32_le (by omega) (by omega)]; omega
        rw [r0, if_neg (show ¬ (0 : Int32) < n32 0 by decide), if_neg zn, bV_s]; rfl
      · have zn : (0 : Int32) < n32 (rn (rl 2)) := by rw [l0, n32_lt (by omega) (by omega)]; omega
        rw [if_pos zn, bV_s]; rfl
