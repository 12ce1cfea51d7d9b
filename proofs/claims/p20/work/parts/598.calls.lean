/-! Layer B: the calls of both. -/
theorem core_fr {σ μ σ' μ' : SX} {c : Nat} (h : Core σ μ c) (x0 : (σ' 0).1 0 = (σ 0).1 0) (x1 : (σ' 0).2 1 = (σ 0).2 1) (x2 : σ' 2 = σ 2) (x4 : σ' 4 = σ 4) (xt : ∀ t, t < 4 → (σ' (7 + t)).2 = (σ (7 + t)).2 ∧ ∀ q, q ≠ 3 → (σ' (7 + t)).1 q = (σ (7 + t)).1 q)
    (fm : frM [0, 1, 2, 3, 5, 6, 7, 8, 14, 15, 16] [1, 2, 3, 4, 13, 14, 15, 16] μ μ') : Core σ' μ' c := by
  have St : ∀ hn nn, StR σ μ hn nn c → StR σ' μ' hn nn c := fun hn nn h1 => by
    unfold StR; rw [x2, fm.1 9 (by decide), fm.1 10 (by decide), fm.2 5 (by decide), fm.2 6 (by decide)]; exact h1
  have Ta : ∀ rn cn ls, TapesL σ μ c rn cn ls → TapesL σ' μ' c rn cn ls := fun rn cn ls h2 => tapes_fr h2 (fun t ht => ⟨(xt t ht).1, (xt t ht).2 0 (by decide), (xt t ht).2 1 (by decide)⟩) (fm.2 8 (by decide)) (fm.2 9 (by decide)) (fm.2 10 (by decide))
  have Du : ∀ dn, DumR σ μ dn → DumR σ' μ' dn := fun dn h3 t ht => by rw [(xt t ht).2 2 (by decide), fm.2 11 (by decide)]; exact h3 t ht
  have Ro : ∀ rl, RolR σ μ rl → RolR σ' μ' rl := fun rl h4 t ht => by rw [x1, fm.2 12 (by decide)]; exact h4 t ht
  obtain ⟨st, a1, a2, a3⟩ := h
  refine ⟨st, by rw [x0]; exact a1, by rw [fm.1 4 (by decide)]; exact a2, ?_⟩
  rcases a3 with ⟨e, h1, h2, h3, h4⟩ | ⟨e, e2, h1, h2, h3, h4⟩ | ⟨e, e2, hn, nn, rn, cn, dn, ls, lv, pl, x, y, z, md, h1, h2, h3, h4, h5, h6, h7, h8, h9, hh⟩ | ⟨e, e2, nn, rn, cn, dn, ls, lv, x, y, z, m, rl, h1, h2, h3, h4, h5, h6, h7, hh⟩ | ⟨e, e2, nn, rn, cn, dn, ls, rl, h1, h2, h3, h4, h5, h6, h7⟩
  · exact Or.inl ⟨e, St _ _ h1, Ta _ _ _ h2, Du _ h3, by rw [fm.1 12 (by decide)]; exact h4⟩
  · exact Or.inr (Or.inl ⟨e, e2, St _ _ h1, Ta _ _ _ h2, Ro _ h3, by rw [fm.1 12 (by decide)]; exact h4⟩)
  · refine Or.inr (Or.inr (Or.inl ⟨e, e2, hn, nn, rn, cn, dn, ls, lv, pl, x, y, z, md, St _ _ h1, by rw [fm.2 6 (by decide)]; exact h2, h3, Ta _ _ _ h4, Du _ h5, Ro _ h6, ?_, ?_, by rw [fm.1 11 (by decide)]; exact h9, hh⟩))
    · obtain ⟨q1, q2, q3, q4, q5, -⟩ := h7
      have D := Du _ h5
      exact ⟨by rw [x4]; exact q1, by rw [x4]; exact q2, by rw [x4]; exact q3, by rw [x4]; exact q4, by rw [x4]; exact q5, (D 0 (by omega)).1, (D 1 (by omega)).1, (D 2 (by omega)).1⟩
    · unfold PlM; rw [fm.1 12 (by decide), fm.1 13 (by decide), fm.2 7 (by decide), fm.2 11 (by decide)]; exact h8
  · exact Or.inr (Or.inr (Or.inr (Or.inl ⟨e, e2, nn, rn, cn, dn, ls, lv, x, y, z, m, rl, St _ _ h1, Ta _ _ _ h2, Du _ h3, Ro _ h4, h5, by rw [x4]; exact h6, by rw [fm.1 12 (by decide)]; exact h7, hh⟩)))
  · exact Or.inr (Or.inr (Or.inr (Or.inr ⟨e, e2, nn, rn, cn, dn, ls, rl, St _ _ h1, Ta _ _ _ h2, Du _ h3, Ro _ h4, h5, by rw [x4]; exact h6, by rw [fm.1 12 (by decide)]; exact h7⟩)))
theorem core_m {σ μ μ' : SX} {c : Nat} (h : Core σ μ c) (fm : frM [0, 1, 2, 3, 5, 6, 7, 8, 14, 15, 16] [1, 2, 3, 4, 13, 14, 15, 16] μ μ') : Core σ μ' c := core_fr h rfl rfl rfl rfl (fun _ _ => ⟨rfl, fun _ _ => rfl⟩) fm
theorem bas_w0 {σ μ : SX} {c p : Nat} {v : Int32} (h : Bas σ μ c p) : Bas σ (w1 μ 0 0 v) c p := by
  refine bas_fr h rfl rfl rfl ?_ (fau_fr h.2.2.1 (fun _ _ => rfl) (by simp only [w1_s, w1_a, w2_s, w2_a, w3_s, w3_a, tn, nt, tt, true_and, and_true, false_and, and_false, and_self, if_true, if_false, Nat.reduceEqDiff, reduceIte, Nat.reduceAdd])) ⟨by simp only [w1_s, w1_a, w2_s, w2_a, w3_s, w3_a, tn, nt, tt, true_and, and_true, false_and, and_false, and_self, if_true, if_false, Nat.reduceEqDiff, reduceIte, Nat.reduceAdd], by simp only [w1_s, w1_a, w2_s, w2_a, w3_s, w3_a, tn, nt, tt, true_and, and_true, false_and, and_false, and_self, if_true, if_false, Nat.reduceEqDiff, reduceIte, Nat.reduceAdd], by simp only [w1_s, w1_a, w2_s, w2_a, w3_s, w3_a, tn, nt, tt, true_and, and_true, false_and, and_false, and_self, if_true, if_false, Nat.reduceEqDiff, reduceIte, Nat.reduceAdd], by simp only [w1_s, w1_a, w2_s, w2_a, w3_s, w3_a, tn, nt, tt, true_and, and_true, false_and, and_false, and_self, if_true, if_false, Nat.reduceEqDiff, reduceIte, Nat.reduceAdd]⟩ ⟨by simp only [w1_s, w1_a, w2_s, w2_a, w3_s, w3_a, tn, nt, tt, true_and, and_true, false_and, and_false, and_self, if_true, if_false, Nat.reduceEqDiff, reduceIte, Nat.reduceAdd], by simp only [w1_s, w1_a, w2_s, w2_a, w3_s, w3_a, tn, nt, tt, true_and, and_true, false_and, and_false, and_self, if_true, if_false, Nat.reduceEqDiff, reduceIte, Nat.reduceAdd], by simp only [w1_s, w1_a, w2_s, w2_a, w3_s, w3_a, tn, nt, tt, true_and, and_true, false_and, and_false, and_self, if_true, if_false, Nat.reduceEqDiff, reduceIte, Nat.reduceAdd]⟩
  unfold WR; simp only [w1_s, w1_a, w2_s, w2_a, w3_s, w3_a, tn, nt, tt, true_and, and_true, false_and, and_false, and_self, if_true, if_false, Nat.reduceEqDiff, reduceIte, Nat.reduceAdd]; exact h.2.1
theorem R_w0 {σ μ : SX} {v : Int32} (h : R σ μ) : R σ (w1 μ 0 0 v) := by
  obtain ⟨c, p, h1, h2⟩ := h
  exact ⟨c, p, bas_w0 h1, core_m h2 (frM.w1 (by decide))⟩
theorem w0_0 {μ : SX} {v : Int32} : ((w1 μ 0 0 v) 0).1 0 = v := by rw [w1_s, if_pos ⟨rfl, rfl⟩]
def ansL (o : Option (Int32 × SX × (Nat → Int64))) (m : Option (Int32 × SX)) (σ : SX) (f : Nat → Int64) : Prop :=
  (∃ (v : Int32) (σ' μ' : SX), o = some (0, σ', vp_updL f (0 : Int32).toNatClampNeg v.toInt64) ∧ m = some (v, μ') ∧ (μ' 0).1 0 = 0 ∧ R σ' μ') ∨ ∃ (k v : Int32) (μ' : SX), k ≠ 0 ∧ o = some (k, σ, f) ∧ m = some (v, μ') ∧ (μ' 0).1 0 = k ∧ R σ μ'
def ansI (o m : Option (Int32 × SX)) : Prop := ∃ (v : Int32) (σ' μ' : SX), o = some (v, σ') ∧ m = some (v, μ') ∧ R σ' μ'
def ansQ (o m : Option (Int32 × SX)) (σ : SX) : Prop := ∃ (v : Int32) (μ' : SX), o = some (v, σ) ∧ m = some (v, μ') ∧ R σ μ'
/-- where both stand -/
theorem st_0 {σ μ : SX} {c : Nat} (h : Core σ μ c) : ((σ 0).1 0 = n32 0 ∧ (μ 0).1 4 = n32 0 ∧ NewR σ μ c) ∨ (¬ (σ 0).1 0 = n32 0 ∧ ¬ (μ 0).1 4 = n32 0 ∧ n32 0 < (μ 0).1 4) := by
  obtain ⟨st, a1, a2, a3⟩ := h
  rw [a1, a2]
  rcases a3 with ⟨e, h⟩ | ⟨e, h⟩ | ⟨e, h⟩ | ⟨e, h⟩ | ⟨e, h⟩
  · exact Or.inl ⟨by rw [e], by rw [e], h⟩
  all_goals exact Or.inr (by rw [e]; decide)
theorem new_c {σ μ : SX} {c c' : Nat} (h : NewR σ μ c) : NewR σ μ c' := by
  obtain ⟨⟨a1, ⟨b1, b2, b3⟩, a3⟩, h2, h3, h4⟩ := h
  refine ⟨⟨a1, ⟨b1, b2, by omega⟩, fun k hk => by omega⟩, fun t ht => ?_, h3, h4⟩
  obtain ⟨q1, q2, q3, q4, q5⟩ := h2 t ht
  exact ⟨q1, q2, q3, q4, fun k hk => absurd hk (Nat.not_lt_zero k)⟩
def cd1 (μ : SX) (v : Int32) : SX := w3 μ 0 1 (2 * (μ 0).1 2) v
def cd2 (μ : SX) (v : Int32) : SX := w3 μ 0 1 (2 * (μ 0).1 2 + 1) v
def cd3 (μ : SX) : SX := w1 μ 0 2 ((μ 0).1 2 + 1)
theorem card_d {N : Nat} {μ : SX} {a b s : Int32} : m_M_card_23 N μ a b s = (if (((w1 μ 0 0 s) 0).1 0) ≤ 0 then (if inb (2 * (((w1 μ 0 0 s) 0).1 2)) 300 = true then (if inb ((2 * ((cd1 (w1 μ 0 0 s) a 0).1 2)) + 1) 300 = true then some ((cd3 (cd2 (cd1 (w1 μ 0 0 s) a) b) 0).1 2 - 1, cd3 (cd2 (cd1 (w1 μ 0 0 s) a) b)) else none) else none) else some (0, (w1 μ 0 0 s))) := rfl
def ac1 (σ : SX) (v : Int32) : SX := w3 σ 1 1 ((σ 1).1 0) v
def ac2 (σ : SX) (v : Int32) : SX := w3 σ 1 2 ((σ 1).1 0) v
def ac3 (σ : SX) : SX := w1 σ 1 0 ((σ 1).1 0 + 1)
theorem acard_d {N : Nat} {σ : SX} {a b : Int32} : m_D_addCard N σ a b = (bI (m_D_isFull N σ) fun r1 σ1 => (if r1 = 0 then (if inb ((σ 1).1 0) 150 = true then (if inb ((ac1 σ a 1).1 0) 150 = true then some (((ac3 (ac2 (ac1 σ a) b) 1).1 0 - 1), ac3 (ac2 (ac1 σ a) b)) else none) else none) else some ((-1), σ))) := rfl
theorem card_eq {N : Nat} {σ μ : SX} {a b : Int32} {f : Nat → Int64} (h : R σ μ) : ansL (m_L_card N σ f a b) (m_M_card N μ a b) σ f := by
  obtain ⟨c, p, hb, hc⟩ := id h
  obtain ⟨⟨⟨d1, d2, d3⟩, d4, d5, d6⟩, hb'⟩ := id hb
  have bad : m_O_card N σ a b = none → xm_O_card N σ a b = some 0 → m_M_card N μ a b = m_M_card_18 N μ a b → ansL (m_L_card N σ f a b) (m_M_card N μ a b) σ f := fun q1 q2 q3 => by
    refine Or.inr ⟨1, 0, w1 μ 0 0 1, by decide, ?_, ?_, w0_0, R_w0 h⟩
    · rw [m_L_card, q1, q2]; rfl
    · rw [q3, m_M_card_18, card_d, w0_0]; rfl
  rcases st_0 hc with ⟨s1, s2, s3⟩ | ⟨s1, s2, s3⟩
  · by_cases e : c < 150
    · have cl : (n32 c).toNatClampNeg = c := n32_cl (by omega)
      have f0 : m_D_isFull N σ = some (0, σ) := by rw [m_D_isFull, d1, l150, if_pos (by rw [n32_lt (by omega) (by omega)]; exact e)]
      have u1 : ∀ k, (ac1 σ a k).1 = (σ k).1 := fun k => by rw [ac1, w3_s]
      have u2 : ∀ k, (ac2 (ac1 σ a) b k).1 = (σ k).1 := fun k => by rw [ac2, w3_s, u1]
      have ib : inb (n32 c) 150 = true := inbn (by omega) e
      have v1 : (ac3 (ac2 (ac1 σ a) b) 1).1 0 = n32 (c + 1) := by rw [ac3, w1_s, if_pos ⟨rfl, rfl⟩, u2, d1, l1, n32_add]
      have X : m_O_card N σ a b = some (n32 c, ac3 (ac2 (ac1 σ a) b)) := by
        rw [m_O_card, s1, if_pos eq00, f0, bI_s, if_pos rfl, acard_d, f0, bI_s, if_pos rfl, u1, d1, if_pos ib, if_pos ib, bI_s, v1, l1, n32_sub (by omega), show c + 1 - 1 = c by omega]
      obtain ⟨μ0, e0⟩ : ∃ m, m = w1 μ 0 0 0 := ⟨_, rfl⟩
      have m2 : (μ0 0).1 2 = n32 c := by rw [e0, w1_s, if_neg (by decide)]; exact d2
      have m0 : (μ0 0).1 0 = 0 := by rw [e0, w0_0]
      have y1 : ∀ k, (cd1 μ0 a k).1 = (μ0 k).1 := fun k => by rw [cd1, w3_s]
      have y2 : ∀ k, (cd2 (cd1 μ0 a) b k).1 = (μ0 k).1 := fun k => by rw [cd2, w3_s, y1]
      have t2 : (2 : Int32) * n32 c = n32 (2 * c) := by rw [l2, n32_mul]
      have z1 : (cd3 (cd2 (cd1 μ0 a) b) 0).1 2 = n32 (c + 1) := by rw [cd3, w1_s, if_pos ⟨rfl, rfl⟩, y2, m2, l1, n32_add]
      have Y : m_M_card N μ a b = some (n32 c, cd3 (cd2 (cd1 μ0 a) b)) := by
        rw [m_M_card, s2, if_neg (by decide), d2, l150, if_neg (by rw [n32_eq (by omega) (by omega)]; omega), card_d, ← e0, m0, if_pos (by decide), y1, m2, t2, if_pos (inbn (by omega) (by omega)), l1, n32_add, if_pos (inbn (by omega) (by omega)), z1, n32_sub (by omega), show c + 1 - 1 = c by omega]
      have fX : frX [1] σ (ac3 (ac2 (ac1 σ a) b)) := ((frX.w3 (by decide)).tr (frX.w3 (by decide))).tr (frX.w1 (by decide))
      have fM : frM [0, 2] [1] μ (cd3 (cd2 (cd1 μ0 a) b)) := by
        rw [e0]; exact (((frM.w1 (by decide)).tr (frM.w3 (by decide))).tr (frM.w3 (by decide))).tr (frM.w1 (by decide))
      have A1 : (cd3 (cd2 (cd1 μ0 a) b) 0).2 1 = upd (upd ((μ 0).2 1) (2 * c) a) (2 * c + 1) b := by
        rw [cd3, w1_a, cd2, w3_a, if_pos ⟨rfl, rfl⟩, y1, m2, t2, l1, n32_add, n32_cl (by omega), cd1, w3_a, if_pos ⟨rfl, rfl⟩, m2, t2, n32_cl (by omega), e0, w1_a]
      have A2 : (ac3 (ac2 (ac1 σ a) b) 1).2 1 = upd ((σ 1).2 1) c a := by
        rw [ac3, w1_a, ac2, w3_a, if_neg (by decide), ac1, w3_a, if_pos ⟨rfl, rfl⟩, d1, cl]
      have A3 : (ac3 (ac2 (ac1 σ a) b) 1).2 2 = upd ((σ 1).2 2) c b := by
        rw [ac3, w1_a, ac2, w3_a, if_pos ⟨rfl, rfl⟩, u1, d1, cl, ac1, w3_a, if_neg (by decide)]
      have A4 : ∀ k, 3 ≤ k → (ac3 (ac2 (ac1 σ a) b) 1).2 k = (σ 1).2 k := fun k hk => by
        rw [ac3, w1_a, ac2, w3_a, if_neg (by omega), ac1, w3_a, if_neg (by omega)]
      have A5 : (ac3 (ac2 (ac1 σ a) b) 1).1 1 = (σ 1).1 1 := by rw [ac3, w1_s, if_neg (by decide), u2]
      refine Or.inl ⟨n32 c, ac3 (ac2 (ac1 σ a) b), _, by rw [m_L_card, X], Y, ?_, c + 1, p, ?_, ?_⟩
      · rw [cd3, w1_s, if_neg (by decide), y2, m0]
      · refine ⟨⟨⟨v1, z1, by omega⟩, ⟨by rw [A5]; exact d4.1, by rw [fM.1 3 (by decide)]; exact d4.2.1, d4.2.2⟩, fun k hk => ?_, fun k hk => ?_⟩, ?_, fau_fr hb'.2.1 (fun t ht => by rw [fX (7 + t) (by simp; omega)]) (fM.2 4 (by decide)), ?_, ?_⟩
        · rw [A1, A2, A3, upd_ap, upd_ap, upd_ap, upd_ap, upd_ap, upd_ap]
          by_cases ek : k = c
          · rw [if_pos ek, if_pos ek, if_neg (by omega), if_pos (by omega), if_pos (by omega)]; exact ⟨rfl, rfl⟩
          · rw [if_neg ek, if_neg ek, if_neg (by omega), if_neg (by omega), if_neg (by omega), if_neg (by omega)]; exact d5 k (by omega)
        · rw [A4 3 (by omega), A4 4 (by omega), fM.2 2 (by decide), fM.2 3 (by decide)]; exact d6 k hk
        · unfold WR; rw [fX 5 (by decide), fM.1 5 (by decide), fM.1 6 (by decide), fM.1 7 (by decide)]; exact hb'.1
        · obtain ⟨rm, r1, r2, r3, r4⟩ := hb'.2.2.1
          exact ⟨rm, r1, r2, by rw [fX 2 (by decide)]; exact r3, by rw [fM.1 1 (by decide)]; exact r4⟩
        · rw [fX 0 (by decide), fM.1 8 (by decide)]; exact hb'.2.2.2
      · exact core_fr (c := c + 1) (σ := σ) (μ := μ) ⟨0, s1, s2, Or.inl ⟨rfl, new_c s3⟩⟩ (by rw [fX 0 (by decide)]) (by rw [fX 0 (by decide)]) (fX 2 (by decide)) (fX 4 (by decide)) (fun t ht => by rw [fX (7 + t) (by simp; omega)]; exact ⟨rfl, fun _ _ => rfl⟩) (fM.mo (by decide) (by decide))
    · have f0 : m_D_isFull N σ = some (1, σ) := by rw [m_D_isFull, d1, l150, if_neg (by rw [n32_lt (by omega) (by omega)]; exact e)]
      refine bad ?_ ?_ ?_
      · rw [m_O_card, s1, if_pos eq00, f0, bI_s, if_neg (by decide)]
      · rw [xm_O_card, s1, if_pos eq00, f0, bI_s, if_neg (by decide)]
      · rw [m_M_card, s2, if_neg (by decide), d2, if_pos (by rw [l150, n32_eq (by omega) (by omega)]; omega)]
  · refine bad ?_ ?_ ?_
    · rw [m_O_card, l0, if_neg s1]
    · rw [xm_O_card, l0, if_neg s1]
    · rw [m_M_card, l0, if_pos s3]
