/-! Layer B: the sources lose what was merged. -/
def TapesF (f : Nat → SS) (μ : SX) (c : Nat) (rn cn : Nat → Nat) (ls : Nat → Nat → Nat) : Prop := ∀ t, t < 4 → TapR (f t) (150 * t) ((μ 0).2 10 t) ((μ 0).2 8) ((μ 0).2 9) (rn t) (cn t) c (ls t)
theorem takeF {N : Nat} {f : Nat → SS} {σ μ : SX} {c : Nat} {rn cn : Nat → Nat} {ls : Nat → Nat → Nat} {t : Nat} (hN : 200 ≤ N) (h : TapesF f μ c rn cn ls) (ht : t < 4) (hf : f t = σ (7 + t)) (hr1 : 1 ≤ rn t) :
    ∃ σ' μ', m_T_takeFirstRun N σ t = some σ' ∧ m_M_takeOff N μ (n32 t) = some μ' ∧ frX [7 + t] σ σ' ∧ (σ' (7 + t)).1 2 = (σ (7 + t)).1 2 ∧ (σ' (7 + t)).1 3 = (σ (7 + t)).1 3 ∧ frM [] [8, 9, 10] μ μ' ∧
      TapesF (up f t (σ' (7 + t))) μ' c (up rn t (rn t - 1)) (up cn t (cn t - ls t 0)) (up ls t (fun k => ls t (k + 1))) := by
  have h0 : TaR σ μ t (rn t) (cn t) c (ls t) := by unfold TaR; rw [← hf]; exact h t ht
  have hr := tap_rn h0
  have hc := h0.2.1.2
  obtain ⟨σ', x1, x2, x3, x4, x5, x6, x7, x8⟩ := takeX (N := N) h0 hr1
  obtain ⟨μ', y1, y2, y3, y4, y5⟩ := takeM hN h0 ht hr1
  refine ⟨σ', μ', x1, y1, x2, x5, x6, y2, fun q hq => ?_⟩
  by_cases e : q = t
  · subst e
    rw [up_s, up_s, up_s, up_s]
    exact tap_take h0 hr1 x3 x4 x7 x8 (by rw [y5, upd_ap, if_pos rfl]) y3 y4
  · rw [up_n e, up_n e, up_n e, up_n e]
    refine tap_oth (t := t) (h q hq) (by rw [y5, upd_ap, if_neg e]) (fun k hk => ?_) (fun k hk => ?_)
    · rw [y3, if_neg (by omega)]
    · rw [y4, if_neg (by omega)]
def TkS (t : Nat) (f f' : Nat → SS) (σ σ' μ μ' : SX) (c : Nat) (rn cn dn rn' cn' dn' : Nat → Nat) (ls ls' : Nat → Nat → Nat) : Prop :=
  frX [7 + t] σ σ' ∧ (σ' (7 + t)).1 3 = (σ (7 + t)).1 3 ∧ frM [] [8, 9, 10, 11] μ μ' ∧ (∀ q, q ≠ t → (μ' 0).2 11 q = (μ 0).2 11 q) ∧ TapesF f' μ' c rn' cn' ls' ∧ f' t = σ' (7 + t) ∧ ((σ' (7 + t)).1 2 = n32 (dn' t) ∧ (μ' 0).2 11 t = n32 (dn' t)) ∧
  (rn' t + dn' t + 1 = rn t + dn t ∧ cn' t + (if dn t = 0 then ls t 0 else 0) = cn t) ∧ ∀ q, q ≠ t → f' q = f q ∧ rn' q = rn q ∧ cn' q = cn q ∧ dn' q = dn q ∧ ls' q = ls q
theorem tk_s {N n k : Nat} {v : Int32} {f : Nat → SS} {σ μ : SX} {c : Nat} {rl rn cn dn : Nat → Nat} {ls : Nat → Nat → Nat} (hN : 200 ≤ N) (h : TapesF f μ c rn cn ls) (hr : RolR σ μ rl) (k3 : k < 3) (hf : f (rl k) = σ (7 + rl k)) (hd : (σ (7 + rl k)).1 2 = n32 (dn (rl k)) ∧ (μ 0).2 11 (rl k) = n32 (dn (rl k))) (h1 : 1 ≤ rn (rl k) + dn (rl k) ∧ dn (rl k) ≤ 150) :
    ∃ f' σ' μ' rn' cn' dn' ls', m_O_takeFromSources_2 N (n + 1) σ (n32 k) = m_O_takeFromSources_2 N n σ' (n32 (k + 1)) ∧ m_M_merge_70 N (n + 1) μ v (n32 k) = m_M_merge_70 N n μ' v (n32 (k + 1)) ∧ TkS (rl k) f f' σ σ' μ μ' c rn cn dn rn' cn' dn' ls ls' := by
  obtain ⟨a1, a2, a3⟩ := hr k (by omega)
  obtain ⟨d1, d2⟩ := hd
  have nl3 : ¬ n32 3 ≤ n32 k := by rw [n32_le (by omega) (by omega)]; omega
  have kb : inb (n32 k) 4 = true := inbn (by omega) (by omega)
  have rb : inb (n32 (rl k)) 4 = true := inbn (by omega) a3
  rw [m_O_takeFromSources_2, m_M_merge_70, l3, if_neg nl3, if_neg nl3, rol_x hr (by omega), bR_s, dum_x d1 h1.2, bI_s, if_pos kb, n32_cl (show k < 2147483648 by omega), a2, if_pos rb, n32_cl (show rl k < 2147483648 by omega), d2, l1, n32_add]
  by_cases e0 : dn (rl k) = 0
  · have z0 : n32 (dn (rl k)) ≤ 0 := by rw [e0]; decide
    rw [if_pos e0, if_pos eq00, if_pos z0]
    obtain ⟨σ', μ', x1, x2, x3, x4, x5, x6, x7⟩ := takeF (σ := σ) hN h a3 hf (by omega)
    have hq := hd_cn (h (rl k) a3) (by omega)
    rw [x1, x2, bV_s, bV_s]
    refine ⟨_, σ', μ', _, _, dn, _, rfl, rfl, x3, x5, x6.mo (by decide) (by decide), fun q _ => by rw [x6.2 11 (by decide)], x7, up_s, ⟨by rw [x4]; exact d1, by rw [x6.2 11 (by decide)]; exact d2⟩, ⟨?_, ?_⟩, fun q e => ⟨up_n e, up_n e, up_n e, rfl, up_n e⟩⟩
    · rw [up_s]; omega
    · rw [up_s, if_pos e0]; omega
  · have z0 : ¬ n32 (dn (rl k)) ≤ 0 := by rw [l0, n32_le (by omega) (by omega)]; omega
    rw [if_neg e0, if_neg ne10, if_neg z0, if_pos rb, if_pos rb, m_T_addDummies, bV_s, d1, show -n32 1 = mi by decide, n_add_mi (by omega), n32_sub (by omega)]
    have o : (w1 σ (7 + rl k) 2 (n32 (dn (rl k) - 1)) (7 + rl k)).2 = (σ (7 + rl k)).2 := by rw [w1_a]
    have fm : frM [] [8, 9, 10, 11] μ (w3 μ 0 11 (n32 (rl k)) (n32 (dn (rl k) - 1))) := frM.w3 (by decide)
    refine ⟨up f (rl k) (w1 σ (7 + rl k) 2 (n32 (dn (rl k) - 1)) (7 + rl k)), _, _, rn, cn, up dn (rl k) (dn (rl k) - 1), ls, rfl, rfl, frX.w1 (by simp), by rw [w1_s, if_neg (by omega)], fm, fun q e => ?_, fun q hq => ?_, up_s, ⟨?_, ?_⟩, ⟨?_, ?_⟩, fun q e => ⟨up_n e, rfl, rfl, up_n e, rfl⟩⟩
    · rw [w3_a, if_pos ⟨rfl, rfl⟩, n32_cl (by omega), upd_ap, if_neg e]
    · have := h q hq
      rw [show ((w3 μ 0 11 (n32 (rl k)) (n32 (dn (rl k) - 1))) 0).2 8 = (μ 0).2 8 by simp only [w1_s, w1_a, w2_s, w2_a, w3_s, w3_a, tn, nt, tt, true_and, and_true, false_and, and_false, and_self, if_true, if_false, Nat.reduceEqDiff, reduceIte, Nat.reduceAdd], show ((w3 μ 0 11 (n32 (rl k)) (n32 (dn (rl k) - 1))) 0).2 9 = (μ 0).2 9 by simp only [w1_s, w1_a, w2_s, w2_a, w3_s, w3_a, tn, nt, tt, true_and, and_true, false_and, and_false, and_self, if_true, if_false, Nat.reduceEqDiff, reduceIte, Nat.reduceAdd], show ((w3 μ 0 11 (n32 (rl k)) (n32 (dn (rl k) - 1))) 0).2 10 = (μ 0).2 10 by simp only [w1_s, w1_a, w2_s, w2_a, w3_s, w3_a, tn, nt, tt, true_and, and_true, false_and, and_false, and_self, if_true, if_false, Nat.reduceEqDiff, reduceIte, Nat.reduceAdd]]
      by_cases e : q = rl k
      · subst e
        rw [up_s]
        unfold TapR at this ⊢
        rw [o, w1_s, if_neg (by omega), w1_s, if_neg (by omega), ← hf]; exact this
      · rw [up_n e]; exact this
    · rw [w1_s, if_pos ⟨rfl, rfl⟩, up_s]
    · rw [w3_a, if_pos ⟨rfl, rfl⟩, n32_cl (by omega), upd_ap, if_pos rfl, up_s]
    · rw [up_s]; omega
    · rw [if_neg e0]; rfl
theorem perm_s {rl : Nat → Nat} (hp : Perm4 rl) (h : ∀ k, k < 4 → rl k < 4) {t : Nat} (ht : t < 4) : t = rl 0 ∨ t = rl 1 ∨ t = rl 2 ∨ t = rl 3 := by
  obtain ⟨a, b, c, d, e, f⟩ := hp
  have h0 := h 0 (by omega)
  have h1 := h 1 (by omega)
  have h2 := h 2 (by omega)
  have h3 := h 3 (by omega)
  omega
theorem tk_3 {N : Nat} {v : Int32} {f : Nat → SS} {σ μ : SX} {c : Nat} {rl rn cn dn : Nat → Nat} {ls : Nat → Nat → Nat} (hN : 200 ≤ N) (h : TapesF f μ c rn cn ls) (hr : RolR σ μ rl) (hp : Perm4 rl) (hf : ∀ k, k < 3 → f (rl k) = σ (7 + rl k)) (hd : ∀ k, k < 3 → (σ (7 + rl k)).1 2 = n32 (dn (rl k)) ∧ (μ 0).2 11 (rl k) = n32 (dn (rl k))) (h1 : ∀ k, k < 3 → 1 ≤ rn (rl k) + dn (rl k) ∧ dn (rl k) ≤ 150) :
    ∃ (f' : Nat → SS) (σ' μ' : SX) (rn' cn' dn' : Nat → Nat) (ls' : Nat → Nat → Nat) (n : Nat), m_O_takeFromSources N σ = some σ' ∧ m_M_merge_70 N N μ v (n32 0) = m_M_merge_70 N (n + 1) μ' v (n32 3) ∧ (∀ j, j < 7 → σ' j = σ j) ∧ σ' (7 + rl 3) = σ (7 + rl 3) ∧ (∀ t, t < 4 → (σ' (7 + t)).1 3 = (σ (7 + t)).1 3) ∧ frM [] [8, 9, 10, 11] μ μ' ∧ (μ' 0).2 11 (rl 3) = (μ 0).2 11 (rl 3) ∧
      TapesF f' μ' c rn' cn' ls' ∧ f' (rl 3) = f (rl 3) ∧ (∀ k, k < 3 → f' (rl k) = σ' (7 + rl k) ∧ ((σ' (7 + rl k)).1 2 = n32 (dn' (rl k)) ∧ (μ' 0).2 11 (rl k) = n32 (dn' (rl k))) ∧ rn' (rl k) + dn' (rl k) + 1 = rn (rl k) + dn (rl k) ∧ cn' (rl k) + hdd rl dn ls k = cn (rl k)) ∧
      rn' (rl 3) = rn (rl 3) ∧ cn' (rl 3) = cn (rl 3) ∧ dn' (rl 3) = dn (rl 3) ∧ ls' (rl 3) = ls (rl 3) := by
  obtain ⟨n, rfl⟩ : ∃ n, N = n + 4 := ⟨N - 4, by omega⟩
  obtain ⟨pa, pb, pc, pd, pe, pf⟩ := id hp
  have hl : ∀ k, k < 4 → rl k < 4 := fun k hk => (hr k hk).2.2
  -- source 0
  obtain ⟨f1, σ1, μ1, rn1, cn1, dn1, ls1, x1, x2, x3, x4, x5, x6, x7, x8, ⟨x9, x10⟩, ⟨x11, x12⟩, x13⟩ := tk_s (n := n + 3) (v := v) (k := 0) hN h hr (by omega) (hf 0 (by omega)) (hd 0 (by omega)) (h1 0 (by omega))
  obtain ⟨u1, u2, u3, u4, u5⟩ := x13 (rl 1) (Ne.symm pa)
  obtain ⟨v1, v2, v3, v4, v5⟩ := x13 (rl 2) (Ne.symm pb)
  obtain ⟨wa1, wa2, wa3, wa4, wa5⟩ := x13 (rl 3) (Ne.symm pc)
  have s1 : ∀ q, q ≠ rl 0 → σ1 (7 + q) = σ (7 + q) := fun q e => x3 (7 + q) (by simp; exact e)
  have hr1 : RolR σ1 μ1 rl := fun t ht => by rw [x3 0 (by simp; omega), x5.2 12 (by decide)]; exact hr t ht
  -- source 1
  obtain ⟨f2, σ2, μ2, rn2, cn2, dn2, ls2, y1, y2, y3, y4, y5, y6, y7, y8, ⟨y9, y10⟩, ⟨y11, y12⟩, y13⟩ := tk_s (n := n + 2) (v := v) (k := 1) (dn := dn1) hN x7 hr1 (by omega) (by rw [u1, s1 _ (Ne.symm pa)]; exact hf 1 (by omega)) (by rw [s1 _ (Ne.symm pa), x6 _ (Ne.symm pa), u4]; exact hd 1 (by omega)) (by rw [u2, u4]; exact h1 1 (by omega))
  obtain ⟨k1, k2, k3, k4, k5⟩ := y13 (rl 0) pa
  obtain ⟨la1, la2, la3, la4, la5⟩ := y13 (rl 2) (Ne.symm pd)
  obtain ⟨m1, m2, m3, m4, m5⟩ := y13 (rl 3) (Ne.symm pe)
  have s2 : ∀ q, q ≠ rl 1 → σ2 (7 + q) = σ1 (7 + q) := fun q e => y3 (7 + q) (by simp; exact e)
  have hr2 : RolR σ2 μ2 rl := fun t ht => by rw [y3 0 (by simp; omega), y5.2 12 (by decide)]; exact hr1 t ht
  -- source 2
  obtain ⟨f3, σ3, μ3, rn3, cn3, dn3, ls3, z1, z2, z3, z4, z5, z6, z7, z8, ⟨z9, z10⟩, ⟨z11, z12⟩, z13⟩ := tk_s (n := n + 1) (v := v) (k := 2) (dn := dn2) hN y7 hr2 (by omega) (by rw [la1, v1, s2 _ (Ne.symm pd), s1 _ (Ne.symm pb)]; exact hf 2 (by omega)) (by rw [s2 _ (Ne.symm pd), s1 _ (Ne.symm pb), y6 _ (Ne.symm pd), x6 _ (Ne.symm pb), la4, v4]; exact hd 2 (by omega)) (by rw [la2, v2, la4, v4]; exact h1 2 (by omega))
  obtain ⟨i1, i2, i3, i4, i5⟩ := z13 (rl 0) pb
  obtain ⟨j1, j2, j3, j4, j5⟩ := z13 (rl 1) pd
  obtain ⟨o1, o2, o3, o4, o5⟩ := z13 (rl 3) (Ne.symm pf)
  have s3 : ∀ q, q ≠ rl 2 → σ3 (7 + q) = σ2 (7 + q) := fun q e => z3 (7 + q) (by simp; exact e)
  refine ⟨f3, σ3, μ3, rn3, cn3, dn3, ls3, n, ?_, ?_, fun j hj => ?_, ?_, fun t ht => ?_, (x5.tr y5).tr z5, ?_, z7, ?_, fun k hk => ?_, ?_, ?_, ?_, ?_⟩
  · rw [m_O_takeFromSources, l0, x1, y1, z1, m_O_takeFromSources_2, if_pos (by decide)]
  · rw [x2, y2, z2]
  · rw [z3 j (by simp; omega), y3 j (by simp; omega), x3 j (by simp; omega)]
  · rw [s3 _ (Ne.symm pf), s2 _ (Ne.symm pe), s1 _ (Ne.symm pc)]
  · rcases perm_s hp hl ht with rfl | rfl | rfl | rfl
    · rw [s3 _ pb, s2 _ pa, x4]
    · rw [s3 _ pd, y4, s1 _ (Ne.symm pa)]
    · rw [z4, s2 _ (Ne.symm pd), s1 _ (Ne.symm pb)]
    · rw [s3 _ (Ne.symm pf), s2 _ (Ne.symm pe), s1 _ (Ne.symm pc)]
  · rw [z6 _ (Ne.symm pf), y6 _ (Ne.symm pe), x6 _ (Ne.symm pc)]
  · rw [o1, m1, wa1]
  · rcases (show k = 0 ∨ k = 1 ∨ k = 2 by omega) with rfl | rfl | rfl
    · rw [i1, k1, s3 _ pb, s2 _ pa, i4, k4, z6 _ pb, y6 _ pa, i2, k2, i3, k3]
      exact ⟨x8, ⟨x9, x10⟩, x11, x12⟩
    · rw [j1, s3 _ pd, j4, z6 _ pd, j2, j3]
      refine ⟨y8, ⟨y9, y10⟩, by rw [y11, u2, u4], ?_⟩
      rw [u3, u4, u5] at y12; exact y12
    · refine ⟨z8, ⟨z9, z10⟩, by rw [z11, la2, v2, la4, v4], ?_⟩
      rw [la3, v3, la4, v4, la5, v5] at z12; exact z12
  · rw [o2, m2, wa2]
  · rw [o3, m3, wa3]
  · rw [o4, m4, wa4]
  · rw [o5, m5, wa5]
