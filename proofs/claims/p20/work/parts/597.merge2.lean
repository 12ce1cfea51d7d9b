/-! Layer B: runs are merged, with cards. -/
theorem mer_B {N : Nat} {σ μ : SX} {th : Int32} {c p nn lv x y z m : Nat} {rn cn dn rl : Nat → Nat} {ls : Nat → Nat → Nat} (hN : 200 ≤ N) (hth : (μ 0).1 0 = th) (hb : Bas σ μ c p) (hst : (σ 0).1 0 = n32 2) (hph : (μ 0).1 4 = n32 2)
    (h1 : StR σ μ 0 nn c) (h2 : TapesL σ μ c rn cn ls) (h3 : DumR σ μ dn) (h4 : RolR σ μ rl) (h5 : Perm4 rl) (h6 : (σ 4).1 0 = n32 lv) (h7 : (μ 0).1 12 = n32 lv) (h8 : Pn lv = (x, y, z)) (h9 : 1 ≤ lv) (h10 : x ≤ 150) (h11 : m < z)
    (hm : rn (rl 0) + dn (rl 0) + m = x ∧ rn (rl 1) + dn (rl 1) + m = y ∧ rn (rl 2) + dn (rl 2) + m = z ∧ rn (rl 3) + dn (rl 3) = m) (hc : cn (rl 0) + cn (rl 1) + cn (rl 2) + cn (rl 3) ≤ 150)
    (hrow : RwR σ μ (hdd rl dn ls 0 + hdd rl dn ls 1 + hdd rl dn ls 2) c) (hi : 1 ≤ hdd rl dn ls 0 + hdd rl dn ls 1 + hdd rl dn ls 2) (hs : hdd rl dn ls 0 + hdd rl dn ls 1 + hdd rl dn ls 2 + cn (rl 3) ≤ 150) :
    ∃ σ' μ', (bR (m_O_tapeInRole N σ 3) fun x37 σ37 => (bV (m_T_append N σ x37) fun σ44 => m_O_mergeRuns_47 N σ44)) = some (n32 1, σ') ∧
      m_M_merge_68 N μ (n32 0) = some (n32 1, μ') ∧ (μ' 0).1 0 = th ∧ Bas σ' μ' c p ∧ (((σ' 0).1 0 = n32 2 ∧ (μ' 0).1 4 = n32 2 ∧ MerR σ' μ' c) ∨ ((σ' 0).1 0 = n32 3 ∧ (μ' 0).1 4 = n32 3 ∧ DonR σ' μ' c)) := by
  have hp := pn_f (n := lv - 1) (x := x) (y := y) (z := z) (by rw [show lv - 1 + 1 = lv by omega]; exact h8)
  obtain ⟨hm0, hm1, hm2, hm3⟩ := id hm
  obtain ⟨pa, pb, pc, pd, pe, pf⟩ := id h5
  have hl : ∀ k, k < 4 → rl k < 4 := fun k hk => (h4 k hk).2.2
  have g3 := hl 3 (by omega)
  have rk : ∀ k, k < 3 → rl k ≠ rl 3 := fun k hk => by
    rcases (show k = 0 ∨ k = 1 ∨ k = 2 by omega) with rfl | rfl | rfl <;> assumption
  have kb : ∀ k, k < 3 → 1 ≤ rn (rl k) + dn (rl k) ∧ dn (rl k) ≤ 150 := fun k hk => by
    rcases (show k = 0 ∨ k = 1 ∨ k = 2 by omega) with rfl | rfl | rfl <;> omega
  obtain ⟨i, ei⟩ : ∃ i, i = hdd rl dn ls 0 + hdd rl dn ls 1 + hdd rl dn ls 2 := ⟨_, rfl⟩
  rw [← ei] at hrow hi hs
  obtain ⟨σ13, a1, f13, a3, a4, a5, a6, a7, a8⟩ := appX (N := N) (h2 (rl 3) g3) hrow.1 (by omega) hi
  rw [l3, rol_x h4 (by omega), bR_s, a1, bV_s, m_O_mergeRuns_47, m_M_merge_68]
  have ok : ∀ k, k < 3 → σ13 (7 + rl k) = σ (7 + rl k) := fun k hk => f13 _ (by simp; exact rk k hk)
  have o7 : ∀ j, j < 7 → σ13 j = σ j := fun j hj => f13 _ (by simp; omega)
  obtain ⟨f', σ', μ', rn', cn', dn', ls', n, z1, z2, z3, z4, z5, z6, z7, z8, z9, z10, z11, z12, z13, z14⟩ := tk_3 (v := n32 0) (f := fun t => σ (7 + t)) (σ := σ13) (μ := μ) (dn := dn) hN h2 (fun t ht => by rw [o7 0 (by omega)]; exact h4 t ht) h5 (fun k hk => (ok k hk).symm) (fun k hk => by rw [ok k hk]; exact h3 (rl k) (hl k (by omega))) kb
  have r3 : (μ' 0).2 12 3 = n32 (rl 3) := by rw [z6.2 12 (by decide)]; exact (h4 3 (by omega)).2.1
  have c3 : (3 : Int32).toNatClampNeg = 3 := by decide
  have tg : TaR σ μ' (rl 3) (rn (rl 3)) (cn (rl 3)) c (ls (rl 3)) := by
    have := z8 (rl 3) g3
    rw [z9, z11, z12, z14] at this; exact this
  obtain ⟨μ2, b1, b2, b3, b4, b5⟩ := appM (N := N) (μ := μ') (i := i) hN tg g3 (by rw [z6.1 16 (by decide)]; exact hrow.2.1) (by omega) hi
  rw [z1, bV_s, show (0 : Int32) = n32 0 from rfl, z2, m_M_merge_70, if_pos (by decide), if_pos eq00, c3, r3, b1, bV_s]
  have oj : ∀ j, j < 7 → σ' j = σ j := fun j hj => (z3 j hj).trans (o7 j hj)
  have fm : frM [] [8, 9, 10, 11] μ μ2 := z6.tr (b2.mo (by decide) (by decide))
  have t3 : (σ' (7 + rl 3)).1 3 = (σ (7 + rl 3)).1 3 := by rw [z4, a6]
  refine turn_eq (nn := nn) (lv := lv) (x := x) (y := y) (z := z) (m := m + 1) (rn := up rn' (rl 3) (rn (rl 3) + 1)) (cn := up cn' (rl 3) (cn (rl 3) + i)) (dn := dn') (rl := rl) (ls := up ls' (rl 3) (fun k => if k = rn (rl 3) then i else ls (rl 3) k)) hN ((fm.1 0 (by decide)).trans hth) ?_ ?_ ?_ ?_ ?_ ?_ ?_ h5 ?_ ?_ h8 h9 h10 (by omega) ⟨?_, ?_, ?_, ?_⟩ ?_
  · refine bas_fr hb (oj 1 (by omega)) (by rw [oj 2 (by omega)]) (by rw [oj 0 (by omega)]) ?_ (fau_fr hb.2.2.1 (fun t ht => ?_) (fm.2 4 (by decide))) ⟨fm.1 1 (by decide), fm.1 2 (by decide), fm.1 3 (by decide), fm.1 8 (by decide)⟩ ⟨fm.2 1 (by decide), fm.2 2 (by decide), fm.2 3 (by decide)⟩
    · unfold WR; rw [oj 5 (by omega), fm.1 5 (by decide), fm.1 6 (by decide), fm.1 7 (by decide)]; exact hb.2.1
    · by_cases e : t = rl 3
      · rw [e]; exact t3
      · rw [z5 t ht, f13 _ (by simp; exact e)]
  · rw [oj 0 (by omega)]; exact hst
  · rw [fm.1 4 (by decide)]; exact hph
  · unfold StR; rw [oj 2 (by omega), fm.1 9 (by decide), fm.1 10 (by decide), fm.2 5 (by decide), fm.2 6 (by decide)]; exact h1
  · intro t ht
    by_cases e : t = rl 3
    · rw [e, up_s, up_s, up_s]
      unfold TaR
      rw [z4]
      refine tap_app (s := σ (7 + rl 3)) (rw0 := (σ 6).2 1) (ru := (μ' 0).2 15) tg hi (by omega) (fun k hk => ?_) a3 a4 a7 a8 (by rw [b5, upd_ap, if_pos rfl]) b3 b4
      rw [z6.2 15 (by decide)]; exact hrow.2.2.2 k hk
    · rw [up_n e, up_n e, up_n e]
      have := z8 t ht
      have ft : f' t = σ' (7 + t) := by
        rcases perm_s h5 hl ht with rfl | rfl | rfl | rfl
        · exact (z10 0 (by omega)).1
        · exact (z10 1 (by omega)).1
        · exact (z10 2 (by omega)).1
        · exact absurd rfl e
      rw [ft] at this
      refine tap_oth (t := t) this (by rw [b5, upd_ap, if_neg e]) (fun k hk => ?_) (fun k hk => ?_)
      · rw [b3, if_neg (by omega)]
      · have := tap_rn tg
        rw [b4, upd_ap, if_neg (by omega)]
  · intro t ht
    rw [b2.2 11 (by decide)]
    rcases perm_s h5 hl ht with rfl | rfl | rfl | rfl
    · exact (z10 0 (by omega)).2.1
    · exact (z10 1 (by omega)).2.1
    · exact (z10 2 (by omega)).2.1
    · rw [z13, z7, z4, a5]; exact h3 (rl 3) g3
  · intro t ht; rw [oj 0 (by omega), fm.2 12 (by decide)]; exact h4 t ht
  · rw [oj 4 (by omega)]; exact h6
  · rw [fm.1 12 (by decide)]; exact h7
  · rw [up_n pc]; have := (z10 0 (by omega)).2.2.1; omega
  · rw [up_n pe]; have := (z10 1 (by omega)).2.2.1; omega
  · rw [up_n pf]; have := (z10 2 (by omega)).2.2.1; omega
  · rw [up_s, z13]; omega
  · have q0 := (z10 0 (by omega)).2.2.2
    have q1 := (z10 1 (by omega)).2.2.2
    have q2 := (z10 2 (by omega)).2.2.2
    rw [up_n pc, up_n pe, up_n pf, up_s]; omega
theorem merge_eq {N : Nat} {σ μ : SX} {c p : Nat} (hN : 200 ≤ N) (hb : Bas σ μ c p) (hM : MerR σ μ c) (hst : (σ 0).1 0 = n32 2) (hph : (μ 0).1 4 = n32 2) :
    ∃ r σ' μ', m_O_mergeRuns N σ = some (r, σ') ∧ m_M_merge N μ = some (r, μ') ∧ (μ' 0).1 0 = (μ 0).1 0 ∧ Bas σ' μ' c p ∧ ((r = n32 0 ∧ (σ' 0).1 0 = n32 2 ∧ (μ' 0).1 4 = n32 2 ∧ MerR σ' μ' c) ∨
      (r = n32 1 ∧ (((σ' 0).1 0 = n32 2 ∧ (μ' 0).1 4 = n32 2 ∧ MerR σ' μ' c) ∨ ((σ' 0).1 0 = n32 3 ∧ (μ' 0).1 4 = n32 3 ∧ DonR σ' μ' c)))) := by
  obtain ⟨nn, rn, cn, dn, ls, lv, x, y, z, m, rl, h1, h2, h3, h4, h5, h6, h7, h8, h9, h10, h11, hm, hc⟩ := id hM
  have hp := pn_f (n := lv - 1) (x := x) (y := y) (z := z) (by rw [show lv - 1 + 1 = lv by omega]; exact h8)
  obtain ⟨hm0, hm1, hm2, hm3⟩ := id hm
  have hl : ∀ k, k < 4 → rl k < 4 := fun k hk => (h4 k hk).2.2
  have kb : ∀ k, k < 3 → 1 ≤ rn (rl k) + dn (rl k) ∧ dn (rl k) ≤ 150 := fun k hk => by
    rcases (show k = 0 ∨ k = 1 ∨ k = 2 by omega) with rfl | rfl | rfl <;> omega
  rcases evd_x (N := N) hN h3 h4 (fun k hk => (kb k hk).2) with ⟨w0, w1, w2⟩ | ⟨-, w1, w2⟩
  · have hdb : ∀ k, k < 3 → hdd rl dn ls k ≤ cn (rl k) ∧ (dn (rl k) = 0 → 1 ≤ hdd rl dn ls k) := fun k hk => by
      unfold hdd
      by_cases e : dn (rl k) = 0
      · rw [if_pos e]
        have := hd_cn (h2 (rl k) (hl k (by omega))) (by have := (kb k hk).1; omega)
        exact ⟨this.1, fun _ => this.2⟩
      · rw [if_neg e]; exact ⟨by omega, fun q => absurd q e⟩
    have s0 := hdb 0 (by omega)
    have s1 := hdb 1 (by omega)
    have s2 := hdb 2 (by omega)
    obtain ⟨r, σ1, μ1, x1, x2, x3, x4, x5, x6⟩ := read_l (N := N) (rl := rl) (dn := dn) (fun k hk => (kb k hk).2) N 0 σ μ (n32 1) (by omega) (by omega) (Or.inr rfl) h3 h4 hb.2.2.1
    have bas1 : Bas σ1 μ1 c p := by
      refine bas_fr hb (x5.1 1 (by omega)) (by rw [x5.1 2 (by omega)]) (by rw [x5.1 0 (by omega)]) ?_ x4 ⟨x6.1 1 (by decide), x6.1 2 (by decide), x6.1 3 (by decide), x6.1 8 (by decide)⟩ ⟨x6.2 1 (by decide), x6.2 2 (by decide), x6.2 3 (by decide)⟩
      unfold WR; rw [x5.1 5 (by omega), x6.1 5 (by decide), x6.1 6 (by decide), x6.1 7 (by decide)]; exact hb.2.1
    rw [m_O_mergeRuns, w1, bI_s, if_pos eq00, m_O_sourcesCanBeRead, show (1 : Int32) = n32 1 from rfl, show (0 : Int32) = n32 0 from rfl, x1, bI_s, w2, m_M_merge_46, m_M_merge_47, show (0 : Int32) = n32 0 from rfl, if_pos rfl, m_M_isReadable, show (1 : Int32) = n32 1 from rfl, show (0 : Int32) = n32 0 from rfl, x2, bI_s]
    rcases x3 with rfl | rfl
    · rw [if_pos rfl, if_pos rfl]
      exact ⟨_, _, _, rfl, rfl, x6.1 0 (by decide), bas1, Or.inl ⟨rfl, by rw [x5.1 0 (by omega)]; exact hst, by rw [x6.1 4 (by decide)]; exact hph, mer_fr hM (x5.1 2 (by omega)) (x5.1 4 (by omega)) (by rw [x5.1 0 (by omega)]) x5.2 (x6.mo (by decide) (by decide))⟩⟩
    · have ne : ¬ n32 1 = n32 0 := by decide
      rw [if_neg ne, if_neg ne]
      have h2' : TapesL σ1 μ1 c rn cn ls := tapes_fr h2 (fun t ht => ⟨(x5.2 t ht).1, (x5.2 t ht).2 0 (by decide), (x5.2 t ht).2 1 (by decide)⟩) (x6.2 8 (by decide)) (x6.2 9 (by decide)) (x6.2 10 (by decide))
      have h3' : DumR σ1 μ1 dn := fun t ht => by rw [(x5.2 t ht).2 2 (by decide), x6.2 11 (by decide)]; exact h3 t ht
      have h4' : RolR σ1 μ1 rl := fun t ht => by rw [x5.1 0 (by omega), x6.2 12 (by decide)]; exact h4 t ht
      obtain ⟨r2, σ2, μ2, y1, y2, y3, y4, y5, y6, y7, y8⟩ := merged_eq (N := N) hN bas1.1 bas1.2.1 h2' h3' h4' kb (by omega)
      have ot : ∀ t, t < 4 → σ2 (7 + t) = σ1 (7 + t) := fun t ht => y3 (7 + t) (by simp; omega)
      have bas2 : Bas σ2 μ2 c p := bas_fr bas1 (y3 1 (by decide)) (by rw [y3 2 (by decide)]) (by rw [y4]) y7 (fau_fr bas1.2.2.1 (fun t ht => by rw [ot t ht]) (y6.2 4 (by decide))) ⟨y6.1 1 (by decide), y6.1 2 (by decide), y6.1 3 (by decide), y6.1 8 (by decide)⟩ ⟨y6.2 1 (by decide), y6.2 2 (by decide), y6.2 3 (by decide)⟩
      have fx2 : ∀ t, t < 4 → (σ2 (7 + t)).2 = (σ (7 + t)).2 ∧ ∀ q, q ≠ 3 → (σ2 (7 + t)).1 q = (σ (7 + t)).1 q := fun t ht => by rw [ot t ht]; exact x5.2 t ht
      have fm2 : frM [5, 6, 7, 16] [4, 15, 16] μ μ2 := (x6.mo (by decide) (by decide)).tr (y6.mo (by decide) (by decide))
      have st2 : (σ2 0).1 0 = n32 2 := by rw [y4, x5.1 0 (by omega)]; exact hst
      have ph2 : (μ2 0).1 4 = n32 2 := by rw [fm2.1 4 (by decide)]; exact hph
      rw [y1, bI_s, y2, bI_s]
      rcases y8 with rfl | ⟨rfl, y8⟩
      · rw [if_pos rfl, if_pos rfl]
        exact ⟨_, _, _, rfl, rfl, fm2.1 0 (by decide), bas2, Or.inl ⟨rfl, st2, ph2, mer_fr hM (by rw [y3 2 (by decide), x5.1 2 (by omega)]) (by rw [y3 4 (by decide), x5.1 4 (by omega)]) (by rw [y5, x5.1 0 (by omega)]) fx2 fm2⟩⟩
      · rw [if_neg ne, if_neg ne]
        obtain ⟨σ', μ', q1, q2, q0, q3, q4⟩ := mer_B (N := N) (nn := nn) (lv := lv) (x := x) (y := y) (z := z) (m := m) (rn := rn) (cn := cn) (dn := dn) (rl := rl) (ls := ls) hN (fm2.1 0 (by decide)) bas2 st2 ph2 (by unfold StR; rw [y3 2 (by decide), x5.1 2 (by omega), fm2.1 9 (by decide), fm2.1 10 (by decide), fm2.2 5 (by decide), fm2.2 6 (by decide)]; exact h1)
          (tapes_fr h2 (fun t ht => ⟨(fx2 t ht).1, (fx2 t ht).2 0 (by decide), (fx2 t ht).2 1 (by decide)⟩) (fm2.2 8 (by decide)) (fm2.2 9 (by decide)) (fm2.2 10 (by decide))) (fun t ht => by rw [(fx2 t ht).2 2 (by decide), fm2.2 11 (by decide)]; exact h3 t ht)
          (fun t ht => by rw [y5, x5.1 0 (by omega), fm2.2 12 (by decide)]; exact h4 t ht) h5 (by rw [y3 4 (by decide), x5.1 4 (by omega)]; exact h6) (by rw [fm2.1 12 (by decide)]; exact h7) h8 h9 h10 h11 hm hc y8 (by
            rcases w0 with q | q | q
            · have := s0.2 q; omega
            · have := s1.2 q; omega
            · have := s2.2 q; omega) (by omega)
        exact ⟨_, σ', μ', q1, q2, q0, q3, Or.inr ⟨rfl, q4⟩⟩
  · obtain ⟨σ', μ', q1, q2, q0, q3, q4⟩ := mer_A (N := N) hN rfl hb hst hph h1 h2 h3 h4 h5 h6 h7 h8 h9 h10 h11 hm hc
    rw [m_O_mergeRuns, w1, bI_s, if_neg ne10, w2]
    exact ⟨_, σ', μ', q1, q2, q0, q3, Or.inr ⟨rfl, q4⟩⟩
