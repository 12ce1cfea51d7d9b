/-! Layer B: start and clear of both. -/
theorem le0n {v : Int32} (h : n32 0 < v) : ¬ v ≤ 0 := by
  rw [Int32.lt_iff_toInt_lt, n32_ti (by omega)] at h
  rw [Int32.le_iff_toInt_le]
  have : (0 : Int32).toInt = 0 := rfl
  omega
theorem tap_0 {s : SS} {off : Nat} {r : Int32} {ta le : Nat → Int32} {c : Nat} (h0 : s.1 0 = n32 0) (h1 : s.1 1 = n32 0) (hr : r = n32 0) : TapR s off r ta le 0 0 c (fun _ => 0) :=
  ⟨⟨h1, hr⟩, ⟨h0, by omega⟩, fun k hk => by omega, rfl, fun k hk => by omega⟩
theorem start_eq {N : Nat} {σ μ : SX} {f : Nat → Int64} (hN : 200 ≤ N) (h : R σ μ) : ∃ (k : Int32) (σ' μ' : SX), m_L_start N σ f = some (k, σ', f) ∧ m_M_start N μ = some μ' ∧ (μ' 0).1 0 = k ∧ R σ' μ' := by
  obtain ⟨c, p, hb, hc⟩ := id h
  rcases st_0 hc with ⟨s1, s2, h1, h2, h3, h4⟩ | ⟨s1, s2, s3⟩
  · obtain ⟨B1, B2, B3, ⟨rm, B4, B5, B6, B7⟩, B8⟩ := id hb
    have c150 := B1.1.2.2
    obtain ⟨σ1, x1, x2, x3, x4⟩ := rol_l (N := N) N 0 σ (by omega) (by omega) (fun q hq => by omega)
    have o1 : ∀ j, j ≠ 0 → σ1 j = σ j := fun j hj => x2 j (by simp; exact hj)
    obtain ⟨σ2, y1, y2, y3, y4, y5, y6, y7, y8, y9⟩ := begin_x (N := N) (σ := σ1) hN (fun t ht => by rw [o1 _ (by omega)]; exact (h3 t ht).1)
    obtain ⟨hn, ehn⟩ : ∃ hn, hn = if c < rm then c else rm := ⟨_, rfl⟩
    have hn8 : hn ≤ 8 ∧ hn ≤ c ∧ (c = 0 → hn = 0) ∧ (1 ≤ c → 1 ≤ hn) := by
      rw [ehn]
      by_cases e : c < rm
      · rw [if_pos e]; omega
      · rw [if_neg e]; omega
    have eh : (if n32 c < n32 rm then n32 c else n32 rm) = n32 hn := by
      rw [ehn]
      by_cases e : c < rm
      · rw [if_pos e, if_pos (by rw [n32_lt (by omega) (by omega)]; exact e)]
      · rw [if_neg e, if_neg (by rw [n32_lt (by omega) (by omega)]; exact e)]
    have d2 : (σ2 1).1 0 = n32 c := by rw [y2 1 (by omega), o1 1 (by omega)]; exact B1.1.1
    have m20 : (σ2 2).1 0 = n32 rm := by rw [y2 2 (by omega), o1 2 (by omega)]; exact B6
    have ff : m_S_fillFrom N σ2 2 = m_S_fillFrom_25 N 2 N (w1 (w1 σ2 2 1 (n32 hn)) 2 2 (n32 hn)) (n32 0) := by
      rw [m_S_fillFrom, m_D_cardCount, bI_s, d2, m20, eh, w1_s, if_pos ⟨rfl, rfl⟩]; rfl
    obtain ⟨σ3, z1, z2, z3, z4⟩ := fill_l (N := N) hn8.1 N 0 (w1 (w1 σ2 2 1 (n32 hn)) 2 2 (n32 hn)) (by omega) (by omega) (by simp only [w1_s, w1_a, w2_s, w2_a, w3_s, w3_a, tn, nt, tt, true_and, and_true, false_and, and_false, and_self, if_true, if_false, Nat.reduceEqDiff, reduceIte, Nat.reduceAdd]) (fun q hq => by omega)
    have o3 : ∀ j, j ≠ 2 → σ3 j = σ2 j := fun j hj => by rw [z2 j (by simp; exact hj), w1_n hj, w1_n hj]
    have s21 : (σ3 2).1 1 = n32 hn := by rw [z3]; simp only [w1_s, w1_a, w2_s, w2_a, w3_s, w3_a, tn, nt, tt, true_and, and_true, false_and, and_false, and_self, if_true, if_false, Nat.reduceEqDiff, reduceIte, Nat.reduceAdd]
    have s22 : (σ3 2).1 2 = n32 hn := by rw [z3]; simp only [w1_s, w1_a, w2_s, w2_a, w3_s, w3_a, tn, nt, tt, true_and, and_true, false_and, and_false, and_self, if_true, if_false, Nat.reduceEqDiff, reduceIte, Nat.reduceAdd]
    have s20 : (σ3 2).1 0 = n32 rm := by rw [z3]; simp only [w1_s, w1_a, w2_s, w2_a, w3_s, w3_a, tn, nt, tt, true_and, and_true, false_and, and_false, and_self, if_true, if_false, Nat.reduceEqDiff, reduceIte, Nat.reduceAdd]; exact m20
    have X : m_O_start N σ = (if n32 hn = n32 0 then some (w1 σ3 0 0 3) else some (w1 σ3 0 0 1)) := by
      rw [m_O_start, s1, if_pos eq00, show (0 : Int32) = n32 0 from rfl, x1, y1, bV_s, ff, z1, bV_s, m_S_isEmpty, s21]
      by_cases e : n32 hn = n32 0
      · rw [if_pos (show n32 hn = 0 from e), bI_s, if_neg (by decide), if_pos e]
      · rw [if_neg (show ¬ n32 hn = 0 from e), bI_s, if_pos rfl, if_neg e]
    obtain ⟨μ2, r1, r2, ⟨r3, r4, r5, r6, r7⟩, r8⟩ := reset_x (N := N) (μ := w1 μ 0 0 0) hN
    have fm2 : frM [0, 9, 10, 11, 12, 13] [10, 11, 12] μ μ2 := (frM.w1 (by decide)).tr (r2.mo (by decide) (by decide))
    have m2 : (μ2 0).1 2 = n32 c := by rw [fm2.1 2 (by decide)]; exact B1.1.2.1
    have m24 : ∀ v, ((w1 μ2 0 4 v) 0).1 2 = n32 c := fun v => by rw [w1_s, if_neg (by decide)]; exact m2
    have th2 : (μ2 0).1 0 = 0 := by rw [r2.1 0 (by decide), w0_0]
    have Y : m_M_start N μ = (if n32 c = 0 then m_M_start_41 N μ2 3 else m_M_start_41 N μ2 1) := by
      rw [m_M_start, s2, if_pos (by decide), m_M_start_13, w0_0, if_pos (by decide), r1, bV_s, m2]
    have tt' : ∀ v, ∀ t, t < 4 → ((w1 σ3 0 0 v) (7 + t)).2 = (σ (7 + t)).2 ∧ ∀ q, q ≠ 2 → ((w1 σ3 0 0 v) (7 + t)).1 q = (σ (7 + t)).1 q := fun v t ht => by
      obtain ⟨q1, q2⟩ := y7 t ht
      rw [w1_n (by omega), o3 _ (by omega)]
      exact ⟨by rw [q1, o1 _ (by omega)], fun q hq => by rw [q2 q hq, o1 _ (by omega)]⟩
    have bas' : ∀ (v : Int32) (μ' : SX), frM [0, 4, 9, 10, 11, 12, 13] [5, 6, 7, 10, 11, 12] μ μ' → Bas (w1 σ3 0 0 v) μ' c p := fun v μ' fm => by
      refine bas_fr hb ?_ ?_ ?_ ?_ (fau_fr B3 (fun t ht => (tt' v t ht).2 3 (by decide)) (fm.2 4 (by decide))) ⟨fm.1 1 (by decide), fm.1 2 (by decide), fm.1 3 (by decide), fm.1 8 (by decide)⟩ ⟨fm.2 1 (by decide), fm.2 2 (by decide), fm.2 3 (by decide)⟩
      · rw [w1_n (by decide), o3 1 (by decide), y2 1 (by omega), o1 1 (by omega)]
      · rw [w1_n (by decide), s20]; exact B6.symm
      · rw [w1_s, if_neg (by decide), o3 0 (by decide), y2 0 (by omega), x3]
      · unfold WR; rw [w1_n (by decide), o3 5 (by decide), y3 5 (by omega) (by omega), o1 5 (by omega), fm.1 5 (by decide), fm.1 6 (by decide), fm.1 7 (by decide)]; exact B2
    have ro' : ∀ (v : Int32) (k : Nat), k < 4 → ((w1 σ3 0 0 v) 0).2 1 k = n32 k := fun v k hk => by rw [w1_a, o3 0 (by decide), y2 0 (by omega)]; exact x4 k hk
    have tl' : ∀ (v : Int32) (μ' : SX), (∀ q, q < 4 → (μ' 0).2 10 q = n32 0) → TapesL (w1 σ3 0 0 v) μ' c (fun _ => 0) (fun _ => 0) (fun _ _ => 0) := fun v μ' hm t ht => by
      have := h2 t ht
      exact tap_0 (by rw [(tt' v t ht).2 0 (by decide)]; exact this.2.1.1) (by rw [(tt' v t ht).2 1 (by decide)]; exact this.1.1) (hm t ht)
    by_cases e : c = 0
    · have h0 : n32 hn = n32 0 := by rw [hn8.2.2.1 e]
      have c0 : n32 c = 0 := by rw [e]; rfl
      rw [if_pos h0] at X
      rw [if_pos c0, m_M_start_41, m24, if_pos c0] at Y
      have fm3 : frM [0, 4, 9, 10, 11, 12, 13] [5, 6, 7, 10, 11, 12] μ (w1 μ2 0 4 3) := (fm2.mo (by decide) (by decide)).tr (frM.w1 (by decide))
      refine ⟨0, w1 σ3 0 0 3, w1 μ2 0 4 3, by rw [m_L_start, X], Y, by rw [w1_s, if_neg (by decide)]; exact th2, c, p, bas' _ _ fm3, 3, by simp only [w1_s, w1_a, w2_s, w2_a, w3_s, w3_a, tn, nt, tt, true_and, and_true, false_and, and_false, and_self, if_true, if_false, Nat.reduceEqDiff, reduceIte, Nat.reduceAdd]; rfl, by simp only [w1_s, w1_a, w2_s, w2_a, w3_s, w3_a, tn, nt, tt, true_and, and_true, false_and, and_false, and_self, if_true, if_false, Nat.reduceEqDiff, reduceIte, Nat.reduceAdd]; rfl, Or.inr (Or.inl ⟨rfl, e, ?_, tl' _ _ (fun q hq => by rw [w1_a]; exact (r8 q hq).1), fun k hk => ⟨ro' _ k hk, by rw [w1_a]; exact (r8 k hk).2.2, hk⟩, by rw [w1_s, if_neg (by decide)]; exact r6⟩)⟩
      refine ⟨⟨by rw [w1_n (by decide), s21, hn8.2.2.1 e], by rw [w1_s, if_neg (by decide)]; exact r3, by omega⟩, ⟨by rw [w1_n (by decide), s22, hn8.2.2.1 e], by rw [w1_s, if_neg (by decide)]; exact r4, by omega⟩, fun k hk => by omega⟩
    · have hn1 := hn8.2.2.2 (by omega)
      have h0 : ¬ n32 hn = n32 0 := by rw [n32_eq (by omega) (by omega)]; omega
      have c0 : ¬ n32 c = 0 := by rw [l0, n32_eq (by omega) (by omega)]; omega
      rw [if_neg h0] at X
      rw [if_neg c0, m_M_start_41, m24, if_neg c0, show (0 : Int32) = n32 0 from rfl] at Y
      obtain ⟨μ3, u1, u2, u3, u4⟩ := s59_l (N := N) N 0 (w1 (w1 μ2 0 4 1) 0 12 1) (by omega) (by omega) (fun q hq => by omega)
      have g3 : frM [4, 12] [7, 11] μ2 μ3 := ((frM.w1 (by decide)).tr (frM.w1 (by decide))).tr (u2.mo (by decide) (by decide))
      obtain ⟨μ4, h', v1, v2, v3, v4, v5, v6⟩ := s84_l (N := N) B5 c150 N 0 μ3 (by omega) (by omega) (by omega) (by rw [g3.1 1 (by decide), fm2.1 1 (by decide)]; exact B7) (by rw [g3.1 2 (by decide)]; exact m2) (by rw [g3.1 9 (by decide)]; exact r3) (by rw [g3.1 10 (by decide)]; exact r4) (fun q hq => by omega)
      rw [← ehn] at v3
      subst v3
      rw [u1, v1] at Y
      have g4 : frM [4, 9, 10, 12] [5, 6, 7, 11] μ2 μ4 := (g3.mo (by decide) (by decide)).tr (v2.mo (by decide) (by decide))
      have fm4 : frM [0, 4, 9, 10, 11, 12, 13] [5, 6, 7, 10, 11, 12] μ μ4 := (fm2.mo (by decide) (by decide)).tr (g4.mo (by decide) (by decide))
      have ph4 : (μ4 0).1 4 = n32 1 := by rw [v2.1 4 (by decide), u2.1 4 (by decide)]; simp only [w1_s, w1_a, w2_s, w2_a, w3_s, w3_a, tn, nt, tt, true_and, and_true, false_and, and_false, and_self, if_true, if_false, Nat.reduceEqDiff, reduceIte, Nat.reduceAdd]; rfl
      have lv4 : (μ4 0).1 12 = n32 1 := by rw [v2.1 12 (by decide), u2.1 12 (by decide)]; simp only [w1_s, w1_a, w2_s, w2_a, w3_s, w3_a, tn, nt, tt, true_and, and_true, false_and, and_false, and_self, if_true, if_false, Nat.reduceEqDiff, reduceIte, Nat.reduceAdd]; rfl
      have a7 : ∀ q, q < 3 → (μ4 0).2 7 q = n32 1 := fun q hq => by rw [v2.2 7 (by decide)]; exact (u3 q hq).1
      have a11 : ∀ q, q < 3 → (μ4 0).2 11 q = n32 1 := fun q hq => by rw [v2.2 11 (by decide)]; exact (u3 q hq).2
      have a113 : (μ4 0).2 11 3 = n32 0 := by rw [v2.2 11 (by decide), u4]; simp only [w1_s, w1_a, w2_s, w2_a, w3_s, w3_a, tn, nt, tt, true_and, and_true, false_and, and_false, and_self, if_true, if_false, Nat.reduceEqDiff, reduceIte, Nat.reduceAdd]; exact (r8 3 (by omega)).2.1
      have dx : ∀ t, t < 3 → ((w1 σ3 0 0 1) (7 + t)).1 2 = n32 1 := fun t ht => by rw [w1_n (by omega), o3 _ (by omega)]; exact y8 t ht
      have dx3 : ((w1 σ3 0 0 1) (7 + 3)).1 2 = n32 0 := by rw [w1_n (by omega), o3 _ (by omega)]; exact y9
      have w4 : (w1 σ3 0 0 1) 4 = σ2 4 := by rw [w1_n (by decide), o3 4 (by decide)]
      refine ⟨0, w1 σ3 0 0 1, μ4, by rw [m_L_start, X], Y, by rw [g4.1 0 (by decide)]; exact th2, c, p, bas' _ _ fm4, 1, by simp only [w1_s, w1_a, w2_s, w2_a, w3_s, w3_a, tn, nt, tt, true_and, and_true, false_and, and_false, and_self, if_true, if_false, Nat.reduceEqDiff, reduceIte, Nat.reduceAdd]; rfl, ph4, Or.inr (Or.inr (Or.inl ⟨rfl, by omega, ?_⟩))⟩
      refine ⟨h', h', fun _ => 0, fun _ => 0, fun t => if t < 3 then 1 else 0, fun _ _ => 0, 1, 0, 1, 1, 1, 0, ?_, fun k hk => (v6 k hk).2, hn1, tl' _ _ (fun q hq => by rw [g4.2 10 (by decide)]; exact (r8 q hq).1), fun t ht => ?_, fun k hk => ⟨ro' _ k hk, by rw [g4.2 12 (by decide)]; exact (r8 k hk).2.2, hk⟩, ?_, ?_, ?_, rfl, by omega, by omega, ?_, ⟨rfl, rfl, rfl, rfl, rfl⟩, by show 0 + 0 + 0 + h' = h'; omega, rfl, fun _ => ⟨rfl, rfl⟩⟩
      · refine ⟨⟨by rw [w1_n (by decide), s21], v4, hn8.1⟩, ⟨by rw [w1_n (by decide), s22], v5, hn8.2.1⟩, fun k hk => ?_⟩
        rw [w1_n (by decide), (z4 k hk).1, (z4 k hk).2, (v6 k hk).1, (v6 k hk).2]
        exact ⟨rfl, rfl, ⟨k, by omega, rfl⟩, Or.inl rfl⟩
      · by_cases e3 : t < 3
        · dsimp only; rw [if_pos e3]; exact ⟨dx t e3, a11 t e3⟩
        · rw [show t = 3 by omega]; exact ⟨dx3, a113⟩
      · exact ⟨by rw [w4]; exact y4, by rw [w4]; exact y5, by rw [w4]; exact y6 0 (by omega), by rw [w4]; exact y6 1 (by omega), by rw [w4]; exact y6 2 (by omega), dx 0 (by omega), dx 1 (by omega), dx 2 (by omega)⟩
      · exact ⟨lv4, by rw [g4.1 13 (by decide)]; exact r7, a7 0 (by omega), a7 1 (by omega), a7 2 (by omega), a11 0 (by omega), a11 1 (by omega), a11 2 (by omega)⟩
      · rw [g4.1 11 (by decide)]; exact r5
      · exact Or.inl ⟨rfl, by decide, by decide⟩
  · have s1' : ¬ (σ 0).1 0 = 0 := s1
    refine ⟨1, σ, w1 μ 0 0 1, ?_, ?_, w0_0, R_w0 h⟩
    · rw [m_L_start, m_O_start, if_neg s1', xm_O_start, if_neg s1']; rfl
    · rw [m_M_start, if_neg (le0n s3), m_M_start_13, w0_0, if_neg (by decide)]
theorem clr_l {N : Nat} {v : Int32} : ∀ (n k : Nat) (σ : SX), k ≤ 4 → 4 - k < n → (∀ t, t < k → ∀ q, q < 4 → (σ (7 + t)).1 q = n32 0) →
    ∃ σ', m_O_clear_24 N n σ v (n32 k) = some (v, σ') ∧ (∀ j, 1 ≤ j → j < 5 → σ' j = σ j) ∧ ((σ' 5).1 0 = n32 0 ∧ (σ' 5).1 1 = n32 1 ∧ (σ' 5).1 2 = n32 0) ∧ ((σ' 0).1 0 = n32 0 ∧ (σ' 0).1 1 = n32 0) ∧ ∀ t, t < 4 → ∀ q, q < 4 → (σ' (7 + t)).1 q = n32 0 := by
  intro n
  induction n with
  | zero => intro k σ _ h; omega
  | succ n ih =>
    intro k σ k4 hn hq
    rw [m_O_clear_24, l4]
    by_cases e : k = 4
    · subst e
      rw [if_pos (show n32 4 ≤ n32 4 by decide), m_V_forgetAll, bV_s]
      refine ⟨_, rfl, fun j h1 h2 => ?_, ⟨?_, ?_, ?_⟩, ⟨?_, ?_⟩, fun t ht q hq' => ?_⟩
      · rw [w1_n (by omega), w1_n (by omega), w1_n (by omega), w1_n (by omega), w1_n (by omega)]
      · simp only [w1_s, w1_a, w2_s, w2_a, w3_s, w3_a, tn, nt, tt, true_and, and_true, false_and, and_false, and_self, if_true, if_false, Nat.reduceEqDiff, reduceIte, Nat.reduceAdd]; rfl
      · simp only [w1_s, w1_a, w2_s, w2_a, w3_s, w3_a, tn, nt, tt, true_and, and_true, false_and, and_false, and_self, if_true, if_false, Nat.reduceEqDiff, reduceIte, Nat.reduceAdd]; rfl
      · simp only [w1_s, w1_a, w2_s, w2_a, w3_s, w3_a, tn, nt, tt, true_and, and_true, false_and, and_false, and_self, if_true, if_false, Nat.reduceEqDiff, reduceIte, Nat.reduceAdd]; rfl
      · simp only [w1_s, w1_a, w2_s, w2_a, w3_s, w3_a, tn, nt, tt, true_and, and_true, false_and, and_false, and_self, if_true, if_false, Nat.reduceEqDiff, reduceIte, Nat.reduceAdd]; rfl
      · simp only [w1_s, w1_a, w2_s, w2_a, w3_s, w3_a, tn, nt, tt, true_and, and_true, false_and, and_false, and_self, if_true, if_false, Nat.reduceEqDiff, reduceIte, Nat.reduceAdd]; rfl
      · rw [w1_n (by omega), w1_n (by omega), w1_n (by omega), w1_n (by omega), w1_n (by omega)]; exact hq t ht q hq'
    · have nl : ¬ n32 4 ≤ n32 k := by rw [n32_le (by omega) (by omega)]; omega
      have ib : inb (n32 k) 4 = true := inbn (by omega) (by omega)
      rw [if_neg nl, if_pos ib, n32_cl (by omega), m_T_forgetAll, bV_s, show n32 k + 1 = n32 (k + 1) by rw [l1, n32_add]]
      obtain ⟨σ', y1, y2, y3, y4, y5⟩ := ih (k + 1) (w1 (w1 (w1 (w1 σ (7 + k) 0 0) (7 + k) 1 0) (7 + k) 2 0) (7 + k) 3 0) (by omega) (by omega) (fun t ht q hq' => by
        by_cases ek : t = k
        · subst ek
          rcases (show q = 0 ∨ q = 1 ∨ q = 2 ∨ q = 3 by omega) with rfl | rfl | rfl | rfl <;> (simp only [w1_s, w1_a, w2_s, w2_a, w3_s, w3_a, tn, nt, tt, true_and, and_true, false_and, and_false, and_self, if_true, if_false, Nat.reduceEqDiff, reduceIte, Nat.reduceAdd]; rfl)
        · rw [w1_n (by omega), w1_n (by omega), w1_n (by omega), w1_n (by omega)]; exact hq t (by omega) q hq')
      exact ⟨σ', y1, fun j h1 h2 => by rw [y2 j h1 h2, w1_n (by omega), w1_n (by omega), w1_n (by omega), w1_n (by omega)], y3, y4, y5⟩
theorem clrM_l {N : Nat} {v : Int32} : ∀ (n k : Nat) (μ : SX), k ≤ 4 → 4 - k < n → (∀ t, t < k → (μ 0).2 4 t = n32 0) →
    ∃ μ', m_M_clear_51 N n μ v (n32 k) = some (v, μ') ∧ frM [] [4] μ μ' ∧ ∀ t, t < 4 → (μ' 0).2 4 t = n32 0 := by
  intro n
  induction n with
  | zero => intro k σ _ h; omega
  | succ n ih =>
    intro k μ k4 hn hq
    rw [m_M_clear_51, l4]
    by_cases e : k = 4
    · subst e
      rw [if_pos (show n32 4 ≤ n32 4 by decide)]
      exact ⟨μ, rfl, frM.rf, hq⟩
    · have nl : ¬ n32 4 ≤ n32 k := by rw [n32_le (by omega) (by omega)]; omega
      have ib : inb (n32 k) 4 = true := inbn (by omega) (by omega)
      rw [if_neg nl, if_pos ib, show n32 k + 1 = n32 (k + 1) by rw [l1, n32_add]]
      obtain ⟨μ', y1, y2, y3⟩ := ih (k + 1) (w3 μ 0 4 (n32 k) 0) (by omega) (by omega) (fun q hq' => by
        simp (disch := omega) only [w1_s, w1_a, w2_s, w2_a, w3_s, w3_a, tn, nt, tt, true_and, and_true, false_and, and_false, and_self, if_true, if_false, Nat.reduceEqDiff, reduceIte, Nat.reduceAdd, n32_cl, upd_ap]
        by_cases ek : q = k
        · simp only [if_pos ek]; rfl
        · simp only [if_neg ek]; exact hq q (by omega))
      exact ⟨μ', y1, (frM.w3 (by decide)).tr y2, y3⟩
theorem clear_eq {N : Nat} {σ μ : SX} (hN : 200 ≤ N) (h : R σ μ) : ansI (m_O_clear N σ) (m_M_clear N μ) := by
  obtain ⟨c, p, hb, hc⟩ := id h
  obtain ⟨B1, B2, B3, ⟨rm, B4, B5, B6, B7⟩, B8⟩ := id hb
  rw [m_O_clear, m_D_cardCount, bI_s, m_D_forgetAll, bV_s, m_S_forgetAll, bV_s, m_M_clear, B1.1.1, w0_k (by decide), B1.1.2.1]
  obtain ⟨μ2, r1, r2, ⟨r3, r4, r5, r6, r7⟩, r8⟩ := reset_x (N := N) (μ := w1 μ 0 0 0) hN
  obtain ⟨σ', x1, x2, ⟨x3, x4, x5⟩, ⟨x6, x7⟩, x8⟩ := clr_l (N := N) (v := n32 c) N 0 (w1 (w1 (w1 (w1 σ 1 0 0) 1 1 0) 2 1 0) 2 2 0) (by omega) (by omega) (fun q hq => by omega)
  obtain ⟨μ', y1, y2, y3⟩ := clrM_l (N := N) (v := n32 c) N 0 (w1 (w1 (w1 (w1 (w1 (w1 (w1 μ2 0 2 0) 0 3 0) 0 4 0) 0 5 1) 0 6 (-1)) 0 7 0) 0 8 0) (by omega) (by omega) (fun q hq => by omega)
  rw [r1, bV_s, show (0 : Int32) = n32 0 from rfl]
  refine ⟨_, _, _, x1, y1, 0, 0, ⟨⟨⟨?_, ?_, by omega⟩, ⟨?_, ?_, by omega⟩, fun k hk => by omega, fun k hk => by omega⟩, ⟨?_, ?_, ?_, Or.inl ⟨x5, ?_⟩⟩, fun t ht => ⟨by rw [x8 t ht 3 (by omega), y3 t ht], 0, by omega, y3 t ht⟩, ⟨rm, B4, B5, ?_, ?_⟩, ?_⟩, 0, x6, ?_, Or.inl ⟨rfl, ⟨⟨?_, ?_, by omega⟩, ⟨?_, ?_, by omega⟩, fun k hk => by omega⟩, fun t ht => tap_0 (x8 t ht 0 (by omega)) (x8 t ht 1 (by omega)) ?_, fun t ht => ⟨x8 t ht 2 (by omega), ?_⟩, ?_⟩⟩
  · rw [x2 1 (by omega) (by omega)]; simp only [w1_s, w1_a, w2_s, w2_a, w3_s, w3_a, tn, nt, tt, true_and, and_true, false_and, and_false, and_self, if_true, if_false, Nat.reduceEqDiff, reduceIte, Nat.reduceAdd]; rfl
  · rw [y2.1 2 (by decide)]; simp only [w1_s, w1_a, w2_s, w2_a, w3_s, w3_a, tn, nt, tt, true_and, and_true, false_and, and_false, and_self, if_true, if_false, Nat.reduceEqDiff, reduceIte, Nat.reduceAdd]; rfl
  · rw [x2 1 (by omega) (by omega)]; simp only [w1_s, w1_a, w2_s, w2_a, w3_s, w3_a, tn, nt, tt, true_and, and_true, false_and, and_false, and_self, if_true, if_false, Nat.reduceEqDiff, reduceIte, Nat.reduceAdd]; rfl
  · rw [y2.1 3 (by decide)]; simp only [w1_s, w1_a, w2_s, w2_a, w3_s, w3_a, tn, nt, tt, true_and, and_true, false_and, and_false, and_self, if_true, if_false, Nat.reduceEqDiff, reduceIte, Nat.reduceAdd]; rfl
  · rw [x3, y2.1 7 (by decide)]; simp only [w1_s, w1_a, w2_s, w2_a, w3_s, w3_a, tn, nt, tt, true_and, and_true, false_and, and_false, and_self, if_true, if_false, Nat.reduceEqDiff, reduceIte, Nat.reduceAdd]; rfl
  · rw [x4, y2.1 5 (by decide)]; simp only [w1_s, w1_a, w2_s, w2_a, w3_s, w3_a, tn, nt, tt, true_and, and_true, false_and, and_false, and_self, if_true, if_false, Nat.reduceEqDiff, reduceIte, Nat.reduceAdd]; rfl
  · rw [y2.1 5 (by decide)]; simp only [w1_s, w1_a, w2_s, w2_a, w3_s, w3_a, tn, nt, tt, true_and, and_true, false_and, and_false, and_self, if_true, if_false, Nat.reduceEqDiff, reduceIte, Nat.reduceAdd]; exact Or.inr rfl
  · rw [y2.1 6 (by decide)]; simp only [w1_s, w1_a, w2_s, w2_a, w3_s, w3_a, tn, nt, tt, true_and, and_true, false_and, and_false, and_self, if_true, if_false, Nat.reduceEqDiff, reduceIte, Nat.reduceAdd]; rfl
  · rw [x2 2 (by omega) (by omega)]; simp only [w1_s, w1_a, w2_s, w2_a, w3_s, w3_a, tn, nt, tt, true_and, and_true, false_and, and_false, and_self, if_true, if_false, Nat.reduceEqDiff, reduceIte, Nat.reduceAdd]; exact B6
  · rw [y2.1 1 (by decide)]; simp only [w1_s, w1_a, w2_s, w2_a, w3_s, w3_a, tn, nt, tt, true_and, and_true, false_and, and_false, and_self, if_true, if_false, Nat.reduceEqDiff, reduceIte, Nat.reduceAdd]; rw [r2.1 1 (by decide)]; simp only [w1_s, w1_a, w2_s, w2_a, w3_s, w3_a, tn, nt, tt, true_and, and_true, false_and, and_false, and_self, if_true, if_false, Nat.reduceEqDiff, reduceIte, Nat.reduceAdd]; exact B7
  · rw [x7, y2.1 8 (by decide)]; simp only [w1_s, w1_a, w2_s, w2_a, w3_s, w3_a, tn, nt, tt, true_and, and_true, false_and, and_false, and_self, if_true, if_false, Nat.reduceEqDiff, reduceIte, Nat.reduceAdd]; rfl
  · rw [y2.1 4 (by decide)]; simp only [w1_s, w1_a, w2_s, w2_a, w3_s, w3_a, tn, nt, tt, true_and, and_true, false_and, and_false, and_self, if_true, if_false, Nat.reduceEqDiff, reduceIte, Nat.reduceAdd]; rfl
  · rw [x2 2 (by omega) (by omega)]; simp only [w1_s, w1_a, w2_s, w2_a, w3_s, w3_a, tn, nt, tt, true_and, and_true, false_and, and_false, and_self, if_true, if_false, Nat.reduceEqDiff, reduceIte, Nat.reduceAdd]; rfl
  · rw [y2.1 9 (by decide)]; simp only [w1_s, w1_a, w2_s, w2_a, w3_s, w3_a, tn, nt, tt, true_and, and_true, false_and, and_false, and_self, if_true, if_false, Nat.reduceEqDiff, reduceIte, Nat.reduceAdd]; exact r3
  · rw [x2 2 (by omega) (by omega)]; simp only [w1_s, w1_a, w2_s, w2_a, w3_s, w3_a, tn, nt, tt, true_and, and_true, false_and, and_false, and_self, if_true, if_false, Nat.reduceEqDiff, reduceIte, Nat.reduceAdd]; rfl
  · rw [y2.1 10 (by decide)]; simp only [w1_s, w1_a, w2_s, w2_a, w3_s, w3_a, tn, nt, tt, true_and, and_true, false_and, and_false, and_self, if_true, if_false, Nat.reduceEqDiff, reduceIte, Nat.reduceAdd]; exact r4
  · rw [y2.2 10 (by decide)]; simp only [w1_s, w1_a, w2_s, w2_a, w3_s, w3_a, tn, nt, tt, true_and, and_true, false_and, and_false, and_self, if_true, if_false, Nat.reduceEqDiff, reduceIte, Nat.reduceAdd]; exact (r8 t ht).1
  · rw [y2.2 11 (by decide)]; simp only [w1_s, w1_a, w2_s, w2_a, w3_s, w3_a, tn, nt, tt, true_and, and_true, false_and, and_false, and_self, if_true, if_false, Nat.reduceEqDiff, reduceIte, Nat.reduceAdd]; exact (r8 t ht).2.1
  · rw [y2.1 12 (by decide)]; simp only [w1_s, w1_a, w2_s, w2_a, w3_s, w3_a, tn, nt, tt, true_and, and_true, false_and, and_false, and_self, if_true, if_false, Nat.reduceEqDiff, reduceIte, Nat.reduceAdd]; exact r6
