/-! Layer B: the queries of both. -/
theorem core_t {σ μ : SX} {c : Nat} (h : Core σ μ c) : ∃ rn cn ls, TapesL σ μ c rn cn ls := by
  obtain ⟨st, a1, a2, a3⟩ := h
  rcases a3 with ⟨e, h1, h2, h3, h4⟩ | ⟨e, e2, h1, h2, h3, h4⟩ | ⟨e, e2, hn, nn, rn, cn, dn, ls, lv, pl, x, y, z, md, h1, h2, h3, h4, hh⟩ | ⟨e, e2, nn, rn, cn, dn, ls, lv, x, y, z, m, rl, h1, h2, hh⟩ | ⟨e, e2, nn, rn, cn, dn, ls, rl, h1, h2, hh⟩
  · exact ⟨_, _, _, h2⟩
  · exact ⟨_, _, _, h2⟩
  · exact ⟨_, _, _, h4⟩
  · exact ⟨_, _, _, h2⟩
  · exact ⟨_, _, _, h2⟩
theorem core_s {σ μ : SX} {c : Nat} (h : Core σ μ c) : ∃ hn nn, StR σ μ hn nn c := by
  obtain ⟨st, a1, a2, a3⟩ := h
  rcases a3 with ⟨e, h1, hh⟩ | ⟨e, e2, h1, hh⟩ | ⟨e, e2, hn, nn, rn, cn, dn, ls, lv, pl, x, y, z, md, h1, hh⟩ | ⟨e, e2, nn, rn, cn, dn, ls, lv, x, y, z, m, rl, h1, hh⟩ | ⟨e, e2, nn, rn, cn, dn, ls, rl, h1, hh⟩
  · exact ⟨_, _, h1⟩
  · exact ⟨_, _, h1⟩
  · exact ⟨_, _, h1⟩
  · exact ⟨_, _, h1⟩
  · exact ⟨_, _, h1⟩
theorem core_r {σ μ : SX} {c : Nat} (h : Core σ μ c) : ((σ 0).1 0 = n32 0 ∧ (μ 0).1 4 = n32 0) ∨ (¬ (σ 0).1 0 = n32 0 ∧ n32 0 < (μ 0).1 4 ∧ ∃ rl, RolR σ μ rl ∧ Perm4 rl) := by
  have pid : Perm4 (fun k => k) := ⟨by decide, by decide, by decide, by decide, by decide, by decide⟩
  obtain ⟨st, a1, a2, a3⟩ := h
  rw [a1, a2]
  rcases a3 with ⟨rfl, hh⟩ | ⟨rfl, e2, h1, h2, h3, h4⟩ | ⟨rfl, e2, hn, nn, rn, cn, dn, ls, lv, pl, x, y, z, md, h1, h2, h3, h4, h5, h6, hh⟩ | ⟨rfl, e2, nn, rn, cn, dn, ls, lv, x, y, z, m, rl, h1, h2, h3, h4, h5, hh⟩ | ⟨rfl, e2, nn, rn, cn, dn, ls, rl, h1, h2, h3, h4, h5, hh⟩
  · exact Or.inl ⟨rfl, rfl⟩
  · exact Or.inr ⟨by decide, by decide, _, h3, pid⟩
  · exact Or.inr ⟨by decide, by decide, _, h6, pid⟩
  · exact Or.inr ⟨by decide, by decide, _, h4, h5⟩
  · exact Or.inr ⟨by decide, by decide, _, h4, h5⟩
theorem phase_eq {N : Nat} {σ μ : SX} (h : R σ μ) : ansQ (m_O_phase N σ) (m_M_phase N μ) σ := by
  obtain ⟨c, p, hb, hc⟩ := id h
  obtain ⟨st, a1, a2, a3⟩ := id hc
  rw [m_O_phase, m_M_phase, pow_x hb.2.1, bI_s, w0_k (by decide), w0_k (by decide), a1, a2]
  by_cases e : (μ 0).1 5 = 0
  · rw [if_pos e, if_pos e]; exact ⟨_, _, rfl, rfl, R_w0 h⟩
  · rw [if_neg e, if_neg e]; exact ⟨_, _, rfl, rfl, R_w0 h⟩
theorem level_eq {N : Nat} {σ μ : SX} (h : R σ μ) : ansQ (m_O_level N σ) (m_M_level N μ) σ := by
  obtain ⟨c, p, hb, hc⟩ := id h
  obtain ⟨st, a1, a2, a3⟩ := id hc
  have d := hb.1.1.1
  have d2 := hb.1.1.2.2
  rw [m_O_level, m_M_level, m_D_cardCount, bI_s, m_P_height, bI_s, w0_k (by decide), a1, d]
  have nc : 1 ≤ c → ¬ n32 c = 0 := fun q => by rw [l0, n32_eq (by omega) (by omega)]; omega
  rcases a3 with ⟨rfl, h1, h2, h3, h4⟩ | ⟨rfl, e2, h1, h2, h3, h4⟩ | ⟨rfl, e2, hn, nn, rn, cn, dn, ls, lv, pl, x, y, z, md, h1, h2, h3, h4, h5, h6, h7, h8, hh⟩ | ⟨rfl, e2, nn, rn, cn, dn, ls, lv, x, y, z, m, rl, h1, h2, h3, h4, h5, h6, h7, hh⟩ | ⟨rfl, e2, nn, rn, cn, dn, ls, rl, h1, h2, h3, h4, h5, h6, h7⟩
  · rw [if_pos eq00, h4]; exact ⟨_, _, rfl, rfl, R_w0 h⟩
  · rw [if_neg (by decide), e2, if_pos eq00, h4]; exact ⟨_, _, rfl, rfl, R_w0 h⟩
  · rw [if_neg (by decide), if_neg (nc e2), h7.1, h8.1]; exact ⟨_, _, rfl, rfl, R_w0 h⟩
  · rw [if_neg (by decide), if_neg (nc e2), h6, h7]; exact ⟨_, _, rfl, rfl, R_w0 h⟩
  · rw [if_neg (by decide), if_neg (nc e2), h6, h7]; exact ⟨_, _, rfl, rfl, R_w0 h⟩
theorem runs_eq {N : Nat} {σ μ : SX} {a : Int32} (h : R σ μ) : ansQ (m_O_runs N σ a) (m_M_runs N μ a) σ := by
  obtain ⟨c, p, hb, hc⟩ := id h
  obtain ⟨rn, cn, ls, ht⟩ := core_t hc
  rw [m_O_runs, m_M_runs]
  rcases isT (a := a) with ⟨t1, t2⟩ | ⟨t, t4, rfl, t1, t2⟩
  · rw [t1, t2, bP_s, bP_s, if_pos eq00, if_pos eq00]; exact ⟨_, _, rfl, rfl, R_w0 h⟩
  · rw [t1, t2, bP_s, bP_s, if_neg ne10, if_neg ne10, if_pos (inbn (by omega) t4), if_pos (inbn (by omega) t4), n32_cl (by omega), m_T_runCount, bI_s, w1_a, (ht t t4).1.1, (ht t t4).1.2]
    exact ⟨_, _, rfl, rfl, R_w0 h⟩
theorem dums_eq {N : Nat} {σ μ : SX} {a : Int32} (h : R σ μ) : ∃ v w μ', m_O_dummies N σ a = some (v, σ) ∧ m_M_dummies N μ a = some (w, μ') ∧ R σ μ' := by
  rw [m_O_dummies, m_M_dummies]
  rcases isT (a := a) with ⟨t1, t2⟩ | ⟨t, t4, rfl, t1, t2⟩
  · rw [t1, t2, bP_s, bP_s, if_pos eq00, if_pos eq00]; exact ⟨_, _, _, rfl, rfl, R_w0 h⟩
  · rw [t1, t2, bP_s, bP_s, if_neg ne10, if_neg ne10, if_pos (inbn (by omega) t4), if_pos (inbn (by omega) t4), n32_cl (by omega), m_T_dummyCount, bI_s]
    exact ⟨_, _, _, rfl, rfl, R_w0 h⟩
theorem len_q {N : Nat} {σ μ : SX} {a b : Int32} (h : R σ μ) : ansQ (m_O_length N σ a b) (m_M_length N μ a b) σ := by
  obtain ⟨c, p, hb, hc⟩ := id h
  obtain ⟨rn, cn, ls, ht⟩ := core_t hc
  rw [m_O_length]
  rcases isT (a := a) with ⟨t1, t2⟩ | ⟨t, t4, rfl, t1, t2⟩
  · rw [m_M_length, t1, t2, bP_s, bP_s, if_pos eq00, if_pos eq00]; exact ⟨_, _, rfl, rfl, R_w0 h⟩
  · obtain ⟨x, x1, x2⟩ := len_eq (N := N) (a := b) (ht t t4) t4
    rw [t1, bP_s, if_neg ne10, if_pos (inbn (by omega) t4), n32_cl (by omega), x1, bI_s, x2]
    exact ⟨_, _, rfl, rfl, R_w0 h⟩
theorem at_q {N : Nat} {σ μ : SX} {a b d : Int32} (hN : 200 ≤ N) (h : R σ μ) : ansQ (m_O_at N σ a b d) (m_M_at N μ a b d) σ := by
  obtain ⟨c, p, hb, hc⟩ := id h
  obtain ⟨rn, cn, ls, ht⟩ := core_t hc
  rw [m_O_at]
  rcases isT (a := a) with ⟨t1, t2⟩ | ⟨t, t4, rfl, t1, t2⟩
  · rw [m_M_at, t1, t2, bP_s, bP_s, if_pos eq00, if_pos eq00]; exact ⟨_, _, rfl, rfl, R_w0 h⟩
  · obtain ⟨x, x1, x2⟩ := at_eq (N := N) (a := b) (b := d) hN (ht t t4) t4
    rw [t1, bP_s, if_neg ne10, if_pos (inbn (by omega) t4), n32_cl (by omega), x1, bI_s, x2]
    exact ⟨_, _, rfl, rfl, R_w0 h⟩
theorem rolX_s {N n k : Nat} {σ μ : SX} {rl : Nat → Nat} {a : Int32} (h : RolR σ μ rl) (hk : k < 4) : m_O_role_11 N (n + 1) σ a (n32 k) = if n32 (rl k) = a then some (n32 k, σ) else m_O_role_11 N n σ a (n32 (k + 1)) := by
  have nl : ¬ n32 4 ≤ n32 k := by rw [n32_le (by omega) (by omega)]; omega
  rw [m_O_role_11, l4, if_neg nl, if_pos (inbn (by omega) hk), n32_cl (by omega), (h k hk).1, l1, n32_add]
theorem rolM_s {N n k : Nat} {σ μ : SX} {rl : Nat → Nat} {a b : Int32} (h : RolR σ μ rl) (hp : ¬ (μ 0).1 4 ≤ 0) (hk : k < 4) : m_M_role_9 N (n + 1) μ a b (n32 k) = if n32 (rl k) = a then m_M_role_9 N n μ a (n32 k) (n32 (k + 1)) else m_M_role_9 N n μ a b (n32 (k + 1)) := by
  have nl : ¬ n32 4 ≤ n32 k := by rw [n32_le (by omega) (by omega)]; omega
  rw [m_M_role_9, l4, if_neg nl, if_neg hp, if_pos (inbn (by omega) hk), n32_cl (by omega), (h k hk).2.1, l1, n32_add]
theorem role_eq {N : Nat} {σ μ : SX} {a : Int32} (hN : 200 ≤ N) (h : R σ μ) : ansQ (m_O_role N σ a) (m_M_role N μ a) σ := by
  obtain ⟨c, p, hb, hc⟩ := id h
  obtain ⟨n, rfl⟩ : ∃ n, N = n + 5 := ⟨N - 5, by omega⟩
  obtain ⟨μ0, e0'⟩ : ∃ m, m = w1 μ 0 0 0 := ⟨_, rfl⟩
  have hR : R σ μ0 := e0' ▸ R_w0 h
  have k4 : (μ0 0).1 4 = (μ 0).1 4 := by rw [e0', w0_k (by decide)]
  rw [m_M_role, ← e0', show (0 : Int32) = n32 0 from rfl]
  rcases core_r hc with ⟨s1, s2⟩ | ⟨s1, s2, rl, hr, hp⟩
  · have s1' : (σ 0).1 0 = 0 := s1
    have stp : ∀ m k, k < 4 → m_M_role_9 (n + 5) (m + 1) μ0 a mi (n32 k) = m_M_role_9 (n + 5) m μ0 a mi (n32 (k + 1)) := fun m k hk => by
      have nl : ¬ n32 4 ≤ n32 k := by rw [n32_le (by omega) (by omega)]; omega
      rw [m_M_role_9, l4, if_neg nl, k4, s2, if_pos (by decide), l1, n32_add]
    refine ⟨mi, μ0, ?_, ?_, hR⟩
    · rw [m_O_role, if_pos s1']; rfl
    · rw [lm1, stp _ 0 (by omega), stp _ 1 (by omega), stp _ 2 (by omega), stp _ 3 (by omega), m_M_role_9, if_pos (by decide)]
  · have s1' : ¬ (σ 0).1 0 = 0 := s1
    have hr' : RolR σ μ0 rl := fun t ht => by rw [e0', w1_a]; exact hr t ht
    have hp' : ¬ (μ0 0).1 4 ≤ 0 := by rw [k4]; exact le0n s2
    have ex : ∀ i j, i < 4 → j < 4 → rl i ≠ rl j → n32 (rl i) = a → ¬ n32 (rl j) = a := fun i j hi hj ne e1 e2 => ne (n32_inj (by have := (hr i hi).2.2; omega) (by have := (hr j hj).2.2; omega) (e1.trans e2.symm))
    obtain ⟨pa, pb, pc, pd, pe, pf⟩ := hp
    rw [m_O_role, if_neg s1', lm1, show (0 : Int32) = n32 0 from rfl, rolX_s hr (by omega), rolX_s hr (by omega), rolX_s hr (by omega), rolX_s hr (by omega), m_O_role_11, if_pos (show (4 : Int32) ≤ n32 4 by decide), rolM_s hr' hp' (by omega)]
    have fin : ∀ m b, m_M_role_9 (n + 5) (m + 1) μ0 a b (n32 4) = some (b, μ0) := fun m b => by rw [m_M_role_9, if_pos (by decide)]
    by_cases e0 : n32 (rl 0) = a
    · rw [if_pos e0, if_pos e0, rolM_s hr' hp' (by omega), if_neg (ex 0 1 (by omega) (by omega) pa e0), rolM_s hr' hp' (by omega), if_neg (ex 0 2 (by omega) (by omega) pb e0), rolM_s hr' hp' (by omega), if_neg (ex 0 3 (by omega) (by omega) pc e0), fin]
      exact ⟨_, _, rfl, rfl, hR⟩
    rw [if_neg e0, if_neg e0, rolM_s hr' hp' (by omega)]
    by_cases e1 : n32 (rl 1) = a
    · rw [if_pos e1, if_pos e1, rolM_s hr' hp' (by omega), if_neg (ex 1 2 (by omega) (by omega) pd e1), rolM_s hr' hp' (by omega), if_neg (ex 1 3 (by omega) (by omega) pe e1), fin]
      exact ⟨_, _, rfl, rfl, hR⟩
    rw [if_neg e1, if_neg e1, rolM_s hr' hp' (by omega)]
    by_cases e2 : n32 (rl 2) = a
    · rw [if_pos e2, if_pos e2, rolM_s hr' hp' (by omega), if_neg (ex 2 3 (by omega) (by omega) pf e2), fin]
      exact ⟨_, _, rfl, rfl, hR⟩
    rw [if_neg e2, if_neg e2, rolM_s hr' hp' (by omega)]
    by_cases e3 : n32 (rl 3) = a
    · rw [if_pos e3, if_pos e3, fin]
      exact ⟨_, _, rfl, rfl, hR⟩
    · rw [if_neg e3, if_neg e3, fin]
      exact ⟨_, _, rfl, rfl, hR⟩
theorem mem1 {N : Nat} {μ : SX} {hn : Nat} {a : Int32} (h8 : hn ≤ 8) (hh : (μ 0).1 9 = n32 hn) : ∀ n k, k ≤ hn → hn - k < n → m_M_memory_9 N n μ a (n32 1) (n32 k) = some (n32 1, μ) := by
  intro n
  induction n with
  | zero => intro k _ h; omega
  | succ n ih =>
    intro k k1 hn'
    rw [m_M_memory_9, hh]
    by_cases e : k = hn
    · rw [e, if_pos (by rw [n32_le (by omega) (by omega)]; omega), if_pos (show isB (n32 1) = true from rfl)]
    · rw [if_neg (by rw [n32_le (by omega) (by omega)]; omega), if_neg ne10, l1, n32_add]
      exact ih (k + 1) (by omega) (by omega)
theorem mem_l {N : Nat} {σ μ : SX} {hn nn c : Nat} {a : Int32} (h : StR σ μ hn nn c) : ∀ n k, k ≤ hn → hn - k < n → ∃ r, (r = n32 0 ∨ r = n32 1) ∧ m_S_holds_2 N 2 n σ a (n32 k) = some (r, σ) ∧ m_M_memory_9 N n μ a (n32 0) (n32 k) = some (r, μ) := by
  obtain ⟨⟨a1, a2, a3⟩, -, a4⟩ := h
  intro n
  induction n with
  | zero => intro k _ h; omega
  | succ n ih =>
    intro k k1 hn'
    rw [m_S_holds_2, m_M_memory_9, a1, a2]
    by_cases e : k = hn
    · have le : n32 hn ≤ n32 hn := by rw [n32_le (by omega) (by omega)]; omega
      rw [e, if_pos le, if_pos le, if_pos (show isB (n32 0) = true from rfl)]
      exact ⟨n32 0, Or.inl rfl, rfl, rfl⟩
    · have nle : ¬ n32 hn ≤ n32 k := by rw [n32_le (by omega) (by omega)]; omega
      have ib : inb (n32 k) 8 = true := inbn (by omega) (by omega)
      rw [if_neg nle, if_neg nle, if_pos ib, if_pos eq00, if_pos ib, n32_cl (by omega), (a4 k (by omega)).1, l1, n32_add]
      by_cases e2 : (μ 0).2 5 k = a
      · rw [if_pos e2, if_pos e2, mem1 a3 a2 n (k + 1) (by omega) (by omega)]
        exact ⟨n32 1, Or.inr rfl, rfl, rfl⟩
      · rw [if_neg e2, if_neg e2]; exact ih (k + 1) (by omega) (by omega)
theorem mem_eq {N : Nat} {σ μ : SX} {a : Int32} (hN : 200 ≤ N) (h : R σ μ) : ansQ (m_O_memory N σ a) (m_M_memory N μ a) σ := by
  obtain ⟨c, p, hb, hc⟩ := id h
  obtain ⟨hn, nn, hs⟩ := core_s hc
  have hs' : StR σ (w1 μ 0 0 0) hn nn c := by unfold StR; simp only [w1_s, w1_a, w2_s, w2_a, w3_s, w3_a, tn, nt, tt, true_and, and_true, false_and, and_false, and_self, if_true, if_false, Nat.reduceEqDiff, reduceIte, Nat.reduceAdd]; exact hs
  obtain ⟨r, r1, r2, r3⟩ := mem_l (N := N) (a := a) hs' N 0 (by omega) (by have := hs.1.2.2; omega)
  have bv : isB r = true := by rcases r1 with rfl | rfl <;> rfl
  rw [m_O_memory, m_S_holds, m_M_memory]
  exact ⟨r, _, by rw [show (0 : Int32) = n32 0 from rfl, r2, bI_s, if_pos bv], r3, R_w0 h⟩
theorem wri_eq {N : Nat} {σ μ : SX} (h : R σ μ) : ansQ (m_O_written N σ) (m_M_written N μ) σ := by
  obtain ⟨c, p, hb, hc⟩ := id h
  rw [m_O_written, m_V_total, bI_s, m_M_written, w0_k (by decide), hb.2.1.1]
  exact ⟨_, _, rfl, rfl, R_w0 h⟩
theorem bro_eq {N : Nat} {σ μ : SX} (h : R σ μ) : ansQ (m_O_broken N σ) (m_M_broken N μ) σ := by
  obtain ⟨c, p, hb, hc⟩ := id h
  rw [m_O_broken, m_M_broken, w0_k (by decide), hb.2.2.2.2]
  exact ⟨_, _, rfl, rfl, R_w0 h⟩
theorem hasX {N : Nat} {σ μ : SX} {c p : Nat} {a : Int32} (h : DkR σ μ c p) : (m_D_hasCard N σ a = some (n32 0, σ) ∧ m_M_isCard N μ a = some (n32 0, μ)) ∨ (m_D_hasCard N σ a = some (n32 1, σ) ∧ m_M_isCard N μ a = some (n32 1, μ) ∧ ∃ q, q < c ∧ a = n32 q) := by
  rw [m_D_hasCard, m_M_isCard, h.1.1, h.1.2.1]
  by_cases e : a < 0
  · rw [if_pos e, if_pos e]; exact Or.inl ⟨rfl, rfl⟩
  · obtain ⟨q, hq, rfl⟩ := ge0 e
    have := h.1.2.2
    by_cases e2 : c ≤ q
    · have le : n32 c ≤ n32 q := by rw [n32_le (by omega) (by omega)]; exact e2
      rw [if_neg e, if_neg e, if_pos le, if_pos le]; exact Or.inl ⟨rfl, rfl⟩
    · have le : ¬ n32 c ≤ n32 q := by rw [n32_le (by omega) (by omega)]; exact e2
      rw [if_neg e, if_neg e, if_neg le, if_neg le]; exact Or.inr ⟨rfl, rfl, q, by omega, rfl⟩
theorem com_eq {N : Nat} {σ μ : SX} {a b : Int32} (hN : 200 ≤ N) (h : R σ μ) : ansQ (m_O_compare N σ a b) (m_M_compare N μ a b) σ := by
  obtain ⟨c, p, hb, hc⟩ := id h
  have hd := (bas_w0 (v := 0) hb).1
  rw [m_O_compare, m_M_compare]
  by_cases e : a = b
  · subst e
    rw [if_pos rfl]
    refine ⟨0, w1 μ 0 0 0, rfl, ?_, R_w0 h⟩
    rcases hasX (N := N) (a := a) hd with ⟨x1, x2⟩ | ⟨x1, x2, -⟩
    · rw [x2, bI_s, if_pos eq00]
    · rw [x2, bI_s, if_neg ne10, bI_s, if_neg ne10, if_pos rfl]
  · rw [if_neg e]
    rcases hasX (N := N) (a := a) hd with ⟨x1, x2⟩ | ⟨x1, x2, x3⟩
    · rw [x1, x2, bI_s, bI_s, if_pos eq00, if_pos eq00]; exact ⟨_, _, rfl, rfl, R_w0 h⟩
    · rw [x1, x2, bI_s, bI_s, if_neg ne10, if_neg ne10]
      rcases hasX (N := N) (a := b) hd with ⟨y1, y2⟩ | ⟨y1, y2, y3⟩
      · rw [y1, y2, bI_s, bI_s, if_pos eq00, if_pos eq00]; exact ⟨_, _, rfl, rfl, R_w0 h⟩
      · rw [y1, y2, bI_s, bI_s, if_neg ne10, if_neg ne10, if_neg e]
        obtain ⟨r, r1, r2, r3⟩ := cmp_eq (N := N) (by omega) hd x3 y3
        rw [r2, r3, bI_s, bI_s]
        by_cases e3 : r = 0
        · rw [if_pos e3, if_pos e3]; exact ⟨_, _, rfl, rfl, R_w0 h⟩
        · rw [if_neg e3, if_neg e3]; exact ⟨_, _, rfl, rfl, R_w0 h⟩
theorem fld_eq {N : Nat} {σ μ : SX} {a b : Int32} (h : R σ μ) : ansQ (m_O_field N σ a b) (m_M_field N μ a b) σ := by
  obtain ⟨c, p, hb, hc⟩ := id h
  have hd := (bas_w0 (v := 0) hb).1
  rw [m_O_field, m_M_field]
  rcases hasX (N := N) (a := a) hd with ⟨x1, x2⟩ | ⟨x1, x2, q, hq, rfl⟩
  · rw [m_D_value, x1, x2, bI_s, bI_s, if_pos eq00, if_pos eq00, bI_s]; exact ⟨_, _, rfl, rfl, R_w0 h⟩
  · have c150 := hd.1.2.2
    rw [x2, bI_s, if_neg ne10]
    by_cases e : b < 0
    · rw [m_D_value, x1, bI_s, if_neg ne10, m_O_isField, if_pos e, bP_s, if_pos rfl, bI_s, if_pos e]; exact ⟨_, _, rfl, rfl, R_w0 h⟩
    · obtain ⟨f, hf, rfl⟩ := ge0 e
      by_cases e2 : 2 ≤ f
      · rw [m_D_value, x1, bI_s, if_neg ne10, m_O_isField, if_neg e, if_pos (by rw [l2, n32_le (by omega) (by omega)]; exact e2), bP_s, if_pos rfl, bI_s, if_neg e, if_pos (by rw [l1, n32_lt (by omega) (by omega)]; omega)]
        exact ⟨_, _, rfl, rfl, R_w0 h⟩
      · rw [val_eq hd hq (by omega), bI_s, if_neg e, if_neg (by rw [l1, n32_lt (by omega) (by omega)]; omega), l2, n32_mul, n32_add, if_pos (inbn (by omega) (by omega)), n32_cl (by omega)]
        exact ⟨_, _, rfl, rfl, R_w0 h⟩
theorem sor_eq {N : Nat} {σ μ : SX} {a : Int32} (hN : 200 ≤ N) (h : R σ μ) : ansQ (m_O_sorted N σ a) (m_M_sorted N μ a) σ := by
  obtain ⟨c, p, hb, hc⟩ := id h
  have cm := hb.1.1.2.1
  have c150 := hb.1.1.2.2
  rw [m_O_sorted, m_M_sorted, w0_k (by decide), w0_k (by decide), cm]
  obtain ⟨st, a1, a2, a3⟩ := id hc
  rw [a1, a2]
  have no : (st = 0 ∨ st = 1 ∨ st = 2) → ansQ (if n32 st = 3 then (bR (m_O_tapeInRole N σ 0) fun x10 σ10 => (bI (m_T_cardOfRun N σ x10 0 a) fun r15 σ15 => some (r15, σ))) else some ((-1), σ)) (if n32 st = 3 then (if n32 c ≤ 0 then some ((-1), (w1 μ 0 0 0)) else (bI (m_M_at N (w1 μ 0 0 0) (((w1 μ 0 0 0) 0).2 12 (0 : Int32).toNatClampNeg) 0 a) fun r29 σ29 => some (r29, σ29))) else some ((-1), (w1 μ 0 0 0))) σ := fun q => by
    have ne : ¬ n32 st = 3 := by rw [l3, n32_eq (by omega) (by omega)]; omega
    rw [if_neg ne, if_neg ne]; exact ⟨_, _, rfl, rfl, R_w0 h⟩
  rcases a3 with ⟨e, hh⟩ | ⟨rfl, e2, h1, h2, h3, h4⟩ | ⟨e, hh⟩ | ⟨e, hh⟩ | ⟨rfl, e2, nn, rn, cn, dn, ls, rl, h1, h2, h3, h4, h5, hh⟩
  · exact no (Or.inl e)
  · rw [if_pos (show n32 3 = 3 from rfl), if_pos (show n32 3 = 3 from rfl), e2, if_pos (by decide), show (0 : Int32) = n32 0 from rfl, rol_x h3 (by omega), bR_s]
    have t0 := h2 0 (by omega)
    have rl0 : m_T_runLength N σ 0 (n32 0) = some (-1, σ) := by
      rw [m_T_runLength, if_neg (by decide), t0.1.1, if_pos (by decide)]
    refine ⟨-1, _, ?_, rfl, R_w0 h⟩
    rw [m_T_cardOfRun]
    by_cases e3 : a < 0
    · rw [if_pos e3, bI_s]
    · rw [if_neg e3]
      obtain ⟨q, hq, rfl⟩ := ge0 e3
      rw [rl0, bI_s, if_neg (by rw [Int32.lt_iff_toInt_lt, lm1, mi_ti, n32_ti hq]; omega), bI_s]
  · exact no (Or.inr (Or.inl e))
  · exact no (Or.inr (Or.inr e))
  · obtain ⟨r1, r2, r3⟩ := h4 0 (by omega)
    have cn0 : ¬ n32 c ≤ 0 := by rw [l0, n32_le (by omega) (by omega)]; omega
    have c0 : (0 : Int32).toNatClampNeg = 0 := by decide
    obtain ⟨x, x1, x2⟩ := at_eq (N := N) (a := 0) (b := a) hN (ta_w0 (v := 0) (h2 (rl 0) r3)) r3
    rw [if_pos (show n32 3 = 3 from rfl), if_pos (show n32 3 = 3 from rfl), if_neg cn0, c0, w1_a, r2, x2, bI_s, show m_O_tapeInRole N σ 0 = some (rl 0, σ) from rol_x h4 (k := 0) (by omega), bR_s, x1, bI_s]
    exact ⟨_, _, rfl, rfl, R_w0 (R_w0 h)⟩
