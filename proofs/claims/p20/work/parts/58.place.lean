/-! Layer B: where the next run goes. -/
def PlX (σ : SX) (lv pl x y z d0 d1 d2 : Nat) : Prop := (σ 4).1 0 = n32 lv ∧ (σ 4).1 1 = n32 pl ∧ (σ 4).2 1 0 = n32 x ∧ (σ 4).2 1 1 = n32 y ∧ (σ 4).2 1 2 = n32 z ∧ (σ 7).1 2 = n32 d0 ∧ (σ 8).1 2 = n32 d1 ∧ (σ 9).1 2 = n32 d2
def PlM (μ : SX) (lv pl x y z d0 d1 d2 : Nat) : Prop := (μ 0).1 12 = n32 lv ∧ (μ 0).1 13 = n32 pl ∧ (μ 0).2 7 0 = n32 x ∧ (μ 0).2 7 1 = n32 y ∧ (μ 0).2 7 2 = n32 z ∧ (μ 0).2 11 0 = n32 d0 ∧ (μ 0).2 11 1 = n32 d1 ∧ (μ 0).2 11 2 = n32 d2
/-- tapes change but in their dummies -/
def frD (σ σ' : SX) : Prop := ∀ j, 7 ≤ j → (σ' j).2 = (σ j).2 ∧ ∀ k, k ≠ 2 → (σ' j).1 k = (σ j).1 k
theorem frD.tr {σ σ' σ'' : SX} (h : frD σ σ') (h2 : frD σ' σ'') : frD σ σ'' := fun j hj => ⟨(h2 j hj).1.trans (h j hj).1, fun k hk => ((h2 j hj).2 k hk).trans ((h j hj).2 k hk)⟩
theorem frD.rf {σ : SX} : frD σ σ := fun _ _ => ⟨rfl, fun _ _ => rfl⟩
theorem frD.d {σ : SX} {j : Nat} {v : Int32} : frD σ (w1 σ j 2 v) := fun i hi => ⟨w1_a, fun k hk => by rw [w1_s, if_neg (fun e : i = j ∧ k = 2 => hk e.2)]⟩
theorem frD.o {σ : SX} {j k : Nat} {v : Int32} (h : j < 7) : frD σ (w1 σ j k v) := fun i hi => by rw [w1_n (by omega)]; exact ⟨rfl, fun _ _ => rfl⟩
theorem frD.p {σ : SX} {j k : Nat} {i v : Int32} (h : j < 7) : frD σ (w3 σ j k i v) := fun i hi => by rw [w3_n (by omega)]; exact ⟨rfl, fun _ _ => rfl⟩
def fpd (x z : Int32) (s : SX) : SX := w1 (w3 s 0 11 2 (((s 0).2 11 (2 : Int32).toNatClampNeg + x) - z)) 0 13 0
def fpc (x y z : Int32) (s : SX) : SX := fpd x z (w3 s 0 11 1 ((((s 0).2 11 (1 : Int32).toNatClampNeg + x) + z) - y))
def fpb (x y z : Int32) (s : SX) : SX := fpc x y z (w3 s 0 11 0 ((s 0).2 11 (0 : Int32).toNatClampNeg + y))
def fpa (x y z : Int32) (s : SX) : SX := fpb x y z (w3 (w3 (w3 s 0 7 0 (x + y)) 0 7 1 (x + z)) 0 7 2 x)
def fpS (s : SX) : SX := fpa ((s 0).2 7 (0 : Int32).toNatClampNeg) ((s 0).2 7 (1 : Int32).toNatClampNeg) ((s 0).2 7 (2 : Int32).toNatClampNeg) s
theorem fp_def {N : Nat} {μ : SX} : m_M_findPlace_42 N μ = (if inb ((μ 0).1 13) 4 = true then (if ((μ 0).2 11 ((μ 0).1 13).toNatClampNeg) = 0 then some (fpS (w1 μ 0 12 (((μ 0).1 12) + 1))) else some (w1 μ 0 13 0)) else none) := rfl
theorem goUp_eq {N : Nat} {σ : SX} {lv pl x y z d0 d1 d2 : Nat} (h : PlX σ lv pl x y z d0 d1 d2) (hz : z ≤ x) (hy : y ≤ x) :
    ∃ σ', m_P_goUp N σ = some σ' ∧ frX [4, 7, 8, 9] σ σ' ∧ frD σ σ' ∧ PlX σ' (lv + 1) pl (x + y) (x + z) x (d0 + y) (d1 + (x + z - y)) (d2 + (x - z)) := by
  obtain ⟨a1, a2, a3, a4, a5, a6, a7, a8⟩ := h
  have c0 : (0 : Int32).toNatClampNeg = 0 := rfl
  have c1 : (1 : Int32).toNatClampNeg = 1 := rfl
  have c2 : (2 : Int32).toNatClampNeg = 2 := rfl
  have i0 : inb 0 4 = true := rfl
  have i1 : inb 1 4 = true := rfl
  have i2 : inb 2 4 = true := rfl
  have j0 : inb 0 3 = true := rfl
  have j1 : inb 1 3 = true := rfl
  have j2 : inb 2 3 = true := rfl
  rw [m_P_goUp]
  simp (disch := omega) only [m_P_growTo, m_T_addDummies, c0, c1, c2, i0, i1, i2, j0, j1, j2, if_true, bV_s, a1, a3, a4, a5, n32_add, n32_sub, l1, w1_s, w1_a, w2_s, w2_a, w3_s, w3_a, tn, nt, tt, true_and, and_true, false_and, and_false, and_self, if_true, if_false, Nat.reduceEqDiff, reduceIte, Nat.reduceAdd, upd_ap]
  simp (disch := omega) only [w1_s, w1_a, w2_s, w2_a, w3_s, w3_a, tn, nt, tt, true_and, and_true, false_and, and_false, and_self, if_true, if_false, Nat.reduceEqDiff, reduceIte, Nat.reduceAdd, upd_ap, a3, a4, a5, a6, a7, a8, n32_add, n32_sub, c0, c1, c2, Nat.add_sub_cancel_left]
  refine ⟨_, rfl, ?_, ?_, ?_⟩
  · exact ((((((frX.w1 (by decide)).tr (frX.w1 (by decide))).tr (frX.w3 (by decide))).tr (frX.w1 (by decide))).tr (frX.w3 (by decide))).tr (frX.w1 (by decide))).tr (frX.w3 (by decide))
  · exact ((((((frD.o (by decide)).tr frD.d).tr (frD.p (by decide))).tr frD.d).tr (frD.p (by decide))).tr frD.d).tr (frD.p (by decide))
  · refine ⟨?_, ?_, ?_, ?_, ?_, ?_, ?_, ?_⟩ <;> simp (disch := omega) only [w1_s, w1_a, w2_s, w2_a, w3_s, w3_a, tn, nt, tt, true_and, and_true, false_and, and_false, and_self, if_true, if_false, Nat.reduceEqDiff, reduceIte, Nat.reduceAdd, upd_ap, c0, c1, c2, l1, n32_cl, a2, a3, a4, a5, a6, a7, a8, n32_add, n32_sub, Nat.add_sub_cancel_left]
theorem fpS_eq {μ : SX} {lv pl x y z d0 d1 d2 : Nat} (h : PlM μ lv pl x y z d0 d1 d2) (hz : z ≤ x) (hy : y ≤ x) :
    frM [12, 13] [7, 11] μ (fpS (w1 μ 0 12 ((μ 0).1 12 + 1))) ∧ ((fpS (w1 μ 0 12 ((μ 0).1 12 + 1))) 0).2 11 3 = (μ 0).2 11 3 ∧ PlM (fpS (w1 μ 0 12 ((μ 0).1 12 + 1))) (lv + 1) 0 (x + y) (x + z) x (d0 + y) (d1 + (x + z - y)) (d2 + (x - z)) := by
  obtain ⟨a1, a2, a3, a4, a5, a6, a7, a8⟩ := h
  have c0 : (0 : Int32).toNatClampNeg = 0 := rfl
  have c1 : (1 : Int32).toNatClampNeg = 1 := rfl
  have c2 : (2 : Int32).toNatClampNeg = 2 := rfl
  refine ⟨?_, ?_, ?_⟩
  · unfold fpS fpa fpb fpc fpd
    exact (((((((frM.w1 (by decide)).tr (frM.w3 (by decide))).tr (frM.w3 (by decide))).tr (frM.w3 (by decide))).tr (frM.w3 (by decide))).tr (frM.w3 (by decide))).tr (frM.w3 (by decide))).tr (frM.w1 (by decide))
  · unfold fpS fpa fpb fpc fpd
    simp only [w1_s, w1_a, w2_s, w2_a, w3_s, w3_a, tn, nt, tt, true_and, and_true, false_and, and_false, and_self, if_true, if_false, Nat.reduceEqDiff, reduceIte, Nat.reduceAdd, upd_ap, c0, c1, c2]
  · unfold fpS fpa fpb fpc fpd
    have e1 : d1 + x + z - y = d1 + (x + z - y) := by omega
    have e2 : d2 + x - z = d2 + (x - z) := by omega
    refine ⟨?_, ?_, ?_, ?_, ?_, ?_, ?_, ?_⟩ <;> simp (disch := omega) only [w1_s, w1_a, w2_s, w2_a, w3_s, w3_a, tn, nt, tt, true_and, and_true, false_and, and_false, and_self, if_true, if_false, Nat.reduceEqDiff, reduceIte, Nat.reduceAdd, upd_ap, c0, c1, c2, a1, a3, a4, a5, a6, a7, a8, l1, l0, n32_add, n32_sub, n32_cl, e1, e2]
/-- the rule of the place -/
def PR (pl d0 d1 d2 : Nat) : Prop := (pl = 0 ∧ d1 ≤ d0 + 1 ∧ d2 ≤ d1) ∨ (pl = 1 ∧ d0 = d1 ∧ d2 ≤ d1 + 1) ∨ (pl = 2 ∧ d0 = d1 ∧ d1 = d2)
def PlO (pl lv x y z d0 d1 d2 pl' lv' x' y' z' e0 e1 e2 : Nat) : Prop :=
      ((pl' = 1 ∧ pl = 0 ∧ d1 = d0 + 1 ∧ d2 ≤ d1 ∧ lv' = lv ∧ x' = x ∧ y' = y ∧ z' = z ∧ e0 = d0 ∧ e1 = d1 ∧ e2 = d2) ∨ (pl' = 2 ∧ pl = 1 ∧ d0 = d1 ∧ d2 = d1 + 1 ∧ lv' = lv ∧ x' = x ∧ y' = y ∧ z' = z ∧ e0 = d0 ∧ e1 = d1 ∧ e2 = d2) ∨
       (pl' = 0 ∧ 1 ≤ d0 ∧ d1 ≤ d0 ∧ d2 ≤ d1 ∧ lv' = lv ∧ x' = x ∧ y' = y ∧ z' = z ∧ e0 = d0 ∧ e1 = d1 ∧ e2 = d2) ∨
       (pl' = 0 ∧ d0 = 0 ∧ d1 = 0 ∧ d2 = 0 ∧ lv' = lv + 1 ∧ x' = x + y ∧ y' = x + z ∧ z' = x ∧ e0 = y ∧ e1 = x + z - y ∧ e2 = x - z))
theorem place_eq {N : Nat} {σ μ : SX} {lv pl x y z d0 d1 d2 : Nat} (h : PlX σ lv pl x y z d0 d1 d2) (hm : PlM μ lv pl x y z d0 d1 d2) (hz : z ≤ x) (hy : y ≤ x) (hd0 : d0 ≤ 150) (hd1 : d1 ≤ 150) (hd2 : d2 ≤ 150) (hp : PR pl d0 d1 d2) :
    ∃ pl' lv' x' y' z' e0 e1 e2 σ' μ', m_P_placeOfNextRun N σ = some (n32 pl', σ') ∧ m_M_findPlace N μ = some μ' ∧ frX [4, 7, 8, 9] σ σ' ∧ frD σ σ' ∧ frM [12, 13] [7, 11] μ μ' ∧ (μ' 0).2 11 3 = (μ 0).2 11 3 ∧ PlX σ' lv' pl' x' y' z' e0 e1 e2 ∧ PlM μ' lv' pl' x' y' z' e0 e1 e2 ∧
      PlO pl lv x y z d0 d1 d2 pl' lv' x' y' z' e0 e1 e2 := by
  obtain ⟨σ1, u1, u2, u3, u4⟩ := goUp_eq (N := N) h hz hy
  obtain ⟨v1, v3, v2⟩ := fpS_eq hm hz hy
  obtain ⟨a1, a2, a3, a4, a5, a6, a7, a8⟩ := id h
  obtain ⟨b1, b2, b3, b4, b5, b6, b7, b8⟩ := id hm
  have up : ∀ k : Nat, k ≤ 2 → m_P_placeOfNextRun_50 N σ (n32 0) = some (n32 0, w1 σ1 4 1 (n32 0)) := fun k _ => by
    rw [m_P_placeOfNextRun_50, u1]
    simp (disch := omega) only [l0, l1, l2, l3, l4, l8, l20, l150, l300, l1000, ↓lm1, n32_lt, n32_le, n32_eq, n32_inb, n32_cl, n32_add, mi_lt, mi_le, n_le_mi, n_eq_mi, mi_eq_n, bV_s, if_true, w1_s, w1_a, w2_s, w2_a, w3_s, w3_a, tn, nt, tt, true_and, and_true, false_and, and_false, and_self, if_true, if_false, Nat.reduceEqDiff, reduceIte, Nat.reduceAdd]
  have st : ∀ k : Nat, 1 ≤ k → k ≤ 150 → m_P_placeOfNextRun_50 N σ (n32 k) = some (n32 0, w1 σ 4 1 (n32 0)) := fun k h1 h2 => by
    rw [m_P_placeOfNextRun_50, l0, if_neg (by rw [n32_eq (by omega) (by omega)]; omega)]
    simp only [w1_s, w1_a, w2_s, w2_a, w3_s, w3_a, tn, nt, tt, true_and, and_true, false_and, and_false, and_self, if_true, if_false, Nat.reduceEqDiff, reduceIte, Nat.reduceAdd]
  have X1 : ∀ k : Nat, PlX (w1 σ 4 1 (n32 k)) lv k x y z d0 d1 d2 := fun k => by
    refine ⟨?_, ?_, ?_, ?_, ?_, ?_, ?_, ?_⟩ <;> simp only [w1_s, w1_a, w2_s, w2_a, w3_s, w3_a, tn, nt, tt, true_and, and_true, false_and, and_false, and_self, if_true, if_false, Nat.reduceEqDiff, reduceIte, Nat.reduceAdd, a1, a3, a4, a5, a6, a7, a8]
  have M1 : ∀ k : Nat, PlM (w1 μ 0 13 (n32 k)) lv k x y z d0 d1 d2 := fun k => by
    refine ⟨?_, ?_, ?_, ?_, ?_, ?_, ?_, ?_⟩ <;> simp only [w1_s, w1_a, w2_s, w2_a, w3_s, w3_a, tn, nt, tt, true_and, and_true, false_and, and_false, and_self, if_true, if_false, Nat.reduceEqDiff, reduceIte, Nat.reduceAdd, b1, b3, b4, b5, b6, b7, b8]
  have X2 : PlX (w1 σ1 4 1 (n32 0)) (lv + 1) 0 (x + y) (x + z) x (d0 + y) (d1 + (x + z - y)) (d2 + (x - z)) := by
    obtain ⟨q1, q2, q3, q4, q5, q6, q7, q8⟩ := u4
    refine ⟨?_, ?_, ?_, ?_, ?_, ?_, ?_, ?_⟩ <;> simp only [w1_s, w1_a, w2_s, w2_a, w3_s, w3_a, tn, nt, tt, true_and, and_true, false_and, and_false, and_self, if_true, if_false, Nat.reduceEqDiff, reduceIte, Nat.reduceAdd, q1, q3, q4, q5, q6, q7, q8]
  have F1 : ∀ k : Nat, frX [4, 7, 8, 9] σ (w1 σ 4 1 (n32 k)) ∧ frD σ (w1 σ 4 1 (n32 k)) ∧ frM [12, 13] [7, 11] μ (w1 μ 0 13 (n32 k)) := fun k => ⟨frX.w1 (by decide), frD.o (by decide), frM.w1 (by decide)⟩
  have G : ∀ k : Nat, ((w1 μ 0 13 (n32 k)) 0).2 11 3 = (μ 0).2 11 3 := fun k => by simp only [w1_s, w1_a, w2_s, w2_a, w3_s, w3_a, tn, nt, tt, true_and, and_true, false_and, and_false, and_self, if_true, if_false, Nat.reduceEqDiff, reduceIte, Nat.reduceAdd]
  have F2 : frX [4, 7, 8, 9] σ (w1 σ1 4 1 (n32 0)) ∧ frD σ (w1 σ1 4 1 (n32 0)) := ⟨u2.tr (frX.w1 (by decide)), u3.tr (frD.o (by decide))⟩
  have s50 : ∀ k : Nat, 1 ≤ k → k ≤ 150 → pl < 4 → (μ 0).2 11 pl = n32 k → m_M_findPlace_42 N μ = some (w1 μ 0 13 (n32 0)) := fun k h1 h2 h3 h4 => by
    rw [fp_def, b2]
    simp (disch := omega) only [l0, l1, l2, l3, l4, l8, l20, l150, l300, l1000, ↓lm1, n32_lt, n32_le, n32_eq, n32_inb, n32_cl, n32_add, mi_lt, mi_le, n_le_mi, n_eq_mi, mi_eq_n, h4]
    rw [if_pos h3, if_neg (by omega)]
  have u50 : pl < 4 → (μ 0).2 11 pl = n32 0 → m_M_findPlace_42 N μ = some (fpS (w1 μ 0 12 ((μ 0).1 12 + 1))) := fun h3 h4 => by
    rw [fp_def, b2, n32_cl (by omega), h4, if_pos (inbn (by omega) h3), if_pos eq00]
  rw [m_P_placeOfNextRun, m_M_findPlace, a2, b2]
  rcases hp with ⟨rfl, p1, p2⟩ | ⟨rfl, p1, p2⟩ | ⟨rfl, p1, p2⟩
  · simp (disch := omega) only [l0, l1, l2, l3, l4, l8, l20, l150, l300, l1000, ↓lm1, n32_lt, n32_le, n32_eq, n32_inb, n32_cl, n32_add, mi_lt, mi_le, n_le_mi, n_eq_mi, mi_eq_n, m_T_dummyCount, bI_s, a6, a7, b6, b7, Nat.reduceAdd, Nat.reduceLT, Nat.reduceLeDiff, if_true, if_false, w1_s, w1_a, w2_s, w2_a, w3_s, w3_a, tn, nt, tt, true_and, and_true, false_and, and_false, and_self, if_true, if_false, Nat.reduceEqDiff, reduceIte, Nat.reduceAdd]
    by_cases e : d1 ≤ d0
    · rw [if_pos e, if_pos e]
      by_cases e2 : d0 = 0
      · subst e2
        rw [up 0 (by omega), u50 (by omega) b6]
        exact ⟨0, lv + 1, x + y, x + z, x, y, x + z - y, x - z, _, _, rfl, rfl, F2.1, F2.2, v1, v3, by rw [show d1 = 0 by omega, show d2 = 0 by omega, Nat.zero_add, Nat.zero_add, Nat.zero_add] at X2; exact X2, by rw [show d1 = 0 by omega, show d2 = 0 by omega, Nat.zero_add, Nat.zero_add, Nat.zero_add] at v2; exact v2, by unfold PlO; omega⟩
      · rw [st d0 (by omega) (by omega), s50 d0 (by omega) (by omega) (by omega) b6]
        exact ⟨0, lv, x, y, z, d0, d1, d2, _, _, rfl, rfl, (F1 0).1, (F1 0).2.1, (F1 0).2.2, G 0, X1 0, M1 0, by unfold PlO; omega⟩
    · rw [if_neg e, if_neg e]
      exact ⟨1, lv, x, y, z, d0, d1, d2, _, _, rfl, rfl, (F1 1).1, (F1 1).2.1, (F1 1).2.2, G 1, X1 1, M1 1, by unfold PlO; omega⟩
  · simp (disch := omega) only [l0, l1, l2, l3, l4, l8, l20, l150, l300, l1000, ↓lm1, n32_lt, n32_le, n32_eq, n32_inb, n32_cl, n32_add, mi_lt, mi_le, n_le_mi, n_eq_mi, mi_eq_n, m_T_dummyCount, bI_s, a7, a8, b7, b8, Nat.reduceAdd, Nat.reduceLT, Nat.reduceLeDiff, if_true, if_false, w1_s, w1_a, w2_s, w2_a, w3_s, w3_a, tn, nt, tt, true_and, and_true, false_and, and_false, and_self, if_true, if_false, Nat.reduceEqDiff, reduceIte, Nat.reduceAdd]
    by_cases e : d2 ≤ d1
    · rw [if_pos e, if_pos e]
      by_cases e2 : d1 = 0
      · subst e2
        rw [up 0 (by omega), u50 (by omega) b7]
        exact ⟨0, lv + 1, x + y, x + z, x, y, x + z - y, x - z, _, _, rfl, rfl, F2.1, F2.2, v1, v3, by rw [show d0 = 0 by omega, show d2 = 0 by omega, Nat.zero_add, Nat.zero_add, Nat.zero_add] at X2; exact X2, by rw [show d0 = 0 by omega, show d2 = 0 by omega, Nat.zero_add, Nat.zero_add, Nat.zero_add] at v2; exact v2, by unfold PlO; omega⟩
      · rw [st d1 (by omega) (by omega), s50 d1 (by omega) (by omega) (by omega) b7]
        exact ⟨0, lv, x, y, z, d0, d1, d2, _, _, rfl, rfl, (F1 0).1, (F1 0).2.1, (F1 0).2.2, G 0, X1 0, M1 0, by unfold PlO; omega⟩
    · rw [if_neg e, if_neg e]
      exact ⟨2, lv, x, y, z, d0, d1, d2, _, _, rfl, rfl, (F1 2).1, (F1 2).2.1, (F1 2).2.2, G 2, X1 2, M1 2, by unfold PlO; omega⟩
  · simp (disch := omega) only [l0, l1, l2, l3, l4, l8, l20, l150, l300, l1000, ↓lm1, n32_lt, n32_le, n32_eq, n32_inb, n32_cl, n32_add, mi_lt, mi_le, n_le_mi, n_eq_mi, mi_eq_n, m_T_dummyCount, bI_s, a8, b8, Nat.reduceAdd, Nat.reduceLT, Nat.reduceLeDiff, if_true, if_false, w1_s, w1_a, w2_s, w2_a, w3_s, w3_a, tn, nt, tt, true_and, and_true, false_and, and_false, and_self, if_true, if_false, Nat.reduceEqDiff, reduceIte, Nat.reduceAdd]
    by_cases e2 : d2 = 0
    · subst e2
      rw [up 0 (by omega), u50 (by omega) b8]
      exact ⟨0, lv + 1, x + y, x + z, x, y, x + z - y, x - z, _, _, rfl, rfl, F2.1, F2.2, v1, v3, by rw [show d0 = 0 by omega, show d1 = 0 by omega, Nat.zero_add, Nat.zero_add, Nat.zero_add] at X2; exact X2, by rw [show d0 = 0 by omega, show d1 = 0 by omega, Nat.zero_add, Nat.zero_add, Nat.zero_add] at v2; exact v2, by unfold PlO; omega⟩
    · rw [st d2 (by omega) (by omega), s50 d2 (by omega) (by omega) (by omega) b8]
      exact ⟨0, lv, x, y, z, d0, d1, d2, _, _, rfl, rfl, (F1 0).1, (F1 0).2.1, (F1 0).2.2, G 0, X1 0, M1 0, by unfold PlO; omega⟩
/-- where the next run goes, and that the rule stays when it is laid there -/
def PlN (pl e0 e1 e2 : Nat) : Prop := (pl = 0 ∧ 1 ≤ e0 ∧ PR 0 (e0 - 1) e1 e2) ∨ (pl = 1 ∧ 1 ≤ e1 ∧ PR 1 e0 (e1 - 1) e2) ∨ (pl = 2 ∧ 1 ≤ e2 ∧ PR 2 e0 e1 (e2 - 1))
