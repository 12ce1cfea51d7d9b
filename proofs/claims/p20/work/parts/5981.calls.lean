/-! Layer B: further calls of both. -/
def pd1 (μ : SX) (v : Int32) : SX := w3 μ 0 2 ((μ 0).1 3) v
def pd2 (μ : SX) (v : Int32) : SX := w3 μ 0 3 ((μ 0).1 3) v
def pd3 (μ : SX) : SX := w1 μ 0 3 ((μ 0).1 3 + 1)
theorem part_d {N : Nat} {μ : SX} {a b s : Int32} : m_M_part_43 N μ a b s = (if (((w1 μ 0 0 s) 0).1 0) ≤ 0 then (if inb (((w1 μ 0 0 s) 0).1 3) 3 = true then (if inb ((pd1 (w1 μ 0 0 s) a 0).1 3) 3 = true then some ((pd3 (pd2 (pd1 (w1 μ 0 0 s) a) b) 0).1 3, pd3 (pd2 (pd1 (w1 μ 0 0 s) a) b)) else none) else none) else some (0, (w1 μ 0 0 s))) := rfl
def ap1 (σ : SX) (v : Int32) : SX := w3 σ 1 3 ((σ 1).1 1) v
def ap2' (σ : SX) (v : Int32) : SX := w3 σ 1 4 ((σ 1).1 1) v
def ap3' (σ : SX) : SX := w1 σ 1 1 ((σ 1).1 1 + 1)
theorem apart_d {N : Nat} {σ : SX} {a b : Int32} : m_D_addPart N σ a b = (bI (m_D_keyIsFull N σ) fun r1 σ1 => (if r1 = 0 then (if inb ((σ 1).1 1) 3 = true then (if inb ((ap1 σ a 1).1 1) 3 = true then some ((ap3' (ap2' (ap1 σ a) b) 1).1 1, ap3' (ap2' (ap1 σ a) b)) else none) else none) else some (((σ 1).1 1), σ))) := rfl
theorem w0_k {μ : SX} {v : Int32} {k : Nat} (h : k ≠ 0) : ((w1 μ 0 0 v) 0).1 k = (μ 0).1 k := by rw [w1_s, if_neg (fun e => h e.2)]
theorem lt0 {a : Int32} (h : a < 0) : ¬ 0 ≤ a := by
  rw [Int32.lt_iff_toInt_lt] at h; rw [Int32.le_iff_toInt_le]; omega
theorem part_eq {N : Nat} {σ μ : SX} {a b : Int32} {f : Nat → Int64} (h : R σ μ) : ansL (m_L_part N σ f a b) (m_M_part N μ a b) σ f := by
  obtain ⟨c, p, hb, hc⟩ := id h
  obtain ⟨⟨d3, ⟨d1, d2, d4⟩, d5, d6⟩, hb'⟩ := id hb
  have bad1 : m_O_part N σ a b = none → xm_O_part N σ a b = some 1 → m_M_part N μ a b = m_M_part_19 N μ a b → ansL (m_L_part N σ f a b) (m_M_part N μ a b) σ f := fun q1 q2 q3 => by
    refine Or.inr ⟨1, 0, w1 μ 0 0 1, by decide, ?_, ?_, w0_0, R_w0 h⟩
    · rw [m_L_part, q1, q2]; rfl
    · rw [q3, m_M_part_19, part_d, w0_0]; rfl
  have bad2 : m_O_part N σ a b = none → xm_O_part N σ a b = some 0 → m_M_part N μ a b = m_M_part_38 N μ a b → ansL (m_L_part N σ f a b) (m_M_part N μ a b) σ f := fun q1 q2 q3 => by
    refine Or.inr ⟨2, 0, w1 μ 0 0 2, by decide, ?_, ?_, w0_0, R_w0 h⟩
    · rw [m_L_part, q1, q2]; rfl
    · rw [q3, m_M_part_38, part_d, w0_0]; rfl
  by_cases ea : a < 0
  · refine bad1 ?_ ?_ ?_
    · rw [m_O_part, m_O_isField, if_pos ea, bP_s, if_pos rfl]
    · rw [xm_O_part, m_O_isField, if_pos ea, bP_s, if_pos rfl]
    · rw [m_M_part, if_pos ea]
  obtain ⟨x, hx, rfl⟩ := ge0 ea
  by_cases ex : 2 ≤ x
  · have q : (2 : Int32) ≤ n32 x := by rw [l2, n32_le (by omega) (by omega)]; exact ex
    have q2 : (1 : Int32) < n32 x := by rw [l1, n32_lt (by omega) (by omega)]; omega
    refine bad1 ?_ ?_ ?_
    · rw [m_O_part, m_O_isField, if_neg ea, if_pos q, bP_s, if_pos rfl]
    · rw [xm_O_part, m_O_isField, if_neg ea, if_pos q, bP_s, if_pos rfl]
    · rw [m_M_part, if_neg ea, if_pos q2]
  have fO : m_O_isField (n32 x) = some 1 := by rw [m_O_isField, if_neg ea, if_neg (by rw [l2, n32_le (by omega) (by omega)]; omega)]
  have fM : ¬ (1 : Int32) < n32 x := by rw [l1, n32_lt (by omega) (by omega)]; omega
  have n1 : ¬ (1 : Int32) = 0 := by decide
  rw [show m_M_part N μ (n32 x) b = (if b < 0 then m_M_part_19 N μ (n32 x) b else (if b ≤ 3 then (if 0 < ((μ 0).1 4) then m_M_part_38 N μ (n32 x) b else (if ((μ 0).1 3) = 3 then m_M_part_38 N μ (n32 x) b else m_M_part_43 N μ (n32 x) b 0)) else m_M_part_19 N μ (n32 x) b)) by rw [m_M_part, if_neg ea, if_neg fM]] at bad1 bad2 ⊢
  rw [show m_O_part N σ (n32 x) b = (if b < 0 then none else (if b < 4 then (if ((σ 0).1 0) = 0 then (bI (m_D_keyIsFull N σ) fun r35 σ35 => (if r35 = 0 then (bI (m_D_addPart N σ (n32 x) b) fun r55 σ55 => some (r55, σ55)) else none)) else none) else none)) by rw [m_O_part, fO, bP_s, if_neg n1], show xm_O_part N σ (n32 x) b = (if b < 0 then some 1 else (if b < 4 then (if ((σ 0).1 0) = 0 then (bI (m_D_keyIsFull N σ) fun r35 σ35 => (if r35 = 0 then none else some 0)) else some 0) else some 1)) by rw [xm_O_part, fO, bP_s, if_neg n1]] at bad1 bad2
  by_cases eb : b < 0
  · exact bad1 (if_pos eb) (if_pos eb) (if_pos eb)
  obtain ⟨y, hy, rfl⟩ := ge0 eb
  by_cases ey : 4 ≤ y
  · have q : ¬ n32 y < (4 : Int32) := by rw [l4, n32_lt (by omega) (by omega)]; omega
    have q2 : ¬ n32 y ≤ (3 : Int32) := by rw [l3, n32_le (by omega) (by omega)]; omega
    exact bad1 (by rw [if_neg eb, if_neg q]) (by rw [if_neg eb, if_neg q]) (by rw [if_neg eb, if_neg q2])
  have q : n32 y < (4 : Int32) := by rw [l4, n32_lt (by omega) (by omega)]; omega
  have q2 : n32 y ≤ (3 : Int32) := by rw [l3, n32_le (by omega) (by omega)]; omega
  rcases st_0 hc with ⟨s1, s2, s3⟩ | ⟨s1, s2, s3⟩
  · have s1' : (σ 0).1 0 = 0 := s1
    have s2' : ¬ 0 < (μ 0).1 4 := by rw [s2]; decide
    by_cases e : p < 3
    · have cl : (n32 p).toNatClampNeg = p := n32_cl (by omega)
      have f0 : m_D_keyIsFull N σ = some (0, σ) := by rw [m_D_keyIsFull, d1, l3, if_pos (by rw [n32_lt (by omega) (by omega)]; exact e)]
      have u1 : ∀ k, (ap1 σ (n32 x) k).1 = (σ k).1 := fun k => by rw [ap1, w3_s]
      have u2 : ∀ k, (ap2' (ap1 σ (n32 x)) (n32 y) k).1 = (σ k).1 := fun k => by rw [ap2', w3_s, u1]
      have ib : inb (n32 p) 3 = true := inbn (by omega) e
      have v1 : (ap3' (ap2' (ap1 σ (n32 x)) (n32 y)) 1).1 1 = n32 (p + 1) := by rw [ap3', w1_s, if_pos ⟨rfl, rfl⟩, u2, d1, l1, n32_add]
      have X : m_O_part N σ (n32 x) (n32 y) = some (n32 (p + 1), ap3' (ap2' (ap1 σ (n32 x)) (n32 y))) := by
        rw [m_O_part, fO, bP_s, if_neg n1, if_neg eb, if_pos q, if_pos s1', f0, bI_s, if_pos rfl, apart_d, f0, bI_s, if_pos rfl, u1, d1, if_pos ib, if_pos ib, bI_s, v1]
      obtain ⟨μ0, e0⟩ : ∃ m, m = w1 μ 0 0 0 := ⟨_, rfl⟩
      have m2 : (μ0 0).1 3 = n32 p := by rw [e0, w1_s, if_neg (by decide)]; exact d2
      have m0 : (μ0 0).1 0 = 0 := by rw [e0, w0_0]
      have y1 : ∀ k, (pd1 μ0 (n32 x) k).1 = (μ0 k).1 := fun k => by rw [pd1, w3_s]
      have y2 : ∀ k, (pd2 (pd1 μ0 (n32 x)) (n32 y) k).1 = (μ0 k).1 := fun k => by rw [pd2, w3_s, y1]
      have z1 : (pd3 (pd2 (pd1 μ0 (n32 x)) (n32 y)) 0).1 3 = n32 (p + 1) := by rw [pd3, w1_s, if_pos ⟨rfl, rfl⟩, y2, m2, l1, n32_add]
      have Y : (if n32 y < 0 then m_M_part_19 N μ (n32 x) (n32 y) else (if n32 y ≤ 3 then (if 0 < ((μ 0).1 4) then m_M_part_38 N μ (n32 x) (n32 y) else (if ((μ 0).1 3) = 3 then m_M_part_38 N μ (n32 x) (n32 y) else m_M_part_43 N μ (n32 x) (n32 y) 0)) else m_M_part_19 N μ (n32 x) (n32 y))) = some (n32 (p + 1), pd3 (pd2 (pd1 μ0 (n32 x)) (n32 y))) := by
        rw [if_neg eb, if_pos q2, if_neg s2', d2, if_neg (show ¬ n32 p = (3 : Int32) by rw [l3, n32_eq (by omega) (by omega)]; omega), part_d, ← e0, m0, if_pos (by decide), y1, m2, if_pos ib, if_pos ib, z1]
      have fX : frX [1] σ (ap3' (ap2' (ap1 σ (n32 x)) (n32 y))) := ((frX.w3 (by decide)).tr (frX.w3 (by decide))).tr (frX.w1 (by decide))
      have fM : frM [0, 3] [2, 3] μ (pd3 (pd2 (pd1 μ0 (n32 x)) (n32 y))) := by
        rw [e0]; exact (((frM.w1 (by decide)).tr (frM.w3 (by decide))).tr (frM.w3 (by decide))).tr (frM.w1 (by decide))
      have A1 : (pd3 (pd2 (pd1 μ0 (n32 x)) (n32 y)) 0).2 2 = upd ((μ 0).2 2) p (n32 x) := by
        rw [pd3, w1_a, pd2, w3_a, if_neg (by decide), pd1, w3_a, if_pos ⟨rfl, rfl⟩, m2, cl, e0, w1_a]
      have A1' : (pd3 (pd2 (pd1 μ0 (n32 x)) (n32 y)) 0).2 3 = upd ((μ 0).2 3) p (n32 y) := by
        rw [pd3, w1_a, pd2, w3_a, if_pos ⟨rfl, rfl⟩, y1, m2, cl, pd1, w3_a, if_neg (by decide), e0, w1_a]
      have A2 : (ap3' (ap2' (ap1 σ (n32 x)) (n32 y)) 1).2 3 = upd ((σ 1).2 3) p (n32 x) := by
        rw [ap3', w1_a, ap2', w3_a, if_neg (by decide), ap1, w3_a, if_pos ⟨rfl, rfl⟩, d1, cl]
      have A3 : (ap3' (ap2' (ap1 σ (n32 x)) (n32 y)) 1).2 4 = upd ((σ 1).2 4) p (n32 y) := by
        rw [ap3', w1_a, ap2', w3_a, if_pos ⟨rfl, rfl⟩, u1, d1, cl, ap1, w3_a, if_neg (by decide)]
      have A4 : ∀ k, k < 3 → (ap3' (ap2' (ap1 σ (n32 x)) (n32 y)) 1).2 k = (σ 1).2 k := fun k hk => by
        rw [ap3', w1_a, ap2', w3_a, if_neg (by omega), ap1, w3_a, if_neg (by omega)]
      have A5 : (ap3' (ap2' (ap1 σ (n32 x)) (n32 y)) 1).1 0 = (σ 1).1 0 := by rw [ap3', w1_s, if_neg (by decide), u2]
      have hxx : n32 x = n32 0 ∨ n32 x = n32 1 := by
        rcases (show x = 0 ∨ x = 1 by omega) with rfl | rfl
        · exact Or.inl rfl
        · exact Or.inr rfl
      have hyy : n32 y = n32 0 ∨ n32 y = n32 1 ∨ n32 y = n32 2 ∨ n32 y = n32 3 := by
        rcases (show y = 0 ∨ y = 1 ∨ y = 2 ∨ y = 3 by omega) with rfl | rfl | rfl | rfl
        · exact Or.inl rfl
        · exact Or.inr (Or.inl rfl)
        · exact Or.inr (Or.inr (Or.inl rfl))
        · exact Or.inr (Or.inr (Or.inr rfl))
      refine Or.inl ⟨n32 (p + 1), ap3' (ap2' (ap1 σ (n32 x)) (n32 y)), pd3 (pd2 (pd1 μ0 (n32 x)) (n32 y)), by rw [m_L_part, X], Y, ?_, c, p + 1, ?_, ?_⟩
      · rw [pd3, w1_s, if_neg (by decide), y2, m0]
      · refine ⟨⟨⟨by rw [A5]; exact d3.1, by rw [fM.1 2 (by decide)]; exact d3.2.1, d3.2.2⟩, ⟨v1, z1, by omega⟩, fun k hk => ?_, fun k hk => ?_⟩, ?_, fau_fr hb'.2.1 (fun t ht => by rw [fX (7 + t) (by simp; omega)]) (fM.2 4 (by decide)), ?_, ?_⟩
        · rw [A4 1 (by omega), A4 2 (by omega), fM.2 1 (by decide)]; exact d5 k hk
        · rw [A1, A1', A2, A3, upd_ap, upd_ap, upd_ap, upd_ap]
          by_cases ek : k = p
          · rw [if_pos ek, if_pos ek, if_pos ek, if_pos ek]; exact ⟨rfl, rfl, hxx, hyy⟩
          · rw [if_neg ek, if_neg ek, if_neg ek, if_neg ek]; exact d6 k (by omega)
        · unfold WR; rw [fX 5 (by decide), fM.1 5 (by decide), fM.1 6 (by decide), fM.1 7 (by decide)]; exact hb'.1
        · obtain ⟨rm, r1, r2, r3, r4⟩ := hb'.2.2.1
          exact ⟨rm, r1, r2, by rw [fX 2 (by decide)]; exact r3, by rw [fM.1 1 (by decide)]; exact r4⟩
        · rw [fX 0 (by decide), fM.1 8 (by decide)]; exact hb'.2.2.2
      · exact core_fr hc (by rw [fX 0 (by decide)]) (by rw [fX 0 (by decide)]) (fX 2 (by decide)) (fX 4 (by decide)) (fun t ht => by rw [fX (7 + t) (by simp; omega)]; exact ⟨rfl, fun _ _ => rfl⟩) (fM.mo (by decide) (by decide))
    · have f0 : m_D_keyIsFull N σ = some (1, σ) := by rw [m_D_keyIsFull, d1, l3, if_neg (by rw [n32_lt (by omega) (by omega)]; exact e)]
      have p3 : (μ 0).1 3 = 3 := by rw [d2, show p = 3 by omega]; rfl
      exact bad2 (by rw [if_neg eb, if_pos q, if_pos s1', f0, bI_s, if_neg n1]) (by rw [if_neg eb, if_pos q, if_pos s1', f0, bI_s, if_neg n1]) (by rw [if_neg eb, if_pos q2, if_neg s2', if_pos p3])
  · have s1' : ¬ (σ 0).1 0 = 0 := s1
    have s3' : 0 < (μ 0).1 4 := s3
    exact bad2 (by rw [if_neg eb, if_pos q, if_neg s1']) (by rw [if_neg eb, if_pos q, if_neg s1']) (by rw [if_neg eb, if_pos q2, if_pos s3'])
theorem fault_eq {N : Nat} {σ μ : SX} {a b : Int32} {f : Nat → Int64} (h : R σ μ) : ansL (m_L_fault N σ f a b) (m_M_fault N μ a b) σ f := by
  obtain ⟨c, p, hb, hc⟩ := id h
  have bad : m_O_fault N σ a b = none → xm_O_fault N σ a b = some 1 → m_M_fault N μ a b = m_M_fault_18 N μ a b → ansL (m_L_fault N σ f a b) (m_M_fault N μ a b) σ f := fun q1 q2 q3 => by
    refine Or.inr ⟨1, 0, w1 μ 0 0 1, by decide, ?_, ?_, w0_0, R_w0 h⟩
    · rw [m_L_fault, q1, q2]; rfl
    · rw [q3, m_M_fault_18, m_M_fault_23, w0_0]; rfl
  rcases isT (a := a) with ⟨t1, t2⟩ | ⟨t, t4, rfl, t1, t2⟩
  · exact bad (by rw [m_O_fault, t1, bP_s, if_pos eq00]) (by rw [xm_O_fault, t1, bP_s, if_pos eq00]) (by rw [m_M_fault, t2, bP_s, if_pos eq00])
  by_cases eb : b < 0
  · exact bad (by rw [m_O_fault, t1, bP_s, if_neg ne10, if_pos eb]) (by rw [xm_O_fault, t1, bP_s, if_neg ne10, if_pos eb]) (by rw [m_M_fault, t2, bP_s, if_neg ne10, if_pos eb])
  by_cases e2 : b ≤ 20
  · have ib : inb (n32 t) 4 = true := inbn (by omega) t4
    obtain ⟨y, hy, rfl⟩ := ge0 eb
    rw [l20, n32_le (by omega) (by omega)] at e2
    have e2' : n32 y ≤ 20 := by rw [l20, n32_le (by omega) (by omega)]; exact e2
    have cl : (n32 t).toNatClampNeg = t := n32_cl (by omega)
    obtain ⟨f1, f2⟩ := hb.2.2.1 t t4
    have X : m_O_fault N σ (n32 t) (n32 y) = some ((μ 0).2 4 t, w1 σ (7 + t) 3 (n32 y)) := by
      rw [m_O_fault, t1, bP_s, if_neg ne10, if_neg eb, if_pos e2', if_pos ib, cl, m_T_replaceFaults, bI_s, f1]
    have Y : m_M_fault N μ (n32 t) (n32 y) = some ((μ 0).2 4 t, w3 (w1 μ 0 0 0) 0 4 (n32 t) (n32 y)) := by
      rw [m_M_fault, t2, bP_s, if_neg ne10, if_neg eb, if_pos e2', m_M_fault_23, w0_0, if_pos (by decide), if_pos ib, if_pos ib, cl, w1_a]
    refine Or.inl ⟨_, w1 σ (7 + t) 3 (n32 y), _, by rw [m_L_fault, X], Y, by rw [w3_s, w0_0], c, p, ?_, ?_⟩
    · refine bas_fr hb (w1_n (by omega)) (by rw [w1_n (by omega)]) (by rw [w1_n (by omega)]) ?_ (fun q hq => ?_) ⟨by simp only [w1_s, w1_a, w2_s, w2_a, w3_s, w3_a, tn, nt, tt, true_and, and_true, false_and, and_false, and_self, if_true, if_false, Nat.reduceEqDiff, reduceIte, Nat.reduceAdd], by simp only [w1_s, w1_a, w2_s, w2_a, w3_s, w3_a, tn, nt, tt, true_and, and_true, false_and, and_false, and_self, if_true, if_false, Nat.reduceEqDiff, reduceIte, Nat.reduceAdd], by simp only [w1_s, w1_a, w2_s, w2_a, w3_s, w3_a, tn, nt, tt, true_and, and_true, false_and, and_false, and_self, if_true, if_false, Nat.reduceEqDiff, reduceIte, Nat.reduceAdd], by simp only [w1_s, w1_a, w2_s, w2_a, w3_s, w3_a, tn, nt, tt, true_and, and_true, false_and, and_false, and_self, if_true, if_false, Nat.reduceEqDiff, reduceIte, Nat.reduceAdd]⟩ ⟨by simp only [w1_s, w1_a, w2_s, w2_a, w3_s, w3_a, tn, nt, tt, true_and, and_true, false_and, and_false, and_self, if_true, if_false, Nat.reduceEqDiff, reduceIte, Nat.reduceAdd], by simp only [w1_s, w1_a, w2_s, w2_a, w3_s, w3_a, tn, nt, tt, true_and, and_true, false_and, and_false, and_self, if_true, if_false, Nat.reduceEqDiff, reduceIte, Nat.reduceAdd], by simp only [w1_s, w1_a, w2_s, w2_a, w3_s, w3_a, tn, nt, tt, true_and, and_true, false_and, and_false, and_self, if_true, if_false, Nat.reduceEqDiff, reduceIte, Nat.reduceAdd]⟩
      · unfold WR; rw [w1_n (by omega)]; simp only [w1_s, w1_a, w2_s, w2_a, w3_s, w3_a, tn, nt, tt, true_and, and_true, false_and, and_false, and_self, if_true, if_false, Nat.reduceEqDiff, reduceIte, Nat.reduceAdd]; exact hb.2.1
      · simp (disch := omega) only [w1_s, w1_a, w2_s, w2_a, w3_s, w3_a, tn, nt, tt, true_and, and_true, false_and, and_false, and_self, if_true, if_false, Nat.reduceEqDiff, reduceIte, Nat.reduceAdd, n32_cl, upd_ap]
        by_cases eq : q = t
        · simp only [if_pos eq]; exact ⟨trivial, y, e2, rfl⟩
        · simp only [if_neg eq]; exact hb.2.2.1 q hq
    · exact core_fr hc (by rw [w1_n (by omega)]) (by rw [w1_a]) (w1_n (by omega)) (w1_n (by omega)) (fun q hq => ⟨by rw [w1_a], fun k hk => by rw [w1_s, if_neg (fun e => hk e.2)]⟩) ((frM.w1 (by decide)).tr (frM.w3 (by decide)))
  · exact bad (by rw [m_O_fault, t1, bP_s, if_neg ne10, if_neg eb, if_neg e2]) (by rw [xm_O_fault, t1, bP_s, if_neg ne10, if_neg eb, if_neg e2]) (by rw [m_M_fault, t2, bP_s, if_neg ne10, if_neg eb, if_neg e2])
theorem pow_x {N : Nat} {σ μ : SX} (h : WR σ μ) : m_V_hasPower N σ = some ((μ 0).1 5, σ) := by
  obtain ⟨h1, h2, h3, h4⟩ := h
  rw [m_V_hasPower, h2, if_pos (by rcases h3 with e | e <;> (rw [e]; rfl))]
theorem cut_eq {N : Nat} {σ μ : SX} {a : Int32} (h : R σ μ) : ansI (m_O_cutAfter N σ a) (m_M_cutAfter N μ a) := by
  obtain ⟨c, p, hb, hc⟩ := id h
  rw [m_O_cutAfter, m_M_cutAfter]
  by_cases ea : a < 0
  · rw [if_pos ea, if_pos ea]; exact ⟨_, _, _, rfl, rfl, R_w0 h⟩
  by_cases e2 : 1000 < a
  · rw [if_neg ea, if_neg ea, if_pos e2, if_pos e2]; exact ⟨_, _, _, rfl, rfl, R_w0 h⟩
  rw [if_neg ea, if_neg ea, if_neg e2, if_neg e2, pow_x hb.2.1, bI_s, w0_k (by decide)]
  by_cases e3 : (μ 0).1 5 = 0
  · rw [if_pos e3, if_pos e3]; exact ⟨_, _, _, rfl, rfl, R_w0 h⟩
  rw [if_neg e3, if_neg e3, m_V_planCut, bV_s]
  obtain ⟨n, hn, rfl⟩ := ge0 ea
  rw [l1000, n32_lt (by omega) (by omega)] at e2
  obtain ⟨w1', w2', w3', w4'⟩ := hb.2.1
  refine ⟨_, _, _, rfl, rfl, c, p, ?_, ?_⟩
  · refine bas_fr hb (by rw [w1_n (by decide), w1_n (by decide)]) (by rw [w1_n (by decide), w1_n (by decide)]) (by rw [w1_n (by decide), w1_n (by decide)]) ?_ (fau_fr hb.2.2.1 (fun t ht => by rw [w1_n (by omega), w1_n (by omega)]) (by simp only [w1_s, w1_a, w2_s, w2_a, w3_s, w3_a, tn, nt, tt, true_and, and_true, false_and, and_false, and_self, if_true, if_false, Nat.reduceEqDiff, reduceIte, Nat.reduceAdd])) ⟨by simp only [w1_s, w1_a, w2_s, w2_a, w3_s, w3_a, tn, nt, tt, true_and, and_true, false_and, and_false, and_self, if_true, if_false, Nat.reduceEqDiff, reduceIte, Nat.reduceAdd], by simp only [w1_s, w1_a, w2_s, w2_a, w3_s, w3_a, tn, nt, tt, true_and, and_true, false_and, and_false, and_self, if_true, if_false, Nat.reduceEqDiff, reduceIte, Nat.reduceAdd], by simp only [w1_s, w1_a, w2_s, w2_a, w3_s, w3_a, tn, nt, tt, true_and, and_true, false_and, and_false, and_self, if_true, if_false, Nat.reduceEqDiff, reduceIte, Nat.reduceAdd], by simp only [w1_s, w1_a, w2_s, w2_a, w3_s, w3_a, tn, nt, tt, true_and, and_true, false_and, and_false, and_self, if_true, if_false, Nat.reduceEqDiff, reduceIte, Nat.reduceAdd]⟩ ⟨by simp only [w1_s, w1_a, w2_s, w2_a, w3_s, w3_a, tn, nt, tt, true_and, and_true, false_and, and_false, and_self, if_true, if_false, Nat.reduceEqDiff, reduceIte, Nat.reduceAdd], by simp only [w1_s, w1_a, w2_s, w2_a, w3_s, w3_a, tn, nt, tt, true_and, and_true, false_and, and_false, and_self, if_true, if_false, Nat.reduceEqDiff, reduceIte, Nat.reduceAdd], by simp only [w1_s, w1_a, w2_s, w2_a, w3_s, w3_a, tn, nt, tt, true_and, and_true, false_and, and_false, and_self, if_true, if_false, Nat.reduceEqDiff, reduceIte, Nat.reduceAdd]⟩
    refine ⟨by simp only [w1_s, w1_a, w2_s, w2_a, w3_s, w3_a, tn, nt, tt, true_and, and_true, false_and, and_false, and_self, if_true, if_false, Nat.reduceEqDiff, reduceIte, Nat.reduceAdd]; exact w1', by simp only [w1_s, w1_a, w2_s, w2_a, w3_s, w3_a, tn, nt, tt, true_and, and_true, false_and, and_false, and_self, if_true, if_false, Nat.reduceEqDiff, reduceIte, Nat.reduceAdd]; exact w2', by simp only [w1_s, w1_a, w2_s, w2_a, w3_s, w3_a, tn, nt, tt, true_and, and_true, false_and, and_false, and_self, if_true, if_false, Nat.reduceEqDiff, reduceIte, Nat.reduceAdd]; exact w3', Or.inr ⟨n, by omega, by simp only [w1_s, w1_a, w2_s, w2_a, w3_s, w3_a, tn, nt, tt, true_and, and_true, false_and, and_false, and_self, if_true, if_false, Nat.reduceEqDiff, reduceIte, Nat.reduceAdd]; rfl, by simp only [w1_s, w1_a, w2_s, w2_a, w3_s, w3_a, tn, nt, tt, true_and, and_true, false_and, and_false, and_self, if_true, if_false, Nat.reduceEqDiff, reduceIte, Nat.reduceAdd], by simp only [w1_s, w1_a, w2_s, w2_a, w3_s, w3_a, tn, nt, tt, true_and, and_true, false_and, and_false, and_self, if_true, if_false, Nat.reduceEqDiff, reduceIte, Nat.reduceAdd]⟩⟩
  · exact core_fr hc (by rw [w1_n (by decide), w1_n (by decide)]) (by rw [w1_a, w1_a]) (by rw [w1_n (by decide), w1_n (by decide)]) (by rw [w1_n (by decide), w1_n (by decide)]) (fun q hq => by rw [w1_n (by omega), w1_n (by omega)]; exact ⟨rfl, fun _ _ => rfl⟩) ((frM.w1 (by decide)).tr (frM.w1 (by decide)))
theorem res_eq {N : Nat} {σ μ : SX} (h : R σ μ) : ansI (m_O_resume N σ) (m_M_resume N μ) := by
  obtain ⟨c, p, hb, hc⟩ := id h
  rw [m_O_resume, m_M_resume, pow_x hb.2.1, bI_s, w0_k (by decide)]
  by_cases e3 : (μ 0).1 5 = 0
  · rw [if_pos e3, if_pos e3, m_V_switchOn, bV_s]
    obtain ⟨w1', w2', w3', w4'⟩ := hb.2.1
    refine ⟨_, _, _, rfl, rfl, c, p, ?_, ?_⟩
    · refine bas_fr hb (by rw [w1_n (by decide)]) (by rw [w1_n (by decide)]) (by rw [w1_n (by decide)]) ?_ (fau_fr hb.2.2.1 (fun t ht => by rw [w1_n (by omega)]) (by simp only [w1_s, w1_a, w2_s, w2_a, w3_s, w3_a, tn, nt, tt, true_and, and_true, false_and, and_false, and_self, if_true, if_false, Nat.reduceEqDiff, reduceIte, Nat.reduceAdd])) ⟨by simp only [w1_s, w1_a, w2_s, w2_a, w3_s, w3_a, tn, nt, tt, true_and, and_true, false_and, and_false, and_self, if_true, if_false, Nat.reduceEqDiff, reduceIte, Nat.reduceAdd], by simp only [w1_s, w1_a, w2_s, w2_a, w3_s, w3_a, tn, nt, tt, true_and, and_true, false_and, and_false, and_self, if_true, if_false, Nat.reduceEqDiff, reduceIte, Nat.reduceAdd], by simp only [w1_s, w1_a, w2_s, w2_a, w3_s, w3_a, tn, nt, tt, true_and, and_true, false_and, and_false, and_self, if_true, if_false, Nat.reduceEqDiff, reduceIte, Nat.reduceAdd], by simp only [w1_s, w1_a, w2_s, w2_a, w3_s, w3_a, tn, nt, tt, true_and, and_true, false_and, and_false, and_self, if_true, if_false, Nat.reduceEqDiff, reduceIte, Nat.reduceAdd]⟩ ⟨by simp only [w1_s, w1_a, w2_s, w2_a, w3_s, w3_a, tn, nt, tt, true_and, and_true, false_and, and_false, and_self, if_true, if_false, Nat.reduceEqDiff, reduceIte, Nat.reduceAdd], by simp only [w1_s, w1_a, w2_s, w2_a, w3_s, w3_a, tn, nt, tt, true_and, and_true, false_and, and_false, and_self, if_true, if_false, Nat.reduceEqDiff, reduceIte, Nat.reduceAdd], by simp only [w1_s, w1_a, w2_s, w2_a, w3_s, w3_a, tn, nt, tt, true_and, and_true, false_and, and_false, and_self, if_true, if_false, Nat.reduceEqDiff, reduceIte, Nat.reduceAdd]⟩
      refine ⟨by simp only [w1_s, w1_a, w2_s, w2_a, w3_s, w3_a, tn, nt, tt, true_and, and_true, false_and, and_false, and_self, if_true, if_false, Nat.reduceEqDiff, reduceIte, Nat.reduceAdd]; exact w1', by simp only [w1_s, w1_a, w2_s, w2_a, w3_s, w3_a, tn, nt, tt, true_and, and_true, false_and, and_false, and_self, if_true, if_false, Nat.reduceEqDiff, reduceIte, Nat.reduceAdd], by simp only [w1_s, w1_a, w2_s, w2_a, w3_s, w3_a, tn, nt, tt, true_and, and_true, false_and, and_false, and_self, if_true, if_false, Nat.reduceEqDiff, reduceIte, Nat.reduceAdd]; exact Or.inr rfl, by simp only [w1_s, w1_a, w2_s, w2_a, w3_s, w3_a, tn, nt, tt, true_and, and_true, false_and, and_false, and_self, if_true, if_false, Nat.reduceEqDiff, reduceIte, Nat.reduceAdd]; exact w4'⟩
    · exact core_fr hc (by rw [w1_n (by decide)]) (by rw [w1_a]) (by rw [w1_n (by decide)]) (by rw [w1_n (by decide)]) (fun q hq => by rw [w1_n (by omega)]; exact ⟨rfl, fun _ _ => rfl⟩) ((frM.w1 (by decide)).tr (frM.w1 (by decide)))
  · rw [if_neg e3, if_neg e3]; exact ⟨_, _, _, rfl, rfl, R_w0 h⟩
