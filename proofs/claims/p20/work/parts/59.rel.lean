/-! Layer B: the tie of both states. -/
def up {α : Type} (f : Nat → α) (t : Nat) (v : α) : Nat → α := fun q => if q = t then v else f q
theorem up_s {α : Type} {f : Nat → α} {t : Nat} {v : α} : up f t v t = v := if_pos rfl
theorem up_n {α : Type} {f : Nat → α} {t q : Nat} {v : α} (h : q ≠ t) : up f t v q = f q := if_neg h
def TapesL (σ μ : SX) (c : Nat) (rn cn : Nat → Nat) (ls : Nat → Nat → Nat) : Prop := ∀ t, t < 4 → TaR σ μ t (rn t) (cn t) c (ls t)
def FauR (σ μ : SX) : Prop := ∀ t, t < 4 → (σ (7 + t)).1 3 = (μ 0).2 4 t ∧ ∃ f, f ≤ 20 ∧ (μ 0).2 4 t = n32 f
def DumR (σ μ : SX) (dn : Nat → Nat) : Prop := ∀ t, t < 4 → (σ (7 + t)).1 2 = n32 (dn t) ∧ (μ 0).2 11 t = n32 (dn t)
def RolR (σ μ : SX) (rl : Nat → Nat) : Prop := ∀ k, k < 4 → (σ 0).2 1 k = n32 (rl k) ∧ (μ 0).2 12 k = n32 (rl k) ∧ rl k < 4
def Pn : Nat → Nat × Nat × Nat
  | 0 => (1, 0, 0)
  | n + 1 => ((Pn n).1 + (Pn n).2.1, (Pn n).1 + (Pn n).2.2, (Pn n).1)
def Bas (σ μ : SX) (c p : Nat) : Prop := DkR σ μ c p ∧ WR σ μ ∧ FauR σ μ ∧ (∃ m, 1 ≤ m ∧ m ≤ 8 ∧ (σ 2).1 0 = n32 m ∧ (μ 0).1 1 = n32 m) ∧ (σ 0).1 1 = (μ 0).1 8
def Perm4 (rl : Nat → Nat) : Prop := rl 0 ≠ rl 1 ∧ rl 0 ≠ rl 2 ∧ rl 0 ≠ rl 3 ∧ rl 1 ≠ rl 2 ∧ rl 1 ≠ rl 3 ∧ rl 2 ≠ rl 3
def LayR (σ μ : SX) (c : Nat) : Prop := ∃ (hn nn : Nat) (rn cn dn : Nat → Nat) (ls : Nat → Nat → Nat) (lv pl x y z md : Nat),
  StR σ μ hn nn c ∧ (∀ k, k < hn → (μ 0).2 6 k = n32 0) ∧ 1 ≤ hn ∧ TapesL σ μ c rn cn ls ∧ DumR σ μ dn ∧ RolR σ μ (fun k => k) ∧ PlX σ lv pl x y z (dn 0) (dn 1) (dn 2) ∧ PlM μ lv pl x y z (dn 0) (dn 1) (dn 2) ∧ (μ 0).1 11 = n32 md ∧
  Pn lv = (x, y, z) ∧ 1 ≤ lv ∧ x ≤ 150 ∧ PR pl (dn 0) (dn 1) (dn 2) ∧ (rn 0 + dn 0 = x ∧ rn 1 + dn 1 = y ∧ rn 2 + dn 2 = z ∧ rn 3 = 0 ∧ dn 3 = 0) ∧ cn 0 + cn 1 + cn 2 + hn = nn ∧ md = rn 0 + rn 1 + rn 2 ∧ (md = 0 → lv = 1 ∧ pl = 0)
def MerR (σ μ : SX) (c : Nat) : Prop := ∃ (nn : Nat) (rn cn dn : Nat → Nat) (ls : Nat → Nat → Nat) (lv x y z m : Nat) (rl : Nat → Nat),
  StR σ μ 0 nn c ∧ TapesL σ μ c rn cn ls ∧ DumR σ μ dn ∧ RolR σ μ rl ∧ Perm4 rl ∧ (σ 4).1 0 = n32 lv ∧ (μ 0).1 12 = n32 lv ∧ Pn lv = (x, y, z) ∧ 1 ≤ lv ∧ x ≤ 150 ∧ m < z ∧
  (rn (rl 0) + dn (rl 0) + m = x ∧ rn (rl 1) + dn (rl 1) + m = y ∧ rn (rl 2) + dn (rl 2) + m = z ∧ rn (rl 3) + dn (rl 3) = m) ∧ cn (rl 0) + cn (rl 1) + cn (rl 2) + cn (rl 3) ≤ 150
def DonR (σ μ : SX) (c : Nat) : Prop := ∃ (nn : Nat) (rn cn dn : Nat → Nat) (ls : Nat → Nat → Nat) (rl : Nat → Nat),
  StR σ μ 0 nn c ∧ TapesL σ μ c rn cn ls ∧ DumR σ μ dn ∧ RolR σ μ rl ∧ Perm4 rl ∧ (σ 4).1 0 = n32 0 ∧ (μ 0).1 12 = n32 0
def NewR (σ μ : SX) (c : Nat) : Prop := StR σ μ 0 0 c ∧ TapesL σ μ c (fun _ => 0) (fun _ => 0) (fun _ _ => 0) ∧ DumR σ μ (fun _ => 0) ∧ (μ 0).1 12 = n32 0
def EmpR (σ μ : SX) (c : Nat) : Prop := StR σ μ 0 0 c ∧ TapesL σ μ c (fun _ => 0) (fun _ => 0) (fun _ _ => 0) ∧ RolR σ μ (fun k => k) ∧ (μ 0).1 12 = n32 0
def Core (σ μ : SX) (c : Nat) : Prop := ∃ st, (σ 0).1 0 = n32 st ∧ (μ 0).1 4 = n32 st ∧
  ((st = 0 ∧ NewR σ μ c) ∨ (st = 3 ∧ c = 0 ∧ EmpR σ μ c) ∨ (st = 1 ∧ 1 ≤ c ∧ LayR σ μ c) ∨ (st = 2 ∧ 1 ≤ c ∧ MerR σ μ c) ∨ (st = 3 ∧ 1 ≤ c ∧ DonR σ μ c))
def R (σ μ : SX) : Prop := ∃ c p, Bas σ μ c p ∧ Core σ μ c
theorem pn_f {n x y z : Nat} (h : Pn (n + 1) = (x, y, z)) : 1 ≤ z ∧ z ≤ y ∧ y ≤ x ∧ x + z ≤ 2 * y ∧ y ≤ 2 * z ∧ n + 1 ≤ x := by
  induction n generalizing x y z with
  | zero => simp [Pn] at h; omega
  | succ n ih =>
    have q := ih (x := (Pn (n + 1)).1) (y := (Pn (n + 1)).2.1) (z := (Pn (n + 1)).2.2) rfl
    rw [Pn] at h
    simp only [Prod.mk.injEq] at h
    omega
theorem pl_nx {pl lv x y z d0 d1 d2 pl' lv' x' y' z' e0 e1 e2 r0 r1 r2 : Nat} (k : PlO pl lv x y z d0 d1 d2 pl' lv' x' y' z' e0 e1 e2) (h : Pn lv = (x, y, z)) (h1 : 1 ≤ lv) (hx : x ≤ 150) (g0 : r0 + d0 = x) (g1 : r1 + d1 = y) (g2 : r2 + d2 = z) (hr : r0 + r1 + r2 ≤ 150) :
    Pn lv' = (x', y', z') ∧ 1 ≤ lv' ∧ x' ≤ 150 ∧ r0 + e0 = x' ∧ r1 + e1 = y' ∧ r2 + e2 = z' ∧ PlN pl' e0 e1 e2 := by
  have hp := pn_f (n := lv - 1) (x := x) (y := y) (z := z) (by rw [show lv - 1 + 1 = lv by omega]; exact h)
  rcases k with ⟨q1, q2, q3, q4, q5, q6, q7, q8, q9, q10, q11⟩ | ⟨q1, q2, q3, q4, q5, q6, q7, q8, q9, q10, q11⟩ | ⟨q1, q2, q3, q4, q5, q6, q7, q8, q9, q10, q11⟩ | ⟨q1, q2, q3, q4, q5, q6, q7, q8, q9, q10, q11⟩
  · exact ⟨by rw [q5, q6, q7, q8]; exact h, by omega, by omega, by omega, by omega, by omega, Or.inr (Or.inl ⟨q1, by omega, Or.inr (Or.inl ⟨rfl, by omega, by omega⟩)⟩)⟩
  · exact ⟨by rw [q5, q6, q7, q8]; exact h, by omega, by omega, by omega, by omega, by omega, Or.inr (Or.inr ⟨q1, by omega, Or.inr (Or.inr ⟨rfl, by omega, by omega⟩)⟩)⟩
  · exact ⟨by rw [q5, q6, q7, q8]; exact h, by omega, by omega, by omega, by omega, by omega, Or.inl ⟨q1, by omega, Or.inl ⟨rfl, by omega, by omega⟩⟩⟩
  · exact ⟨by rw [q5, q6, q7, q8, Pn, h], by omega, by omega, by omega, by omega, by omega, Or.inl ⟨q1, by omega, Or.inl ⟨rfl, by omega, by omega⟩⟩⟩
theorem pl_0 {x y z d0 d1 d2 pl' lv' x' y' z' e0 e1 e2 : Nat} (k : PlO 0 1 x y z d0 d1 d2 pl' lv' x' y' z' e0 e1 e2) (h : Pn 1 = (x, y, z)) (g0 : d0 = x) (g1 : d1 = y) (g2 : d2 = z) :
    pl' = 0 ∧ lv' = 1 ∧ x' = x ∧ y' = y ∧ z' = z ∧ e0 = d0 ∧ e1 = d1 ∧ e2 = d2 := by
  simp [Pn] at h
  unfold PlO at k
  omega
/-- both append the row to the tape t -/
theorem app_both {N : Nat} {σ μ : SX} {c : Nat} {rn cn : Nat → Nat} {ls : Nat → Nat → Nat} {t i : Nat} (hN : 200 ≤ N) (h : TapesL σ μ c rn cn ls) (ht : t < 4) (hrow : RwR σ μ i c) (hi : 1 ≤ i) (hc : cn t + i ≤ 150) :
    ∃ σ' μ', m_T_append N σ t = some σ' ∧ m_M_append N μ (n32 t) = some μ' ∧ frX [7 + t] σ σ' ∧ (σ' (7 + t)).1 2 = (σ (7 + t)).1 2 ∧ (σ' (7 + t)).1 3 = (σ (7 + t)).1 3 ∧ frM [] [8, 9, 10] μ μ' ∧
      TapesL σ' μ' c (up rn t (rn t + 1)) (up cn t (cn t + i)) (up ls t (fun k => if k = rn t then i else ls t k)) := by
  have h0 := h t ht
  have hr := tap_rn h0
  obtain ⟨r1, r2, r3, r4⟩ := id hrow
  obtain ⟨σ', x1, x2, x3, x4, x5, x6, x7, x8⟩ := appX (N := N) h0 r1 hc hi
  obtain ⟨μ', y1, y2, y3, y4, y5⟩ := appM hN h0 ht r2 hc hi
  refine ⟨σ', μ', x1, y1, x2, x5, x6, y2, fun q hq => ?_⟩
  by_cases e : q = t
  · subst e
    rw [up_s, up_s, up_s]
    exact tap_app h0 hi hc r4 x3 x4 x7 x8 (by rw [y5, upd_ap, if_pos rfl]) y3 y4
  · rw [up_n e, up_n e, up_n e]
    unfold TaR
    rw [x2 (7 + q) (by simp; omega)]
    refine tap_oth (t := t) (h q hq) (by rw [y5, upd_ap, if_neg e]) (fun k hk => ?_) (fun k hk => ?_)
    · rw [y3, if_neg (by omega)]
    · rw [y4, upd_ap, if_neg (by omega)]
/-- both take the first run from the tape t -/
theorem take_both {N : Nat} {σ μ : SX} {c : Nat} {rn cn : Nat → Nat} {ls : Nat → Nat → Nat} {t : Nat} (hN : 200 ≤ N) (h : TapesL σ μ c rn cn ls) (ht : t < 4) (hr1 : 1 ≤ rn t) :
    ∃ σ' μ', m_T_takeFirstRun N σ t = some σ' ∧ m_M_takeOff N μ (n32 t) = some μ' ∧ frX [7 + t] σ σ' ∧ (σ' (7 + t)).1 2 = (σ (7 + t)).1 2 ∧ (σ' (7 + t)).1 3 = (σ (7 + t)).1 3 ∧ frM [] [8, 9, 10] μ μ' ∧
      TapesL σ' μ' c (up rn t (rn t - 1)) (up cn t (cn t - ls t 0)) (up ls t (fun k => ls t (k + 1))) := by
  have h0 := h t ht
  have hr := tap_rn h0
  have hc := h0.2.1.2
  obtain ⟨σ', x1, x2, x3, x4, x5, x6, x7, x8⟩ := takeX (N := N) h0 hr1
  obtain ⟨μ', y1, y2, y3, y4, y5⟩ := takeM hN h0 ht hr1
  refine ⟨σ', μ', x1, y1, x2, x5, x6, y2, fun q hq => ?_⟩
  by_cases e : q = t
  · subst e
    rw [up_s, up_s, up_s]
    exact tap_take h0 hr1 x3 x4 x7 x8 (by rw [y5, upd_ap, if_pos rfl]) y3 y4
  · rw [up_n e, up_n e, up_n e]
    unfold TaR
    rw [x2 (7 + q) (by simp; omega)]
    refine tap_oth (t := t) (h q hq) (by rw [y5, upd_ap, if_neg e]) (fun k hk => ?_) (fun k hk => ?_)
    · rw [y3, if_neg (by omega)]
    · rw [y4, if_neg (by omega)]
/-- tapes that keep their cards -/
theorem tapes_fr {σ μ σ' μ' : SX} {c : Nat} {rn cn : Nat → Nat} {ls : Nat → Nat → Nat} (h : TapesL σ μ c rn cn ls) (hx : ∀ t, t < 4 → (σ' (7 + t)).2 = (σ (7 + t)).2 ∧ (σ' (7 + t)).1 0 = (σ (7 + t)).1 0 ∧ (σ' (7 + t)).1 1 = (σ (7 + t)).1 1)
    (h8 : (μ' 0).2 8 = (μ 0).2 8) (h9 : (μ' 0).2 9 = (μ 0).2 9) (h10 : (μ' 0).2 10 = (μ 0).2 10) : TapesL σ' μ' c rn cn ls := fun t ht => by
  obtain ⟨e1, e2, e3⟩ := hx t ht
  have := h t ht
  unfold TaR TapR at this ⊢
  rw [e1, e2, e3, h8, h9, h10]; exact this
theorem fau_fr {σ μ σ' μ' : SX} (h : FauR σ μ) (hx : ∀ t, t < 4 → (σ' (7 + t)).1 3 = (σ (7 + t)).1 3) (h4 : (μ' 0).2 4 = (μ 0).2 4) : FauR σ' μ' := fun t ht => by
  rw [hx t ht, h4]; exact h t ht
