/-! Layer B: small numbers, states, sums. -/
def n32 (n : Nat) : Int32 := Int32.ofNat n
def mi : Int32 := -1
theorem n32_ti {n : Nat} (h : n < 2147483648) : (n32 n).toInt = n := Int32.toInt_ofNat_of_lt h
theorem n32_le {a b : Nat} (ha : a < 2147483648) (hb : b < 2147483648) : (n32 a ≤ n32 b) = (a ≤ b) := by
  apply propext; rw [Int32.le_iff_toInt_le, n32_ti ha, n32_ti hb]; omega
theorem n32_lt {a b : Nat} (ha : a < 2147483648) (hb : b < 2147483648) : (n32 a < n32 b) = (a < b) := by
  apply propext; rw [Int32.lt_iff_toInt_lt, n32_ti ha, n32_ti hb]; omega
theorem n32_inj {a b : Nat} (ha : a < 2147483648) (hb : b < 2147483648) (h : n32 a = n32 b) : a = b := by
  have := congrArg Int32.toInt h
  rw [n32_ti ha, n32_ti hb] at this; omega
theorem n32_eq {a b : Nat} (ha : a < 2147483648) (hb : b < 2147483648) : (n32 a = n32 b) = (a = b) := propext ⟨n32_inj ha hb, fun h => by rw [h]⟩
theorem n32_cl {a : Nat} (ha : a < 2147483648) : (n32 a).toNatClampNeg = a := by
  have h : (n32 a).toNatClampNeg = (n32 a).toInt.toNat := rfl
  rw [h, n32_ti ha]; omega
theorem n32_inb {a n : Nat} (ha : a < 2147483648) : (inb (n32 a) n = true) = (a < n) := by
  apply propext
  unfold inb
  rw [decide_eq_true_iff, n32_ti ha]; omega
theorem n32_add {a b : Nat} : n32 a + n32 b = n32 (a + b) := (Int32.ofNat_add a b).symm
theorem n32_mul {a b : Nat} : n32 a * n32 b = n32 (a * b) := (Int32.ofNat_mul a b).symm
theorem n32_sub {a b : Nat} (h : b ≤ a) : n32 a - n32 b = n32 (a - b) := by
  have e : n32 a = n32 (a - b) + n32 b := by rw [n32_add, Nat.sub_add_cancel h]
  rw [e, Int32.add_sub_cancel]
theorem l0 : (0 : Int32) = n32 0 := by unfold n32; exact (Eq.refl _).trans (Eq.refl _)
theorem l1 : (1 : Int32) = n32 1 := by unfold n32; exact (Eq.refl _).trans (Eq.refl _)
theorem l2 : (2 : Int32) = n32 2 := by unfold n32; exact (Eq.refl _).trans (Eq.refl _)
theorem l3 : (3 : Int32) = n32 3 := by unfold n32; exact (Eq.refl _).trans (Eq.refl _)
theorem l4 : (4 : Int32) = n32 4 := by unfold n32; exact (Eq.refl _).trans (Eq.refl _)
theorem l8 : (8 : Int32) = n32 8 := by unfold n32; exact (Eq.refl _).trans (Eq.refl _)
theorem l20 : (20 : Int32) = n32 20 := by unfold n32; exact (Eq.refl _).trans (Eq.refl _)
theorem l150 : (150 : Int32) = n32 150 := by unfold n32; exact (Eq.refl _).trans (Eq.refl _)
theorem l300 : (300 : Int32) = n32 300 := by unfold n32; exact (Eq.refl _).trans (Eq.refl _)
theorem l1000 : (1000 : Int32) = n32 1000 := by unfold n32; exact (Eq.refl _).trans (Eq.refl _)
theorem lm1 : (-1 : Int32) = mi := by unfold mi; exact (Eq.refl _).trans (Eq.refl _)
theorem mi_ti : mi.toInt = -1 := by decide
theorem mi_lt {a : Nat} (ha : a < 2147483648) : (mi < n32 a) = True := by
  apply eq_true; rw [Int32.lt_iff_toInt_lt, mi_ti, n32_ti ha]; omega
theorem mi_le {a : Nat} (ha : a < 2147483648) : (mi ≤ n32 a) = True := by
  apply eq_true; rw [Int32.le_iff_toInt_le, mi_ti, n32_ti ha]; omega
theorem n_le_mi {a : Nat} (ha : a < 2147483648) : (n32 a ≤ mi) = False := by
  apply eq_false; rw [Int32.le_iff_toInt_le, mi_ti, n32_ti ha]; omega
theorem n_eq_mi {a : Nat} (ha : a < 2147483648) : (n32 a = mi) = False := by
  apply eq_false; intro h
  have := congrArg Int32.toInt h
  rw [mi_ti, n32_ti ha] at this; omega
theorem mi_eq_n {a : Nat} (ha : a < 2147483648) : (mi = n32 a) = False := by
  exact eq_false (fun h => by rw [← n_eq_mi ha]; exact h.symm)
theorem n_add_mi {a : Nat} (h : 1 ≤ a) : n32 a + mi = n32 (a - 1) := by
  have : mi = -n32 1 := rfl
  rw [this, ← Int32.sub_eq_add_neg, n32_sub h]
/-- a whole number that isn't negative is a small one -/
theorem n32_of {v : Int32} (h : 0 ≤ v.toInt) : ∃ n, n < 2147483648 ∧ v = n32 n := by
  have h2 := Int32.toInt_lt v
  refine ⟨v.toInt.toNat, by omega, Int32.toInt_inj.mp ?_⟩
  rw [n32_ti (by omega)]; omega
theorem ge0 {v : Int32} (h : ¬ v < 0) : ∃ n, n < 2147483648 ∧ v = n32 n := n32_of (by
  rw [Int32.lt_iff_toInt_lt, Int32.toInt_zero] at h; omega)
-- states
theorem w1_s {σ : SX} {j k j' k' : Nat} {v : Int32} : (w1 σ j k v j').1 k' = if j' = j ∧ k' = k then v else (σ j').1 k' := by
  unfold w1
  by_cases h : j' = j
  · subst h; simp
  · simp [h]
theorem w1_a {σ : SX} {j k j' : Nat} {v : Int32} : (w1 σ j k v j').2 = (σ j').2 := by
  unfold w1
  by_cases h : j' = j
  · subst h; simp
  · simp [h]
theorem w2_s {σ : SX} {j k j' : Nat} {f : Nat → Int32} : (w2 σ j k f j').1 = (σ j').1 := by
  unfold w2
  by_cases h : j' = j
  · subst h; simp
  · simp [h]
theorem w2_a {σ : SX} {j k j' k' : Nat} {f : Nat → Int32} : (w2 σ j k f j').2 k' = if j' = j ∧ k' = k then f else (σ j').2 k' := by
  unfold w2
  by_cases h : j' = j
  · subst h; simp
  · simp [h]
theorem w3_s {σ : SX} {j k j' : Nat} {i x : Int32} : (w3 σ j k i x j').1 = (σ j').1 := w2_s
theorem w3_a {σ : SX} {j k j' k' : Nat} {i x : Int32} : (w3 σ j k i x j').2 k' = if j' = j ∧ k' = k then upd ((σ j').2 k') i.toNatClampNeg x else (σ j').2 k' := by
  unfold w3
  rw [w2_a]
  by_cases h : j' = j ∧ k' = k
  · rw [if_pos h, if_pos h, h.1, h.2]
  · rw [if_neg h, if_neg h]
theorem w1_n {σ : SX} {j k j' : Nat} {v : Int32} (h : j' ≠ j) : w1 σ j k v j' = σ j' := if_neg h
theorem w2_n {σ : SX} {j k j' : Nat} {f : Nat → Int32} (h : j' ≠ j) : w2 σ j k f j' = σ j' := if_neg h
theorem w3_n {σ : SX} {j k j' : Nat} {i x : Int32} (h : j' ≠ j) : w3 σ j k i x j' = σ j' := if_neg h
theorem upd_ap {f : Nat → Int32} {k j : Nat} {x : Int32} : upd f k x j = if j = k then x else f j := rfl
theorem cpy_ap {f g : Nat → Int32} {sp dp n k : Nat} : va_cpy f g sp dp n k = if dp ≤ k ∧ k < dp + n then f (sp + (k - dp)) else g k := rfl
theorem tn {i k : Nat} (h : k < 7) : (7 + i = k) = False := eq_false (by omega)
theorem nt {i k : Nat} (h : k < 7) : (k = 7 + i) = False := eq_false (by omega)
theorem tt {i k : Nat} : (7 + i = 7 + k) = (i = k) := propext (by omega)
theorem bI_s {β : Type} {r : Int32} {s : SX} {k : Int32 → SX → Option β} : bI (some (r, s)) k = k r s := rfl
theorem bR_s {β : Type} {r : Nat} {s : SX} {k : Nat → SX → Option β} : bR (some (r, s)) k = k r s := rfl
theorem bV_s {β : Type} {s : SX} {k : SX → Option β} : bV (some s) k = k s := rfl
theorem bP_s {β : Type} {r : Int32} {k : Int32 → Option β} : bP (some r) k = k r := rfl
theorem bL_s {β : Type} {r : Int64} {k : Int64 → Option β} : bL (some r) k = k r := rfl
theorem nar_b {v : Int32} (h : v = 0 ∨ v = 1) : vp_nar .boolean v = v := by
  rcases h with rfl | rfl <;> rfl
theorem nar_0 : vp_nar .boolean (n32 0) = n32 0 := rfl
theorem nar_1 : vp_nar .boolean (n32 1) = n32 1 := rfl
theorem isB_0 : isB (n32 0) = true := rfl
theorem isB_1 : isB (n32 1) = true := rfl
-- sums
def sm (f : Nat → Nat) : Nat → Nat
  | 0 => 0
  | n + 1 => sm f n + f n
theorem sm_congr {f g : Nat → Nat} : ∀ {n : Nat}, (∀ k, k < n → f k = g k) → sm f n = sm g n
  | 0, _ => rfl
  | n + 1, h => by rw [sm, sm, sm_congr (fun k hk => h k (by omega)), h n (by omega)]
theorem sm_mono {f : Nat → Nat} {m : Nat} : ∀ {n : Nat}, m ≤ n → sm f m ≤ sm f n
  | 0, h => by rw [show m = 0 by omega]; exact Nat.le_refl _
  | n + 1, h => by
    by_cases e : m = n + 1
    · rw [e]; exact Nat.le_refl _
    · have := sm_mono (f := f) (m := m) (n := n) (by omega)
      rw [sm]; omega
theorem sm_ge {f : Nat → Nat} : ∀ {n : Nat}, (∀ k, k < n → 1 ≤ f k) → n ≤ sm f n
  | 0, _ => Nat.le_refl 0
  | n + 1, h => by
    have := sm_ge (f := f) (n := n) (fun k hk => h k (by omega))
    have := h n (by omega)
    rw [sm]; omega
/-- the first is taken away -/
theorem sm_shift {f : Nat → Nat} : ∀ {n : Nat}, sm (fun k => f (k + 1)) n + f 0 = sm f (n + 1)
  | 0 => by simp [sm]
  | n + 1 => by
    have := sm_shift (f := f) (n := n)
    rw [sm, sm.eq_2 f (n + 1)]
    omega
/-- the same but for the objects of a list -/
def frX (L : List Nat) (σ σ' : SX) : Prop := ∀ j, j ∉ L → σ' j = σ j
theorem frX.rf {L : List Nat} {σ : SX} : frX L σ σ := fun _ _ => rfl
theorem frX.tr {L : List Nat} {σ σ' σ'' : SX} (h : frX L σ σ') (h2 : frX L σ' σ'') : frX L σ σ'' := fun j hj => (h2 j hj).trans (h j hj)
theorem frX.mo {L L' : List Nat} {σ σ' : SX} (h : frX L σ σ') (hs : ∀ j, j ∈ L → j ∈ L') : frX L' σ σ' := fun j hj => h j (fun q => hj (hs j q))
theorem frX.w1 {L : List Nat} {σ : SX} {j k : Nat} {v : Int32} (h : j ∈ L) : frX L σ (w1 σ j k v) := fun i hi => w1_n (fun e => hi (e ▸ h))
theorem frX.w2 {L : List Nat} {σ : SX} {j k : Nat} {f : Nat → Int32} (h : j ∈ L) : frX L σ (w2 σ j k f) := fun i hi => w2_n (fun e => hi (e ▸ h))
theorem frX.w3 {L : List Nat} {σ : SX} {j k : Nat} {i x : Int32} (h : j ∈ L) : frX L σ (w3 σ j k i x) := fun q hi => w3_n (fun e => hi (e ▸ h))
/-- the reference: the same but for some numbers and some arrays -/
def frM (S A : List Nat) (μ μ' : SX) : Prop := (∀ k, k ∉ S → (μ' 0).1 k = (μ 0).1 k) ∧ ∀ k, k ∉ A → (μ' 0).2 k = (μ 0).2 k
theorem frM.rf {S A : List Nat} {μ : SX} : frM S A μ μ := ⟨fun _ _ => rfl, fun _ _ => rfl⟩
theorem frM.tr {S A : List Nat} {μ μ' μ'' : SX} (h : frM S A μ μ') (h2 : frM S A μ' μ'') : frM S A μ μ'' := ⟨fun k hk => (h2.1 k hk).trans (h.1 k hk), fun k hk => (h2.2 k hk).trans (h.2 k hk)⟩
theorem frM.mo {S A S' A' : List Nat} {μ μ' : SX} (h : frM S A μ μ') (hs : ∀ j, j ∈ S → j ∈ S') (ha : ∀ j, j ∈ A → j ∈ A') : frM S' A' μ μ' := ⟨fun k hk => h.1 k (fun q => hk (hs k q)), fun k hk => h.2 k (fun q => hk (ha k q))⟩
theorem frM.w1 {S A : List Nat} {μ : SX} {k : Nat} {v : Int32} (h : k ∈ S) : frM S A μ (w1 μ 0 k v) := ⟨fun q hq => by rw [w1_s, if_neg (fun e : 0 = 0 ∧ q = k => hq (e.2 ▸ h))], fun q _ => by rw [w1_a]⟩
theorem frM.w3 {S A : List Nat} {μ : SX} {k : Nat} {i x : Int32} (h : k ∈ A) : frM S A μ (w3 μ 0 k i x) := ⟨fun q _ => by rw [w3_s], fun q hq => by rw [w3_a, if_neg (fun e : 0 = 0 ∧ q = k => hq (e.2 ▸ h))]⟩
theorem nlt0 {a : Nat} (h : a < 2147483648) : ¬ n32 a < 0 := by rw [l0, n32_lt h (by omega)]; omega
theorem inbn {a n : Nat} (h : a < 2147483648) (h2 : a < n) : inb (n32 a) n = true := by rw [n32_inb h]; exact h2
theorem ne10 : ¬ n32 1 = 0 := by decide
theorem eq00 : n32 0 = 0 := by decide
