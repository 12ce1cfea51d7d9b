/-! Layer B: that a mirror answers, and what holds behind it. -/
def okk {α : Type} (o : Option α) (Q : α → Prop) : Prop := ∃ x, o = some x ∧ Q x
theorem okk.so {α : Type} {x : α} {Q : α → Prop} (h : Q x) : okk (some x) Q := ⟨x, rfl, h⟩
theorem okk.it {α : Type} {c : Prop} [Decidable c] {a b : Option α} {Q : α → Prop} (h1 : c → okk a Q) (h2 : ¬ c → okk b Q) : okk (if c then a else b) Q := by
  by_cases h : c
  · rw [if_pos h]; exact h1 h
  · rw [if_neg h]; exact h2 h
theorem okk.gd {α : Type} {c : Prop} [Decidable c] {a : Option α} {Q : α → Prop} (hc : c) (h : okk a Q) : okk (if c then a else none) Q := by rw [if_pos hc]; exact h
theorem okk.mono {α : Type} {o : Option α} {Q Q' : α → Prop} (h : okk o Q) (hq : ∀ x, Q x → Q' x) : okk o Q' := by
  obtain ⟨x, e, q⟩ := h
  exact ⟨x, e, hq x q⟩
theorem okk.bI {β : Type} {o : Option (Int32 × SX)} {k : Int32 → SX → Option β} {Q : β → Prop} (h : okk o (fun q => okk (k q.1 q.2) Q)) : okk (bI o k) Q := by
  obtain ⟨x, e, q⟩ := h
  rw [e]; exact q
theorem okk.bR {β : Type} {o : Option (Nat × SX)} {k : Nat → SX → Option β} {Q : β → Prop} (h : okk o (fun q => okk (k q.1 q.2) Q)) : okk (bR o k) Q := by
  obtain ⟨x, e, q⟩ := h
  rw [e]; exact q
theorem okk.bV {β : Type} {o : Option SX} {k : SX → Option β} {Q : β → Prop} (h : okk o (fun q => okk (k q) Q)) : okk (bV o k) Q := by
  obtain ⟨x, e, q⟩ := h
  rw [e]; exact q
theorem okk.bP {β : Type} {o : Option Int32} {k : Int32 → Option β} {Q : β → Prop} (h : okk o (fun q => okk (k q) Q)) : okk (bP o k) Q := by
  obtain ⟨x, e, q⟩ := h
  rw [e]; exact q
theorem okk.bL {β : Type} {o : Option Int64} {k : Int64 → Option β} {Q : β → Prop} (h : okk o (fun q => okk (k q) Q)) : okk (bL o k) Q := by
  obtain ⟨x, e, q⟩ := h
  rw [e]; exact q
-- numbers
theorem ti_add {a b : Int32} (h1 : -2147483648 ≤ a.toInt + b.toInt) (h2 : a.toInt + b.toInt < 2147483648) : (a + b).toInt = a.toInt + b.toInt := by
  rw [Int32.toInt_add]
  exact Int.bmod_eq_of_le (by omega) (by omega)
theorem ti_sub {a b : Int32} (h1 : -2147483648 ≤ a.toInt - b.toInt) (h2 : a.toInt - b.toInt < 2147483648) : (a - b).toInt = a.toInt - b.toInt := by
  rw [Int32.toInt_sub]
  exact Int.bmod_eq_of_le (by omega) (by omega)
theorem ti_inj {a b : Int32} (h : a.toInt = b.toInt) : a = b := Int32.toInt_inj.mp h
theorem le_ti {a b : Int32} : a ≤ b ↔ a.toInt ≤ b.toInt := Int32.le_iff_toInt_le
theorem lt_ti {a b : Int32} : a < b ↔ a.toInt < b.toInt := Int32.lt_iff_toInt_lt
theorem inb_ti {a : Int32} {n : Nat} : inb a n = true ↔ 0 ≤ a.toInt ∧ a.toInt < n := decide_eq_true_iff
theorem cl_ti {a : Int32} (h : 0 ≤ a.toInt) : (a.toNatClampNeg : Int) = a.toInt := clamp_int h
-- states
theorem w3_sc {σ : SX} {j k j' : Nat} {i x : Int32} : (w3 σ j k i x j').1 = (σ j').1 := by
  unfold w3 w2
  by_cases h : j' = j
  · subst h; simp
  · simp [h]
theorem w2_sc {σ : SX} {j k j' : Nat} {f : Nat → Int32} : (w2 σ j k f j').1 = (σ j').1 := by
  unfold w2
  by_cases h : j' = j
  · subst h; simp
  · simp [h]
theorem w1_ar {σ : SX} {j k j' : Nat} {v : Int32} : (w1 σ j k v j').2 = (σ j').2 := by
  unfold w1
  by_cases h : j' = j
  · subst h; simp
  · simp [h]
theorem w1_ne {σ : SX} {j k j' : Nat} {v : Int32} (h : j' ≠ j) : w1 σ j k v j' = σ j' := if_neg h
theorem w3_ne {σ : SX} {j k j' : Nat} {i x : Int32} (h : j' ≠ j) : w3 σ j k i x j' = σ j' := if_neg h
theorem w2_ne {σ : SX} {j k j' : Nat} {f : Nat → Int32} (h : j' ≠ j) : w2 σ j k f j' = σ j' := if_neg h
theorem w1_eq {σ : SX} {j k : Nat} {v : Int32} : (w1 σ j k v j).1 k = v := by simp [w1]
theorem w1_k {σ : SX} {j k k' : Nat} {v : Int32} (h : k' ≠ k) : (w1 σ j k v j).1 k' = (σ j).1 k' := by simp [w1, h]
theorem w2_eq {σ : SX} {j k : Nat} {f : Nat → Int32} : (w2 σ j k f j).2 k = f := by simp [w2]
theorem w2_k {σ : SX} {j k k' : Nat} {f : Nat → Int32} (h : k' ≠ k) : (w2 σ j k f j).2 k' = (σ j).2 k' := by simp [w2, h]
theorem w3_eq {σ : SX} {j k : Nat} {i x : Int32} : (w3 σ j k i x j).2 k = upd ((σ j).2 k) i.toNatClampNeg x := w2_eq
theorem w3_k {σ : SX} {j k k' : Nat} {i x : Int32} (h : k' ≠ k) : (w3 σ j k i x j).2 k' = (σ j).2 k' := w2_k h
-- sums of lengths
def sumL (f : Nat → Int32) : Nat → Int
  | 0 => 0
  | n + 1 => sumL f n + (f n).toInt
theorem sumL_congr {f g : Nat → Int32} : ∀ {n : Nat}, (∀ k, k < n → f k = g k) → sumL f n = sumL g n
  | 0, _ => rfl
  | n + 1, h => by rw [sumL, sumL, sumL_congr (fun k hk => h k (by omega)), h n (by omega)]
theorem sumL_nn {f : Nat → Int32} : ∀ {n : Nat}, (∀ k, k < n → 0 ≤ (f k).toInt) → 0 ≤ sumL f n
  | 0, _ => Int.le_refl 0
  | n + 1, h => by
    have := sumL_nn (f := f) (n := n) (fun k hk => h k (by omega))
    have := h n (by omega)
    rw [sumL]; omega
theorem sumL_mono {f : Nat → Int32} {m : Nat} : ∀ {n : Nat}, m ≤ n → (∀ k, k < n → 0 ≤ (f k).toInt) → sumL f m ≤ sumL f n
  | 0, h, _ => by rw [show m = 0 by omega]; exact Int.le_refl _
  | n + 1, h, hn => by
    by_cases e : m = n + 1
    · rw [e]; exact Int.le_refl _
    · have := sumL_mono (f := f) (m := m) (n := n) (by omega) (fun k hk => hn k (by omega))
      have := hn n (by omega)
      rw [sumL]; omega
/-- the first is taken away -/
theorem sumL_shift {f : Nat → Int32} : ∀ {n : Nat}, sumL (fun k => f (k + 1)) n = sumL f (n + 1) - (f 0).toInt
  | 0 => by simp [sumL]
  | n + 1 => by
    rw [sumL, sumL_shift (n := n), sumL.eq_2 f (n + 1)]
    omega
/-- a tape: how many runs, the sum of their lengths -/
def iT (τ : SS) : Prop := 0 ≤ (τ.1 1).toInt ∧ (τ.1 1).toInt ≤ 150 ∧ (τ.1 0).toInt ≤ 150 ∧ (∀ k, k < (τ.1 1).toInt.toNat → 0 ≤ (τ.2 2 k).toInt) ∧ sumL (τ.2 2) (τ.1 1).toInt.toNat = (τ.1 0).toInt
def iS (τ : SS) : Prop := 0 ≤ (τ.1 1).toInt ∧ (τ.1 1).toInt ≤ 8
/-- what the class's state keeps -/
def IX (σ : SX) : Prop := (0 ≤ ((σ 0).1 0).toInt ∧ ((σ 0).1 0).toInt ≤ 3) ∧ (∀ r, r < 4 → 0 ≤ ((σ 0).2 1 r).toInt ∧ ((σ 0).2 1 r).toInt < 4) ∧ (0 ≤ ((σ 1).1 0).toInt ∧ ((σ 1).1 0).toInt ≤ 150) ∧ (0 ≤ ((σ 1).1 1).toInt ∧ ((σ 1).1 1).toInt ≤ 3) ∧
  (0 ≤ ((σ 2).1 0).toInt ∧ ((σ 2).1 0).toInt ≤ 8) ∧ iS (σ 2) ∧ iS (σ 3) ∧ (0 ≤ ((σ 4).1 1).toInt ∧ ((σ 4).1 1).toInt < 3) ∧ isB ((σ 5).1 1) = true ∧ (0 ≤ ((σ 6).1 0).toInt ∧ ((σ 6).1 0).toInt ≤ 150) ∧ ∀ i, i < 4 → iT (σ (7 + i))
