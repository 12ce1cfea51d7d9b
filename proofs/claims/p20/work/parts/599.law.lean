/-! The law: every turn keeps the tie. -/
theorem bH_s {β : Type} {r : Int32} {s : SX} {g : Nat → Int64} {k : Int32 → SX → (Nat → Int64) → Option β} : bH (some (r, s, g)) k = k r s g := rfl
theorem up0 {f : Nat → Int64} {x : Int64} : vp_updL f (0 : Int32).toNatClampNeg x (0 : Int32).toNatClampNeg = x := if_pos rfl
theorem lg_s {x : Int64} : lg_cmp x x = 0 := by
  have e : ¬ x > x := fun q => by
    have q2 : x < x := q
    rw [Int64.lt_iff_toInt_lt] at q2; omega
  unfold lg_cmp
  rw [if_neg e, if_pos rfl]
theorem ite_some {c : Prop} [Decidable c] {a b : Option Unit} (h1 : c → a = some ()) (h2 : ¬ c → b = some ()) : (if c then a else b) = some () := by
  by_cases h : c
  · rw [if_pos h]; exact h1 h
  · rw [if_neg h]; exact h2 h
theorem q_0 {N : Nat} {xs : Nat → Int32} {L : Nat} {k : SX → SX → (Nat → Int64) → Int32 → Option Unit} {σ μ : SX} {f : Nat → Int64} {i : Int32} (hN : 400 ≤ N) (h1 : inb (i + 1) L = true) (h2 : inb (i + 2) L = true) (h3 : inb (i + 3) L = true) (hk : ∀ σ μ f, R σ μ → k σ μ f i = some ()) (h : R σ μ) : m_case_0 N xs L k σ μ f i = some () := by
  unfold m_case_0
  rw [if_pos h1, if_pos h2]
  rcases card_eq (N := N) (a := (xs (i + 1).toNatClampNeg)) (b := (xs (i + 2).toNatClampNeg)) (f := f) h with ⟨v, σ1, μ1, e1, e2, e3, e4⟩ | ⟨c, v, μ1, e0, e1, e2, e3, e4⟩
  · rw [e1, bH_s, if_pos h1, if_pos h2, e2, bI_s]
    exact hk _ _ _ e4
  · rw [e1, bH_s, if_pos h1, if_pos h2, e2, bI_s]
    exact hk _ _ _ e4
theorem q_1 {N : Nat} {xs : Nat → Int32} {L : Nat} {k : SX → SX → (Nat → Int64) → Int32 → Option Unit} {σ μ : SX} {f : Nat → Int64} {i : Int32} (hN : 400 ≤ N) (h1 : inb (i + 1) L = true) (h2 : inb (i + 2) L = true) (h3 : inb (i + 3) L = true) (hk : ∀ σ μ f, R σ μ → k σ μ f i = some ()) (h : R σ μ) : m_case_1 N xs L k σ μ f i = some () := by
  unfold m_case_1
  rw [if_pos h1, if_pos h2]
  rcases part_eq (N := N) (a := (xs (i + 1).toNatClampNeg)) (b := (xs (i + 2).toNatClampNeg)) (f := f) h with ⟨v, σ1, μ1, e1, e2, e3, e4⟩ | ⟨c, v, μ1, e0, e1, e2, e3, e4⟩
  · rw [e1, bH_s, if_pos h1, if_pos h2, e2, bI_s]
    exact hk _ _ _ e4
  · rw [e1, bH_s, if_pos h1, if_pos h2, e2, bI_s]
    exact hk _ _ _ e4
theorem q_2 {N : Nat} {xs : Nat → Int32} {L : Nat} {k : SX → SX → (Nat → Int64) → Int32 → Option Unit} {σ μ : SX} {f : Nat → Int64} {i : Int32} (hN : 400 ≤ N) (h1 : inb (i + 1) L = true) (h2 : inb (i + 2) L = true) (h3 : inb (i + 3) L = true) (hk : ∀ σ μ f, R σ μ → k σ μ f i = some ()) (h : R σ μ) : m_case_2 N xs L k σ μ f i = some () := by
  unfold m_case_2
  obtain ⟨c, σ1, μ1, e1, e2, e3, e4⟩ := start_eq (N := N) (f := f) (by omega) h
  rw [e1, bH_s, e2, bV_s]
  exact hk _ _ _ e4
theorem q_3 {N : Nat} {xs : Nat → Int32} {L : Nat} {k : SX → SX → (Nat → Int64) → Int32 → Option Unit} {σ μ : SX} {f : Nat → Int64} {i : Int32} (hN : 400 ≤ N) (h1 : inb (i + 1) L = true) (h2 : inb (i + 2) L = true) (h3 : inb (i + 3) L = true) (hk : ∀ σ μ f, R σ μ → k σ μ f i = some ()) (h : R σ μ) : m_case_3 N xs L k σ μ f i = some () := by
  unfold m_case_3
  obtain ⟨v, σ1, μ1, e1, e2, e4⟩ := clear_eq (N := N) (by omega) h
  rw [e1, bI_s, e2, bI_s]
  exact hk _ _ _ e4
theorem q_4 {N : Nat} {xs : Nat → Int32} {L : Nat} {k : SX → SX → (Nat → Int64) → Int32 → Option Unit} {σ μ : SX} {f : Nat → Int64} {i : Int32} (hN : 400 ≤ N) (h1 : inb (i + 1) L = true) (h2 : inb (i + 2) L = true) (h3 : inb (i + 3) L = true) (hk : ∀ σ μ f, R σ μ → k σ μ f i = some ()) (h : R σ μ) : m_case_4 N xs L k σ μ f i = some () := by
  unfold m_case_4
  rw [if_pos h1]
  rcases step_eq (N := N) (a := (xs (i + 1).toNatClampNeg)) (f := f) hN h with ⟨v, σ1, μ1, e1, e2, e3, e4⟩ | ⟨c, v, μ1, e0, e1, e2, e3, e4⟩
  · rw [e1, bH_s, if_pos h1, e2, bI_s]
    exact hk _ _ _ e4
  · rw [e1, bH_s, if_pos h1, e2, bI_s]
    exact hk _ _ _ e4
theorem q_5 {N : Nat} {xs : Nat → Int32} {L : Nat} {k : SX → SX → (Nat → Int64) → Int32 → Option Unit} {σ μ : SX} {f : Nat → Int64} {i : Int32} (hN : 400 ≤ N) (h1 : inb (i + 1) L = true) (h2 : inb (i + 2) L = true) (h3 : inb (i + 3) L = true) (hk : ∀ σ μ f, R σ μ → k σ μ f i = some ()) (h : R σ μ) : m_case_5 N xs L k σ μ f i = some () := by
  unfold m_case_5
  rw [if_pos h1, if_pos h2]
  rcases fault_eq (N := N) (a := (xs (i + 1).toNatClampNeg)) (b := (xs (i + 2).toNatClampNeg)) (f := f) h with ⟨v, σ1, μ1, e1, e2, e3, e4⟩ | ⟨c, v, μ1, e0, e1, e2, e3, e4⟩
  · rw [e1, bH_s, if_pos h1, if_pos h2, e2, bI_s]
    exact hk _ _ _ e4
  · rw [e1, bH_s, if_pos h1, if_pos h2, e2, bI_s]
    exact hk _ _ _ e4
theorem q_6 {N : Nat} {xs : Nat → Int32} {L : Nat} {k : SX → SX → (Nat → Int64) → Int32 → Option Unit} {σ μ : SX} {f : Nat → Int64} {i : Int32} (hN : 400 ≤ N) (h1 : inb (i + 1) L = true) (h2 : inb (i + 2) L = true) (h3 : inb (i + 3) L = true) (hk : ∀ σ μ f, R σ μ → k σ μ f i = some ()) (h : R σ μ) : m_case_6 N xs L k σ μ f i = some () := by
  unfold m_case_6
  rw [if_pos h1]
  obtain ⟨v, σ1, μ1, e1, e2, e4⟩ := cut_eq (N := N) (a := (xs (i + 1).toNatClampNeg)) h
  rw [e1, bI_s, if_pos h1, e2, bI_s]
  exact hk _ _ _ e4
theorem q_7 {N : Nat} {xs : Nat → Int32} {L : Nat} {k : SX → SX → (Nat → Int64) → Int32 → Option Unit} {σ μ : SX} {f : Nat → Int64} {i : Int32} (hN : 400 ≤ N) (h1 : inb (i + 1) L = true) (h2 : inb (i + 2) L = true) (h3 : inb (i + 3) L = true) (hk : ∀ σ μ f, R σ μ → k σ μ f i = some ()) (h : R σ μ) : m_case_7 N xs L k σ μ f i = some () := by
  unfold m_case_7
  obtain ⟨v, σ1, μ1, e1, e2, e4⟩ := res_eq (N := N) h
  rw [e1, bI_s, e2, bI_s]
  exact hk _ _ _ e4
theorem q_8 {N : Nat} {xs : Nat → Int32} {L : Nat} {k : SX → SX → (Nat → Int64) → Int32 → Option Unit} {σ μ : SX} {f : Nat → Int64} {i : Int32} (hN : 400 ≤ N) (h1 : inb (i + 1) L = true) (h2 : inb (i + 2) L = true) (h3 : inb (i + 3) L = true) (hk : ∀ σ μ f, R σ μ → k σ μ f i = some ()) (h : R σ μ) : m_case_8 N xs L k σ μ f i = some () := by
  unfold m_case_8
  obtain ⟨v, μ1, e1, e2, e4⟩ := phase_eq (N := N) h
  rw [e1, bI_s, e2, bI_s]
  exact hk _ _ _ e4
theorem q_9 {N : Nat} {xs : Nat → Int32} {L : Nat} {k : SX → SX → (Nat → Int64) → Int32 → Option Unit} {σ μ : SX} {f : Nat → Int64} {i : Int32} (hN : 400 ≤ N) (h1 : inb (i + 1) L = true) (h2 : inb (i + 2) L = true) (h3 : inb (i + 3) L = true) (hk : ∀ σ μ f, R σ μ → k σ μ f i = some ()) (h : R σ μ) : m_case_9 N xs L k σ μ f i = some () := by
  unfold m_case_9
  obtain ⟨v, μ1, e1, e2, e4⟩ := level_eq (N := N) h
  rw [e1, bI_s, e2, bI_s]
  exact hk _ _ _ e4
theorem q_10 {N : Nat} {xs : Nat → Int32} {L : Nat} {k : SX → SX → (Nat → Int64) → Int32 → Option Unit} {σ μ : SX} {f : Nat → Int64} {i : Int32} (hN : 400 ≤ N) (h1 : inb (i + 1) L = true) (h2 : inb (i + 2) L = true) (h3 : inb (i + 3) L = true) (hk : ∀ σ μ f, R σ μ → k σ μ f i = some ()) (h : R σ μ) : m_case_10 N xs L k σ μ f i = some () := by
  unfold m_case_10
  rw [if_pos h1]
  obtain ⟨v, μ1, e1, e2, e4⟩ := runs_eq (N := N) (a := (xs (i + 1).toNatClampNeg)) h
  rw [e1, bI_s, if_pos h1, e2, bI_s]
  exact hk _ _ _ e4
theorem q_11 {N : Nat} {xs : Nat → Int32} {L : Nat} {k : SX → SX → (Nat → Int64) → Int32 → Option Unit} {σ μ : SX} {f : Nat → Int64} {i : Int32} (hN : 400 ≤ N) (h1 : inb (i + 1) L = true) (h2 : inb (i + 2) L = true) (h3 : inb (i + 3) L = true) (hk : ∀ σ μ f, R σ μ → k σ μ f i = some ()) (h : R σ μ) : m_case_11 N xs L k σ μ f i = some () := by
  unfold m_case_11
  rw [if_pos h1]
  obtain ⟨v, w, μ1, e1, e2, e4⟩ := dums_eq (N := N) (a := (xs (i + 1).toNatClampNeg)) h
  rw [e1, bI_s, if_pos h1, e2, bI_s]
  exact hk _ _ _ e4
theorem q_12 {N : Nat} {xs : Nat → Int32} {L : Nat} {k : SX → SX → (Nat → Int64) → Int32 → Option Unit} {σ μ : SX} {f : Nat → Int64} {i : Int32} (hN : 400 ≤ N) (h1 : inb (i + 1) L = true) (h2 : inb (i + 2) L = true) (h3 : inb (i + 3) L = true) (hk : ∀ σ μ f, R σ μ → k σ μ f i = some ()) (h : R σ μ) : m_case_12 N xs L k σ μ f i = some () := by
  unfold m_case_12
  rw [if_pos h1]
  obtain ⟨v, μ1, e1, e2, e4⟩ := role_eq (N := N) (a := (xs (i + 1).toNatClampNeg)) (by omega) h
  rw [e1, bI_s, if_pos h1, e2, bI_s]
  exact hk _ _ _ e4
theorem q_13 {N : Nat} {xs : Nat → Int32} {L : Nat} {k : SX → SX → (Nat → Int64) → Int32 → Option Unit} {σ μ : SX} {f : Nat → Int64} {i : Int32} (hN : 400 ≤ N) (h1 : inb (i + 1) L = true) (h2 : inb (i + 2) L = true) (h3 : inb (i + 3) L = true) (hk : ∀ σ μ f, R σ μ → k σ μ f i = some ()) (h : R σ μ) : m_case_13 N xs L k σ μ f i = some () := by
  unfold m_case_13
  rw [if_pos h1, if_pos h2]
  obtain ⟨v, μ1, e1, e2, e4⟩ := len_q (N := N) (a := (xs (i + 1).toNatClampNeg)) (b := (xs (i + 2).toNatClampNeg)) h
  rw [e1, bI_s, if_pos h1, if_pos h2, e2, bI_s]
  exact hk _ _ _ e4
theorem q_14 {N : Nat} {xs : Nat → Int32} {L : Nat} {k : SX → SX → (Nat → Int64) → Int32 → Option Unit} {σ μ : SX} {f : Nat → Int64} {i : Int32} (hN : 400 ≤ N) (h1 : inb (i + 1) L = true) (h2 : inb (i + 2) L = true) (h3 : inb (i + 3) L = true) (hk : ∀ σ μ f, R σ μ → k σ μ f i = some ()) (h : R σ μ) : m_case_14 N xs L k σ μ f i = some () := by
  unfold m_case_14
  rw [if_pos h1, if_pos h2, if_pos h3]
  obtain ⟨v, μ1, e1, e2, e4⟩ := at_q (N := N) (a := (xs (i + 1).toNatClampNeg)) (b := (xs (i + 2).toNatClampNeg)) (d := (xs (i + 3).toNatClampNeg)) (by omega) h
  rw [e1, bI_s, if_pos h1, if_pos h2, if_pos h3, e2, bI_s]
  exact hk _ _ _ e4
theorem q_15 {N : Nat} {xs : Nat → Int32} {L : Nat} {k : SX → SX → (Nat → Int64) → Int32 → Option Unit} {σ μ : SX} {f : Nat → Int64} {i : Int32} (hN : 400 ≤ N) (h1 : inb (i + 1) L = true) (h2 : inb (i + 2) L = true) (h3 : inb (i + 3) L = true) (hk : ∀ σ μ f, R σ μ → k σ μ f i = some ()) (h : R σ μ) : m_case_15 N xs L k σ μ f i = some () := by
  unfold m_case_15
  rw [if_pos h1]
  obtain ⟨v, μ1, e1, e2, e4⟩ := mem_eq (N := N) (a := (xs (i + 1).toNatClampNeg)) (by omega) h
  rw [e1, bI_s, if_pos h1, e2, bI_s]
  exact hk _ _ _ e4
theorem q_16 {N : Nat} {xs : Nat → Int32} {L : Nat} {k : SX → SX → (Nat → Int64) → Int32 → Option Unit} {σ μ : SX} {f : Nat → Int64} {i : Int32} (hN : 400 ≤ N) (h1 : inb (i + 1) L = true) (h2 : inb (i + 2) L = true) (h3 : inb (i + 3) L = true) (hk : ∀ σ μ f, R σ μ → k σ μ f i = some ()) (h : R σ μ) : m_case_16 N xs L k σ μ f i = some () := by
  unfold m_case_16
  obtain ⟨v, μ1, e1, e2, e4⟩ := wri_eq (N := N) h
  rw [e1, bI_s, e2, bI_s]
  exact hk _ _ _ e4
theorem q_17 {N : Nat} {xs : Nat → Int32} {L : Nat} {k : SX → SX → (Nat → Int64) → Int32 → Option Unit} {σ μ : SX} {f : Nat → Int64} {i : Int32} (hN : 400 ≤ N) (h1 : inb (i + 1) L = true) (h2 : inb (i + 2) L = true) (h3 : inb (i + 3) L = true) (hk : ∀ σ μ f, R σ μ → k σ μ f i = some ()) (h : R σ μ) : m_case_17 N xs L k σ μ f i = some () := by
  unfold m_case_17
  obtain ⟨v, μ1, e1, e2, e4⟩ := bro_eq (N := N) h
  rw [e1, bI_s, e2, bI_s]
  exact hk _ _ _ e4
theorem q_18 {N : Nat} {xs : Nat → Int32} {L : Nat} {k : SX → SX → (Nat → Int64) → Int32 → Option Unit} {σ μ : SX} {f : Nat → Int64} {i : Int32} (hN : 400 ≤ N) (h1 : inb (i + 1) L = true) (h2 : inb (i + 2) L = true) (h3 : inb (i + 3) L = true) (hk : ∀ σ μ f, R σ μ → k σ μ f i = some ()) (h : R σ μ) : m_case_18 N xs L k σ μ f i = some () := by
  unfold m_case_18
  rw [if_pos h1]
  obtain ⟨v, μ1, e1, e2, e4⟩ := sor_eq (N := N) (a := (xs (i + 1).toNatClampNeg)) (by omega) h
  rw [e1, bI_s, if_pos h1, e2, bI_s, if_pos rfl]
  exact hk _ _ _ e4
theorem q_19 {N : Nat} {xs : Nat → Int32} {L : Nat} {k : SX → SX → (Nat → Int64) → Int32 → Option Unit} {σ μ : SX} {f : Nat → Int64} {i : Int32} (hN : 400 ≤ N) (h1 : inb (i + 1) L = true) (h2 : inb (i + 2) L = true) (h3 : inb (i + 3) L = true) (hk : ∀ σ μ f, R σ μ → k σ μ f i = some ()) (h : R σ μ) : m_case_19 N xs L k σ μ f i = some () := by
  unfold m_case_19
  rw [if_pos h1, if_pos h2]
  obtain ⟨v, μ1, e1, e2, e4⟩ := com_eq (N := N) (a := (xs (i + 1).toNatClampNeg)) (b := (xs (i + 2).toNatClampNeg)) (by omega) h
  rw [e1, bI_s, if_pos h1, if_pos h2, e2, bI_s]
  exact hk _ _ _ e4
theorem q_20 {N : Nat} {xs : Nat → Int32} {L : Nat} {k : SX → SX → (Nat → Int64) → Int32 → Option Unit} {σ μ : SX} {f : Nat → Int64} {i : Int32} (hN : 400 ≤ N) (h1 : inb (i + 1) L = true) (h2 : inb (i + 2) L = true) (h3 : inb (i + 3) L = true) (hk : ∀ σ μ f, R σ μ → k σ μ f i = some ()) (h : R σ μ) : m_case_20 N xs L k σ μ f i = some () := by
  unfold m_case_20
  rw [if_pos h1, if_pos h2]
  obtain ⟨v, μ1, e1, e2, e4⟩ := fld_eq (N := N) (a := (xs (i + 1).toNatClampNeg)) (b := (xs (i + 2).toNatClampNeg)) h
  rw [e1, bI_s, if_pos h1, if_pos h2, e2, bI_s]
  exact hk _ _ _ e4
theorem turn_q {N : Nat} {xs : Nat → Int32} {L : Nat} {k : SX → SX → (Nat → Int64) → Int32 → Option Unit} {σ μ : SX} {f : Nat → Int64} {i : Int32} (hN : 400 ≤ N) (h1 : inb (i + 1) L = true) (h2 : inb (i + 2) L = true) (h3 : inb (i + 3) L = true) (hk : ∀ σ μ f, R σ μ → k σ μ f i = some ()) (h : R σ μ) (h0 : inb i L = true) : m_turn N xs L k σ μ f i = some () := by
  rw [m_turn, if_pos h0]
  refine ite_some (fun _ => q_0 hN h1 h2 h3 hk h) (fun _ => ?_)
  refine ite_some (fun _ => q_1 hN h1 h2 h3 hk h) (fun _ => ?_)
  refine ite_some (fun _ => q_2 hN h1 h2 h3 hk h) (fun _ => ?_)
  refine ite_some (fun _ => q_3 hN h1 h2 h3 hk h) (fun _ => ?_)
  refine ite_some (fun _ => q_4 hN h1 h2 h3 hk h) (fun _ => ?_)
  refine ite_some (fun _ => q_5 hN h1 h2 h3 hk h) (fun _ => ?_)
  refine ite_some (fun _ => q_6 hN h1 h2 h3 hk h) (fun _ => ?_)
  refine ite_some (fun _ => q_7 hN h1 h2 h3 hk h) (fun _ => ?_)
  refine ite_some (fun _ => q_8 hN h1 h2 h3 hk h) (fun _ => ?_)
  refine ite_some (fun _ => q_9 hN h1 h2 h3 hk h) (fun _ => ?_)
  refine ite_some (fun _ => q_10 hN h1 h2 h3 hk h) (fun _ => ?_)
  refine ite_some (fun _ => q_11 hN h1 h2 h3 hk h) (fun _ => ?_)
  refine ite_some (fun _ => q_12 hN h1 h2 h3 hk h) (fun _ => ?_)
  refine ite_some (fun _ => q_13 hN h1 h2 h3 hk h) (fun _ => ?_)
  refine ite_some (fun _ => q_14 hN h1 h2 h3 hk h) (fun _ => ?_)
  refine ite_some (fun _ => q_15 hN h1 h2 h3 hk h) (fun _ => ?_)
  refine ite_some (fun _ => q_16 hN h1 h2 h3 hk h) (fun _ => ?_)
  refine ite_some (fun _ => q_17 hN h1 h2 h3 hk h) (fun _ => ?_)
  refine ite_some (fun _ => q_18 hN h1 h2 h3 hk h) (fun _ => ?_)
  refine ite_some (fun _ => q_19 hN h1 h2 h3 hk h) (fun _ => ?_)
  refine ite_some (fun _ => q_20 hN h1 h2 h3 hk h) (fun _ => ?_)
  exact hk _ _ _ h
theorem law_l {N : Nat} {xs : Nat → Int32} {L : Nat} (hN : 400 ≤ N) (h5 : 5 ≤ L) (hL : L ≤ 2049) : ∀ (n j : Nat) (σ μ : SX) (f : Nat → Int64), R σ μ → 1 ≤ n → L < 4 * n + 4 * j + 1 → j ≤ 600 → m_law N xs L n σ μ f (n32 (1 + 4 * j)) = some () := by
  intro n
  induction n with
  | zero => intro j σ μ f _ h; omega
  | succ n ih =>
    intro j σ μ f h _ hj hj6
    rw [m_law, show Int32.ofNat L = n32 L from rfl, l4, n32_sub (by omega)]
    by_cases e : L - 4 < 1 + 4 * j
    · rw [if_pos (show n32 (L - 4) < n32 (1 + 4 * j) by rw [n32_lt (by omega) (by omega)]; exact e)]
    · rw [if_neg (show ¬ n32 (L - 4) < n32 (1 + 4 * j) by rw [n32_lt (by omega) (by omega)]; exact e)]
      refine turn_q hN ?_ ?_ ?_ (fun σ' μ' f' h' => ?_) h ?_
      · rw [l1, n32_add]; exact inbn (by omega) (by omega)
      · rw [l2, n32_add]; exact inbn (by omega) (by omega)
      · rw [l3, n32_add]; exact inbn (by omega) (by omega)
      · rw [n32_add, show 1 + 4 * j + 4 = 1 + 4 * (j + 1) by omega]
        exact ih (j + 1) σ' μ' f' h' (by omega) (by omega) (by omega)
      · exact inbn (by omega) (by omega)
theorem rm4_n (v : Int32) : ∃ r, 1 ≤ r ∧ r ≤ 8 ∧ rm4 v = n32 r := by
  by_cases h : v < 1
  · exact ⟨4, by omega, by omega, by rw [rm4_a h]; rfl⟩
  by_cases h2 : 8 < v
  · exact ⟨4, by omega, by omega, by rw [rm4_b h h2]; rfl⟩
  have nn : ¬ v < 0 := fun q => h (by rw [Int32.lt_iff_toInt_lt] at q ⊢; have : (1 : Int32).toInt = 1 := rfl; have : (0 : Int32).toInt = 0 := rfl; omega)
  obtain ⟨n, hn, rfl⟩ := ge0 nn
  rw [l1, n32_lt (by omega) (by omega)] at h
  rw [l8, n32_lt (by omega) (by omega)] at h2
  exact ⟨n, by omega, by omega, rm4_c (by rw [l1, n32_lt (by omega) (by omega)]; exact h) (by rw [l8, n32_lt (by omega) (by omega)]; exact h2)⟩
theorem R_ini (v : Int32) : R (iniX v) (iniM v) := by
  obtain ⟨r, r1, r8, er⟩ := rm4_n v
  unfold iniX iniM
  rw [er]
  refine ⟨0, 0, ⟨⟨⟨rfl, rfl, by omega⟩, ⟨rfl, rfl, by omega⟩, fun k hk => by omega, fun k hk => by omega⟩, ⟨rfl, rfl, Or.inr rfl, Or.inl ⟨rfl, rfl⟩⟩, fun t ht => ?_, ⟨r, r1, r8, rfl, rfl⟩, rfl⟩, 0, rfl, rfl, Or.inl ⟨rfl, ⟨⟨rfl, rfl, by omega⟩, ⟨rfl, rfl, by omega⟩, fun k hk => by omega⟩, fun t ht => ?_, fun t ht => ?_, rfl⟩⟩
  all_goals rcases (show t = 0 ∨ t = 1 ∨ t = 2 ∨ t = 3 by omega) with rfl | rfl | rfl | rfl
  · exact ⟨rfl, 0, by omega, rfl⟩
  · exact ⟨rfl, 0, by omega, rfl⟩
  · exact ⟨rfl, 0, by omega, rfl⟩
  · exact ⟨rfl, 0, by omega, rfl⟩
  · exact tap_0 rfl rfl rfl
  · exact tap_0 rfl rfl rfl
  · exact tap_0 rfl rfl rfl
  · exact tap_0 rfl rfl rfl
  · exact ⟨rfl, rfl⟩
  · exact ⟨rfl, rfl⟩
  · exact ⟨rfl, rfl⟩
  · exact ⟨rfl, rfl⟩
theorem pure_all (xs : Nat → Int32) {L : Nat} (hL : L ≤ 2049) : m_law 1000 xs L 1000 (iniX (cellv xs L)) (iniM (cellv xs L)) (fun _ => 0) 1 = some () := by
  by_cases h5 : 5 ≤ L
  · have := law_l (N := 1000) (xs := xs) (by omega) h5 hL 1000 0 (iniX (cellv xs L)) (iniM (cellv xs L)) (fun _ => 0) (R_ini _) (by omega) (by omega) (by omega)
    exact this
  · rcases (show L = 0 ∨ L = 1 ∨ L = 2 ∨ L = 3 ∨ L = 4 by omega) with rfl | rfl | rfl | rfl | rfl
    · rw [show (1000 : Nat) = 999 + 1 from rfl, m_law, if_pos (by decide)]
    · rw [show (1000 : Nat) = 999 + 1 from rfl, m_law, if_pos (by decide)]
    · rw [show (1000 : Nat) = 999 + 1 from rfl, m_law, if_pos (by decide)]
    · rw [show (1000 : Nat) = 999 + 1 from rfl, m_law, if_pos (by decide)]
    · rw [show (1000 : Nat) = 999 + 1 from rfl, m_law, if_pos (by decide)]
