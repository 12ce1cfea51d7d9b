def m_case_0 (N : Nat) (xs : Nat → Int32) (L : Nat) (k33 : SX → SX → (Nat → Int64) → Int32 → Option Unit) (σ μ : SX) (f : Nat → Int64) (i : Int32) : Option Unit :=
  (if inb (i + 1) L = true then (if inb (i + 2) L = true then (bH (m_L_card N σ f (xs (i + 1).toNatClampNeg) (xs (i + 2).toNatClampNeg)) fun r162 y162 z162 => (if inb (i + 1) L = true then (if inb (i + 2) L = true then (bI (m_M_card N μ (xs (i + 1).toNatClampNeg) (xs (i + 2).toNatClampNeg)) fun r180 σ180 => k33 y162 σ180 z162 i) else none) else none)) else none) else none)

def m_case_1 (N : Nat) (xs : Nat → Int32) (L : Nat) (k33 : SX → SX → (Nat → Int64) → Int32 → Option Unit) (σ μ : SX) (f : Nat → Int64) (i : Int32) : Option Unit :=
  (if inb (i + 1) L = true then (if inb (i + 2) L = true then (bH (m_L_part N σ f (xs (i + 1).toNatClampNeg) (xs (i + 2).toNatClampNeg)) fun r202 y202 z202 => (if inb (i + 1) L = true then (if inb (i + 2) L = true then (bI (m_M_part N μ (xs (i + 1).toNatClampNeg) (xs (i + 2).toNatClampNeg)) fun r220 σ220 => k33 y202 σ220 z202 i) else none) else none)) else none) else none)

def m_case_2 (N : Nat) (xs : Nat → Int32) (L : Nat) (k33 : SX → SX → (Nat → Int64) → Int32 → Option Unit) (σ μ : SX) (f : Nat → Int64) (i : Int32) : Option Unit :=
  (bH (m_L_start N σ f) fun r229 y229 z229 => (bV (m_M_start N μ) fun σ235 => k33 y229 σ235 z229 i))

def m_case_3 (N : Nat) (xs : Nat → Int32) (L : Nat) (k33 : SX → SX → (Nat → Int64) → Int32 → Option Unit) (σ μ : SX) (f : Nat → Int64) (i : Int32) : Option Unit :=
  (bI (m_O_clear N σ) fun r242 σ242 => (bI (m_M_clear N μ) fun r247 σ247 => k33 σ242 σ247 f i))

def m_case_4 (N : Nat) (xs : Nat → Int32) (L : Nat) (k33 : SX → SX → (Nat → Int64) → Int32 → Option Unit) (σ μ : SX) (f : Nat → Int64) (i : Int32) : Option Unit :=
  (if inb (i + 1) L = true then (bH (m_L_step N σ f (xs (i + 1).toNatClampNeg)) fun r262 y262 z262 => (if inb (i + 1) L = true then (bI (m_M_step N μ (xs (i + 1).toNatClampNeg)) fun r274 σ274 => k33 y262 σ274 z262 i) else none)) else none)

def m_case_5 (N : Nat) (xs : Nat → Int32) (L : Nat) (k33 : SX → SX → (Nat → Int64) → Int32 → Option Unit) (σ μ : SX) (f : Nat → Int64) (i : Int32) : Option Unit :=
  (if inb (i + 1) L = true then (if inb (i + 2) L = true then (bH (m_L_fault N σ f (xs (i + 1).toNatClampNeg) (xs (i + 2).toNatClampNeg)) fun r296 y296 z296 => (if inb (i + 1) L = true then (if inb (i + 2) L = true then (bI (m_M_fault N μ (xs (i + 1).toNatClampNeg) (xs (i + 2).toNatClampNeg)) fun r314 σ314 => k33 y296 σ314 z296 i) else none) else none)) else none) else none)

def m_case_6 (N : Nat) (xs : Nat → Int32) (L : Nat) (k33 : SX → SX → (Nat → Int64) → Int32 → Option Unit) (σ μ : SX) (f : Nat → Int64) (i : Int32) : Option Unit :=
  (if inb (i + 1) L = true then (bI (m_O_cutAfter N σ (xs (i + 1).toNatClampNeg)) fun r329 σ329 => (if inb (i + 1) L = true then (bI (m_M_cutAfter N μ (xs (i + 1).toNatClampNeg)) fun r340 σ340 => k33 σ329 σ340 f i) else none)) else none)

def m_case_7 (N : Nat) (xs : Nat → Int32) (L : Nat) (k33 : SX → SX → (Nat → Int64) → Int32 → Option Unit) (σ μ : SX) (f : Nat → Int64) (i : Int32) : Option Unit :=
  (bI (m_O_resume N σ) fun r348 σ348 => (bI (m_M_resume N μ) fun r353 σ353 => k33 σ348 σ353 f i))

def m_case_8 (N : Nat) (xs : Nat → Int32) (L : Nat) (k33 : SX → SX → (Nat → Int64) → Int32 → Option Unit) (σ μ : SX) (f : Nat → Int64) (i : Int32) : Option Unit :=
  (bI (m_O_phase N σ) fun r361 _ => (bI (m_M_phase N μ) fun r366 σ366 => k33 σ σ366 f i))

def m_case_9 (N : Nat) (xs : Nat → Int32) (L : Nat) (k33 : SX → SX → (Nat → Int64) → Int32 → Option Unit) (σ μ : SX) (f : Nat → Int64) (i : Int32) : Option Unit :=
  (bI (m_O_level N σ) fun r374 _ => (bI (m_M_level N μ) fun r379 σ379 => k33 σ σ379 f i))

def m_case_10 (N : Nat) (xs : Nat → Int32) (L : Nat) (k33 : SX → SX → (Nat → Int64) → Int32 → Option Unit) (σ μ : SX) (f : Nat → Int64) (i : Int32) : Option Unit :=
  (if inb (i + 1) L = true then (bI (m_O_runs N σ (xs (i + 1).toNatClampNeg)) fun r393 _ => (if inb (i + 1) L = true then (bI (m_M_runs N μ (xs (i + 1).toNatClampNeg)) fun r404 σ404 => k33 σ σ404 f i) else none)) else none)

def m_case_11 (N : Nat) (xs : Nat → Int32) (L : Nat) (k33 : SX → SX → (Nat → Int64) → Int32 → Option Unit) (σ μ : SX) (f : Nat → Int64) (i : Int32) : Option Unit :=
  (if inb (i + 1) L = true then (bI (m_O_dummies N σ (xs (i + 1).toNatClampNeg)) fun r418 _ => (if inb (i + 1) L = true then (bI (m_M_dummies N μ (xs (i + 1).toNatClampNeg)) fun r429 σ429 => k33 σ σ429 f i) else none)) else none)

def m_case_12 (N : Nat) (xs : Nat → Int32) (L : Nat) (k33 : SX → SX → (Nat → Int64) → Int32 → Option Unit) (σ μ : SX) (f : Nat → Int64) (i : Int32) : Option Unit :=
  (if inb (i + 1) L = true then (bI (m_O_role N σ (xs (i + 1).toNatClampNeg)) fun r443 _ => (if inb (i + 1) L = true then (bI (m_M_role N μ (xs (i + 1).toNatClampNeg)) fun r454 σ454 => k33 σ σ454 f i) else none)) else none)

def m_case_13 (N : Nat) (xs : Nat → Int32) (L : Nat) (k33 : SX → SX → (Nat → Int64) → Int32 → Option Unit) (σ μ : SX) (f : Nat → Int64) (i : Int32) : Option Unit :=
  (if inb (i + 1) L = true then (if inb (i + 2) L = true then (bI (m_O_length N σ (xs (i + 1).toNatClampNeg) (xs (i + 2).toNatClampNeg)) fun r474 _ => (if inb (i + 1) L = true then (if inb (i + 2) L = true then (bI (m_M_length N μ (xs (i + 1).toNatClampNeg) (xs (i + 2).toNatClampNeg)) fun r491 σ491 => k33 σ σ491 f i) else none) else none)) else none) else none)

def m_case_14 (N : Nat) (xs : Nat → Int32) (L : Nat) (k33 : SX → SX → (Nat → Int64) → Int32 → Option Unit) (σ μ : SX) (f : Nat → Int64) (i : Int32) : Option Unit :=
  (if inb (i + 1) L = true then (if inb (i + 2) L = true then (if inb (i + 3) L = true then (bI (m_O_at N σ (xs (i + 1).toNatClampNeg) (xs (i + 2).toNatClampNeg) (xs (i + 3).toNatClampNeg)) fun r517 _ => (if inb (i + 1) L = true then (if inb (i + 2) L = true then (if inb (i + 3) L = true then (bI (m_M_at N μ (xs (i + 1).toNatClampNeg) (xs (i + 2).toNatClampNeg) (xs (i + 3).toNatClampNeg)) fun r540 σ540 => k33 σ σ540 f i) else none) else none) else none)) else none) else none) else none)

def m_case_15 (N : Nat) (xs : Nat → Int32) (L : Nat) (k33 : SX → SX → (Nat → Int64) → Int32 → Option Unit) (σ μ : SX) (f : Nat → Int64) (i : Int32) : Option Unit :=
  (if inb (i + 1) L = true then (bI (m_O_memory N σ (xs (i + 1).toNatClampNeg)) fun r554 _ => (if inb (i + 1) L = true then (bI (m_M_memory N μ (xs (i + 1).toNatClampNeg)) fun r565 σ565 => k33 σ σ565 f i) else none)) else none)

def m_case_16 (N : Nat) (xs : Nat → Int32) (L : Nat) (k33 : SX → SX → (Nat → Int64) → Int32 → Option Unit) (σ μ : SX) (f : Nat → Int64) (i : Int32) : Option Unit :=
  (bI (m_O_written N σ) fun r573 _ => (bI (m_M_written N μ) fun r578 σ578 => k33 σ σ578 f i))

def m_case_17 (N : Nat) (xs : Nat → Int32) (L : Nat) (k33 : SX → SX → (Nat → Int64) → Int32 → Option Unit) (σ μ : SX) (f : Nat → Int64) (i : Int32) : Option Unit :=
  (bI (m_O_broken N σ) fun r586 _ => (bI (m_M_broken N μ) fun r591 σ591 => k33 σ σ591 f i))

def m_case_18 (N : Nat) (xs : Nat → Int32) (L : Nat) (k33 : SX → SX → (Nat → Int64) → Int32 → Option Unit) (σ μ : SX) (f : Nat → Int64) (i : Int32) : Option Unit :=
  (if inb (i + 1) L = true then (bI (m_O_sorted N σ (xs (i + 1).toNatClampNeg)) fun r605 _ => (if inb (i + 1) L = true then (bI (m_M_sorted N μ (xs (i + 1).toNatClampNeg)) fun r615 σ615 => (if r605 = r615 then k33 σ σ615 f i else none)) else none)) else none)

def m_case_19 (N : Nat) (xs : Nat → Int32) (L : Nat) (k33 : SX → SX → (Nat → Int64) → Int32 → Option Unit) (σ μ : SX) (f : Nat → Int64) (i : Int32) : Option Unit :=
  (if inb (i + 1) L = true then (if inb (i + 2) L = true then (bI (m_O_compare N σ (xs (i + 1).toNatClampNeg) (xs (i + 2).toNatClampNeg)) fun r636 _ => (if inb (i + 1) L = true then (if inb (i + 2) L = true then (bI (m_M_compare N μ (xs (i + 1).toNatClampNeg) (xs (i + 2).toNatClampNeg)) fun r653 σ653 => k33 σ σ653 f i) else none) else none)) else none) else none)

def m_case_20 (N : Nat) (xs : Nat → Int32) (L : Nat) (k33 : SX → SX → (Nat → Int64) → Int32 → Option Unit) (σ μ : SX) (f : Nat → Int64) (i : Int32) : Option Unit :=
  (if inb (i + 1) L = true then (if inb (i + 2) L = true then (bI (m_O_field N σ (xs (i + 1).toNatClampNeg) (xs (i + 2).toNatClampNeg)) fun r673 _ => (if inb (i + 1) L = true then (if inb (i + 2) L = true then (bI (m_M_field N μ (xs (i + 1).toNatClampNeg) (xs (i + 2).toNatClampNeg)) fun r690 σ690 => k33 σ σ690 f i) else none) else none)) else none) else none)

def m_case_default (N : Nat) (xs : Nat → Int32) (L : Nat) (k33 : SX → SX → (Nat → Int64) → Int32 → Option Unit) (σ μ : SX) (f : Nat → Int64) (i : Int32) : Option Unit :=
  k33 σ μ f i

def m_turn (N : Nat) (xs : Nat → Int32) (L : Nat) (k33 : SX → SX → (Nat → Int64) → Int32 → Option Unit) (σ μ : SX) (f : Nat → Int64) (i : Int32) : Option Unit :=
  (if inb i L = true then (if (xs i.toNatClampNeg &&& 31) = 0 then m_case_0 N xs L k33 σ μ f i else (if (xs i.toNatClampNeg &&& 31) = 1 then m_case_1 N xs L k33 σ μ f i else (if (xs i.toNatClampNeg &&& 31) = 2 then m_case_2 N xs L k33 σ μ f i else (if (xs i.toNatClampNeg &&& 31) = 3 then m_case_3 N xs L k33 σ μ f i else (if (xs i.toNatClampNeg &&& 31) = 4 then m_case_4 N xs L k33 σ μ f i else (if (xs i.toNatClampNeg &&& 31) = 5 then m_case_5 N xs L k33 σ μ f i else (if (xs i.toNatClampNeg &&& 31) = 6 then m_case_6 N xs L k33 σ μ f i else (if (xs i.toNatClampNeg &&& 31) = 7 then m_case_7 N xs L k33 σ μ f i else (if (xs i.toNatClampNeg &&& 31) = 8 then m_case_8 N xs L k33 σ μ f i else (if (xs i.toNatClampNeg &&& 31) = 9 then m_case_9 N xs L k33 σ μ f i else (if (xs i.toNatClampNeg &&& 31) = 10 then m_case_10 N xs L k33 σ μ f i else (if (xs i.toNatClampNeg &&& 31) = 11 then m_case_11 N xs L k33 σ μ f i else (if (xs i.toNatClampNeg &&& 31) = 12 then m_case_12 N xs L k33 σ μ f i else (if (xs i.toNatClampNeg &&& 31) = 13 then m_case_13 N xs L k33 σ μ f i else (if (xs i.toNatClampNeg &&& 31) = 14 then m_case_14 N xs L k33 σ μ f i else (if (xs i.toNatClampNeg &&& 31) = 15 then m_case_15 N xs L k33 σ μ f i else (if (xs i.toNatClampNeg &&& 31) = 16 then m_case_16 N xs L k33 σ μ f i else (if (xs i.toNatClampNeg &&& 31) = 17 then m_case_17 N xs L k33 σ μ f i else (if (xs i.toNatClampNeg &&& 31) = 18 then m_case_18 N xs L k33 σ μ f i else (if (xs i.toNatClampNeg &&& 31) = 19 then m_case_19 N xs L k33 σ μ f i else (if (xs i.toNatClampNeg &&& 31) = 20 then m_case_20 N xs L k33 σ μ f i else m_case_default N xs L k33 σ μ f i))))))))))))))))))))) else none)

def m_law (N : Nat) (xs : Nat → Int32) (L : Nat) : Nat → SX → SX → (Nat → Int64) → Int32 → Option Unit
  | 0, _, _, _, _ => none
  | n + 1, σ, μ, f, i => if (Int32.ofNat L - 4) < i then some () else m_turn N xs L (fun σ μ f i => m_law N xs L n σ μ f (i + 4)) σ μ f i
theorem sw_outL {x : Int32} (h0 : ¬ x = 0) (h1 : ¬ x = 1) (h2 : ¬ x = 2) (h3 : ¬ x = 3) (h4 : ¬ x = 4) (h5 : ¬ x = 5) (h6 : ¬ x = 6) (h7 : ¬ x = 7) (h8 : ¬ x = 8) (h9 : ¬ x = 9) (h10 : ¬ x = 10) (h11 : ¬ x = 11) (h12 : ¬ x = 12) (h13 : ¬ x = 13) (h14 : ¬ x = 14) (h15 : ¬ x = 15) (h16 : ¬ x = 16) (h17 : ¬ x = 17) (h18 : ¬ x = 18) (h19 : ¬ x = 19) (h20 : ¬ x = 20) : x.toInt < 0 ∨ 20 < x.toInt := by
  have a0 : ¬ x.toInt = 0 := fun q => h0 (Int32.toInt_inj.mp (by rw [q]; rfl))
  have a1 : ¬ x.toInt = 1 := fun q => h1 (Int32.toInt_inj.mp (by rw [q]; rfl))
  have a2 : ¬ x.toInt = 2 := fun q => h2 (Int32.toInt_inj.mp (by rw [q]; rfl))
  have a3 : ¬ x.toInt = 3 := fun q => h3 (Int32.toInt_inj.mp (by rw [q]; rfl))
  have a4 : ¬ x.toInt = 4 := fun q => h4 (Int32.toInt_inj.mp (by rw [q]; rfl))
  have a5 : ¬ x.toInt = 5 := fun q => h5 (Int32.toInt_inj.mp (by rw [q]; rfl))
  have a6 : ¬ x.toInt = 6 := fun q => h6 (Int32.toInt_inj.mp (by rw [q]; rfl))
  have a7 : ¬ x.toInt = 7 := fun q => h7 (Int32.toInt_inj.mp (by rw [q]; rfl))
  have a8 : ¬ x.toInt = 8 := fun q => h8 (Int32.toInt_inj.mp (by rw [q]; rfl))
  have a9 : ¬ x.toInt = 9 := fun q => h9 (Int32.toInt_inj.mp (by rw [q]; rfl))
  have a10 : ¬ x.toInt = 10 := fun q => h10 (Int32.toInt_inj.mp (by rw [q]; rfl))
  have a11 : ¬ x.toInt = 11 := fun q => h11 (Int32.toInt_inj.mp (by rw [q]; rfl))
  have a12 : ¬ x.toInt = 12 := fun q => h12 (Int32.toInt_inj.mp (by rw [q]; rfl))
  have a13 : ¬ x.toInt = 13 := fun q => h13 (Int32.toInt_inj.mp (by rw [q]; rfl))
  have a14 : ¬ x.toInt = 14 := fun q => h14 (Int32.toInt_inj.mp (by rw [q]; rfl))
  have a15 : ¬ x.toInt = 15 := fun q => h15 (Int32.toInt_inj.mp (by rw [q]; rfl))
  have a16 : ¬ x.toInt = 16 := fun q => h16 (Int32.toInt_inj.mp (by rw [q]; rfl))
  have a17 : ¬ x.toInt = 17 := fun q => h17 (Int32.toInt_inj.mp (by rw [q]; rfl))
  have a18 : ¬ x.toInt = 18 := fun q => h18 (Int32.toInt_inj.mp (by rw [q]; rfl))
  have a19 : ¬ x.toInt = 19 := fun q => h19 (Int32.toInt_inj.mp (by rw [q]; rfl))
  have a20 : ¬ x.toInt = 20 := fun q => h20 (Int32.toInt_inj.mp (by rw [q]; rfl))
  omega
set_option maxHeartbeats 8000000 in
set_option maxRecDepth 100000 in
theorem law_loop {p : Program} {e : Env} {s : State} {m : MethodId} {below : List Frame} {meth : Method} {c : Code} (l : Launch) (htr : l.stackTraces = false) {b L : Nat} {xs : Nat → Int32} (dC : Nat → ClassId) (dI : Nat → Nat → Nat) (ad bd : Nat → Nat → Nat) (cs : Nat → ClassId) (cL : ClassId) (qo N : Nat)
    (hx : p.tables.exec = Jvm.exec) (hb : c.code = code) (hr : meth.sig.returnType = ret) (hml : c.maxLocals = 7) (hown : s.vm.findClass R_L = some m.cls) (hts : ∀ w ∈ (Cond.initialized R_L :: tb), w.before #[Value.ref b] s = true) (hX : va_X b L xs s s.heap) (hbl : b < s.heap.size) (hlocks : meth.locks = false)
    (hK : va_K (dC, dI) classes (tyW cs) s) (hKl : va_K (dC, dI) classes [(cL, .long)] s) (hN : nwW s) (hZ : stW s) : ∀ (n33 : Nat) (H : Heap) (locs : List Loc) (ls : Array Slot) (st : List Value), (fun n33 H locs ls st => ∃ (σ μ : SX) (f : Nat → Int64) (i : Int32), st = [] ∧ m_law N xs L n33 σ μ f i = some () ∧ n33 ≤ 1000 ∧ lv_has ls 7 [(0, .ref b), (1, .ref (ad 0 0)), (2, .ref (bd 0 0)), (3, .ref qo), (4, .int i)] ∧ va_P (dC, dI) classes (wX ad cs σ) H ∧ va_P (dC, dI) classes (wM bd cs μ) H ∧ va_P (dC, dI) classes [oC qo cL f] H ∧ va_D (fun q => s.heap.size ≤ q) (wL ad cs σ bd μ qo cL f) ∧ va_S (fun q => s.heap.size ≤ q) s.heap H locs) n33 H locs ls st → W p l e room_1 s m #[Value.ref b] below meth c H locs (600000 - n33) (7290000 - 6 * n33) (lw_Z below #[Value.ref b] s) (F0 m 33 ls st) := by
  have htb : ∀ w ∈ tb, w.before #[Value.ref b] s = true := fun w h => hts w (List.mem_cons_of_mem _ h)
  have hA : ∀ q : Nat, s.heap.size ≤ q → s.heap.size ≤ q := fun q h => h
  intro n33
  induction n33 with
  | zero =>
    rintro H locs ls st ⟨σ, μ, f, i, -, hM, -⟩
    rw [m_law] at hM; cases hM
  | succ n33 K33 =>
    rintro H locs ls st ⟨σ, μ, f, i, rfl, hM, hn, hl, hP, hPm, hPo, hD, hS⟩
    have hcA : (600000 - (n33 + 1)) + 1 ≤ room_1.cells := by show _ ≤ 601024; omega
    have hsA : (7290000 - 6 * (n33 + 1)) + 6 ≤ room_1.slots := by show _ ≤ 7293000; omega
    have hcB : (600000 - n33) + 0 ≤ room_1.cells := by show _ ≤ 601024; omega
    have hsB : (7290000 - 6 * n33) + 0 ≤ room_1.slots := by show _ ≤ 7293000; omega
    have KF : ∀ (H : Heap) (locs : List Loc) (ls : Array Slot) (st : List Value), (fun H locs ls st => ∃ (σ μ : SX) (f : Nat → Int64) (i : Int32), st = [] ∧ m_law N xs L n33 σ μ f (i + 4) = some () ∧ lv_has ls 7 [(0, .ref b), (1, .ref (ad 0 0)), (2, .ref (bd 0 0)), (3, .ref qo), (4, .int i)] ∧ va_P (dC, dI) classes (wX ad cs σ) H ∧ va_P (dC, dI) classes (wM bd cs μ) H ∧ va_P (dC, dI) classes [oC qo cL f] H ∧ va_D (fun q => s.heap.size ≤ q) (wL ad cs σ bd μ qo cL f) ∧ va_S (fun q => s.heap.size ≤ q) s.heap H locs) H locs ls st → W p l e room_1 s m #[Value.ref b] below meth c H locs (600000 - n33) (7290000 - 6 * n33) (lw_Z below #[Value.ref b] s) (F0 m 697 ls st) := by
      rintro H locs ls st ⟨σ, μ, f, i, rfl, hM, hl, hP, hPm, hPo, hD, hS⟩
      refine lv_iinc (k := 4) (v := (i + 4)) hx hb d_law_697 hl rfl rfl (by decide) (lv' := [(4, .int (i + 4)), (0, .ref b), (1, .ref (ad 0 0)), (2, .ref (bd 0 0)), (3, .ref qo)]) rfl (fun ls hl => ?_)
      refine lv_goto (tgt := 33) hx hb d_law_700 (by decide) ?_
      exact K33 _ _ _ _ ⟨σ, μ, f, (i + 4), rfl, hM, by omega, lv_sub hl [1, 2, 3, 4, 0] rfl, hP, hPm, hPo, hD, hS⟩
    rw [m_law] at hM
    refine lv_iload hx hb d_law_33 (lv_at hl 4 rfl) ?_
    refine lv_aload_n hx hb d_law_35 rfl (lv_at hl 0 rfl) ?_
    refine va_slen hx hb hX hbl (Nat.not_le.mpr hbl) hS d_law_36 ?_
    refine lv_iconst (v := 4) hx hb d_law_37 (by decide) ?_
    refine lv_isub hx hb d_law_38 ?_
    refine lv_icmp_gt (tgt := 703) hx hb d_law_39 (by decide) (fun h39 => ?_) (fun h39 => ?_)
    · rw [if_pos h39] at hM
      refine lv_iconst (v := 1) hx hb d_law_703 (by decide) ?_
      refine va_forget hS.2.2 ?_
      refine W.widen (k := 601024) (n := 7293000) (by omega) (by omega) ?_
      exact lw_ret hx hb hr hlocks d_law_704
    rw [if_neg h39, m_turn] at hM
    refine lv_aload_n hx hb d_law_42 rfl (lv_at hl 0 rfl) ?_
    refine lv_iload hx hb d_law_43 (lv_at hl 4 rfl) ?_
    have hg45 := gd_c hM
    have hM := gd_v hM
    refine va_sld hx hb hX hbl (Nat.not_le.mpr hbl) hS (inb_in hg45) d_law_45 ?_
    refine lv_bipush (v := 31) hx hb d_law_46 (by decide) ?_
    refine lv_iand hx hb d_law_48 ?_
    by_cases hw_0 : (xs i.toNatClampNeg &&& 31) = 0
    · rw [if_pos hw_0, m_case_0] at hM
      refine lv_tableIn (tgt := 148) (off := 99) hx hb d_law_49 (by rw [hw_0]; decide) (by rw [hw_0]; decide) (by rw [hw_0]; decide) (by decide) ?_
      refine lv_aload_n hx hb d_law_148 rfl (lv_at hl 1 rfl) ?_
      refine lv_aload_n hx hb d_law_149 rfl (lv_at hl 0 rfl) ?_
      refine lv_iload hx hb d_law_150 (lv_at hl 4 rfl) ?_
      refine lv_iconst (v := 1) hx hb d_law_152 (by decide) ?_
      refine lv_iadd hx hb d_law_153 ?_
      have hg154 := gd_c hM
      have hM := gd_v hM
      refine va_sld hx hb hX hbl (Nat.not_le.mpr hbl) hS (inb_in hg154) d_law_154 ?_
      refine lv_aload_n hx hb d_law_155 rfl (lv_at hl 0 rfl) ?_
      refine lv_iload hx hb d_law_156 (lv_at hl 4 rfl) ?_
      refine lv_iconst (v := 2) hx hb d_law_158 (by decide) ?_
      refine lv_iadd hx hb d_law_159 ?_
      have hg160 := gd_c hM
      have hM := gd_v hM
      refine va_sld hx hb hX hbl (Nat.not_le.mpr hbl) hS (inb_in hg160) d_law_160 ?_
      refine lv_aload_n hx hb d_law_161 rfl (lv_at hl 3 rfl) ?_
      obtain ⟨x162, hq162, hM⟩ := bH_some hM
      obtain ⟨x162, y162, z162⟩ := x162
      have hDo := D_xo hD
      have hF1 := free_all hDo hS hA
      refine va_calli (va_runSW (n := 4) (As := [.ref (ad 0 0), .int (xs (i + 1).toNatClampNeg), .int (xs (i + 2).toNatClampNeg), .ref qo]) (rest := []) ⟨hx, hb, hml, hown, hts⟩ (c_L_card l htr dC dI ad cs cL qo _ N σ f (xs (i + 1).toNatClampNeg) (xs (i + 2).toNatClampNeg) hq162) (goodX k_343) rfl rfl ⟨Nat.le_of_ble_eq_true rfl, Nat.le_of_ble_eq_true rfl⟩ (htb _ k_341) (htb _ k_342) (htb _ k_0) ⟨by decide, by decide, by decide +kernel⟩ ⟨blindL, payL (hP.app hPo) hK hKl hDo hN hZ (fun a ha => hS.2.1 a ha (Nat.not_le.mpr ha))⟩ rfl rfl hl.1 rfl (lv_room (Nat.le_of_ble_eq_true rfl)) d_law_162 ⟨hcA, hsA⟩) hS (fun q _ h => hF1 q h) hF1 (fun r162 u162 t H locs ht hvm hpost hB hz1 hk1 hS => ?_)
      obtain ⟨e1, e2⟩ := hpost
      subst e1
      subst e2
      rw [ht] at hB
      dsimp only at hB hM
      have hPm := fr (ap_om hD) hk1 hPm
      have hP := P_left hB
      have hPo := P_right hB
      have hD := D_3 hD (σ' := y162) (μ' := μ) (f' := z162)
      refine W.widen (k := 600000 - n33) (n := 7290000 - 6 * n33) (by omega) (by omega) ?_
      refine lv_istore hx hb d_law_165 hl (by decide) (lv' := [(5, .int r162), (0, .ref b), (1, .ref (ad 0 0)), (2, .ref (bd 0 0)), (3, .ref qo), (4, .int i)]) rfl (fun ls hl => ?_)
      refine lv_aload_n hx hb d_law_167 rfl (lv_at hl 3 rfl) ?_
      refine lv_aload_n hx hb d_law_168 rfl (lv_at hl 1 rfl) ?_
      refine lv_iload hx hb d_law_169 (lv_at hl 5 rfl) ?_
      refine lv_iconst (v := 1) hx hb d_law_171 (by decide) ?_
      refine lv_iadd hx hb d_law_172 ?_
      have hg173 := gd_c hM
      have hM := gd_v hM
      refine va_sld hx hb hX hbl (Nat.not_le.mpr hbl) hS (inb_in hg173) d_law_173 ?_
      refine lv_aload_n hx hb d_law_174 rfl (lv_at hl 1 rfl) ?_
      refine lv_iload hx hb d_law_175 (lv_at hl 5 rfl) ?_
      refine lv_iconst (v := 2) hx hb d_law_177 (by decide) ?_
      refine lv_iadd hx hb d_law_178 ?_
      have hg179 := gd_c hM
      have hM := gd_v hM
      refine va_sld hx hb hX hbl (Nat.not_le.mpr hbl) hS (inb_in hg179) d_law_179 ?_
      have hF1 := free_all (D_left (D_right hD)) hS hA
      obtain ⟨x180, y180, hq180, hM⟩ := bI_some hM
      refine va_calli (va_runV (As := [.int (xs (i + 1).toNatClampNeg), .int (xs (i + 2).toNatClampNeg)]) (rest := []) ⟨hx, hb, hml, hown, hts⟩ (c_M_card l dC dI bd cs _ N μ (xs (i + 1).toNatClampNeg) (xs (i + 2).toNatClampNeg) hq180) (cwV 2 hts (goodVW k_719 k_720 k_721 k_8 k_722) rfl rfl rfl ⟨rfl, by decide, by decide, by decide +kernel⟩ ⟨Nat.le_of_ble_eq_true rfl, Nat.le_of_ble_eq_true rfl⟩) ⟨blindM, va_recv hK hPm rfl g_M, payM hPm hK (D_left (D_right hD)) hN⟩ rfl rfl hl.1 rfl (lv_room (Nat.le_of_ble_eq_true rfl)) d_law_180 ⟨hcB, hsB⟩) hS (fun q _ h => hF1 q h) hF1 (fun r180 σ180 t H locs ht hvm hpost hB hz1 hk1 hS => ?_)
      obtain ⟨e1, e2⟩ := hpost
      subst e1
      subst e2
      obtain ⟨hP1, hK1, hD1⟩ := hB
      rw [ht] at hP1
      have hP := fr (ap_mx hD) hk1 hP
      have hPo := fr (ap_mo hD) hk1 hPo
      have hPm := hP1
      have hD := D_3 hD (σ' := y162) (μ' := σ180) (f' := z162)
      refine lv_istore hx hb d_law_183 hl (by decide) (lv' := [(6, .int r180), (5, .int r162), (0, .ref b), (1, .ref (ad 0 0)), (2, .ref (bd 0 0)), (3, .ref qo), (4, .int i)]) rfl (fun ls hl => ?_)
      refine lv_goto (tgt := 697) hx hb d_law_185 (by decide) ?_
      exact KF _ _ _ _ ⟨y162, σ180, z162, i, rfl, hM, lv_sub hl [2, 3, 4, 5, 6] rfl, hP, hPm, hPo, hD, hS⟩
    rw [if_neg hw_0] at hM
    by_cases hw_1 : (xs i.toNatClampNeg &&& 31) = 1
    · rw [if_pos hw_1, m_case_1] at hM
      refine lv_tableIn (tgt := 188) (off := 139) hx hb d_law_49 (by rw [hw_1]; decide) (by rw [hw_1]; decide) (by rw [hw_1]; decide) (by decide) ?_
      refine lv_aload_n hx hb d_law_188 rfl (lv_at hl 1 rfl) ?_
      refine lv_aload_n hx hb d_law_189 rfl (lv_at hl 0 rfl) ?_
      refine lv_iload hx hb d_law_190 (lv_at hl 4 rfl) ?_
      refine lv_iconst (v := 1) hx hb d_law_192 (by decide) ?_
      refine lv_iadd hx hb d_law_193 ?_
      have hg194 := gd_c hM
      have hM := gd_v hM
      refine va_sld hx hb hX hbl (Nat.not_le.mpr hbl) hS (inb_in hg194) d_law_194 ?_
      refine lv_aload_n hx hb d_law_195 rfl (lv_at hl 0 rfl) ?_
      refine lv_iload hx hb d_law_196 (lv_at hl 4 rfl) ?_
      refine lv_iconst (v := 2) hx hb d_law_198 (by decide) ?_
      refine lv_iadd hx hb d_law_199 ?_
      have hg200 := gd_c hM
      have hM := gd_v hM
      refine va_sld hx hb hX hbl (Nat.not_le.mpr hbl) hS (inb_in hg200) d_law_200 ?_
      refine lv_aload_n hx hb d_law_201 rfl (lv_at hl 3 rfl) ?_
      obtain ⟨x202, hq202, hM⟩ := bH_some hM
      obtain ⟨x202, y202, z202⟩ := x202
      have hDo := D_xo hD
      have hF1 := free_all hDo hS hA
      refine va_calli (va_runSW (n := 4) (As := [.ref (ad 0 0), .int (xs (i + 1).toNatClampNeg), .int (xs (i + 2).toNatClampNeg), .ref qo]) (rest := []) ⟨hx, hb, hml, hown, hts⟩ (c_L_part l htr dC dI ad cs cL qo _ N σ f (xs (i + 1).toNatClampNeg) (xs (i + 2).toNatClampNeg) hq202) (goodX k_422) rfl rfl ⟨Nat.le_of_ble_eq_true rfl, Nat.le_of_ble_eq_true rfl⟩ (htb _ k_420) (htb _ k_421) (htb _ k_0) ⟨by decide, by decide, by decide +kernel⟩ ⟨blindL, payL (hP.app hPo) hK hKl hDo hN hZ (fun a ha => hS.2.1 a ha (Nat.not_le.mpr ha))⟩ rfl rfl hl.1 rfl (lv_room (Nat.le_of_ble_eq_true rfl)) d_law_202 ⟨hcA, hsA⟩) hS (fun q _ h => hF1 q h) hF1 (fun r202 u202 t H locs ht hvm hpost hB hz1 hk1 hS => ?_)
      obtain ⟨e1, e2⟩ := hpost
      subst e1
      subst e2
      rw [ht] at hB
      dsimp only at hB hM
      have hPm := fr (ap_om hD) hk1 hPm
      have hP := P_left hB
      have hPo := P_right hB
      have hD := D_3 hD (σ' := y202) (μ' := μ) (f' := z202)
      refine W.widen (k := 600000 - n33) (n := 7290000 - 6 * n33) (by omega) (by omega) ?_
      refine lv_istore hx hb d_law_205 hl (by decide) (lv' := [(5, .int r202), (0, .ref b), (1, .ref (ad 0 0)), (2, .ref (bd 0 0)), (3, .ref qo), (4, .int i)]) rfl (fun ls hl => ?_)
      refine lv_aload_n hx hb d_law_207 rfl (lv_at hl 3 rfl) ?_
      refine lv_aload_n hx hb d_law_208 rfl (lv_at hl 1 rfl) ?_
      refine lv_iload hx hb d_law_209 (lv_at hl 5 rfl) ?_
      refine lv_iconst (v := 1) hx hb d_law_211 (by decide) ?_
      refine lv_iadd hx hb d_law_212 ?_
      have hg213 := gd_c hM
      have hM := gd_v hM
      refine va_sld hx hb hX hbl (Nat.not_le.mpr hbl) hS (inb_in hg213) d_law_213 ?_
      refine lv_aload_n hx hb d_law_214 rfl (lv_at hl 1 rfl) ?_
      refine lv_iload hx hb d_law_215 (lv_at hl 5 rfl) ?_
      refine lv_iconst (v := 2) hx hb d_law_217 (by decide) ?_
      refine lv_iadd hx hb d_law_218 ?_
      have hg219 := gd_c hM
      have hM := gd_v hM
      refine va_sld hx hb hX hbl (Nat.not_le.mpr hbl) hS (inb_in hg219) d_law_219 ?_
      have hF1 := free_all (D_left (D_right hD)) hS hA
      obtain ⟨x220, y220, hq220, hM⟩ := bI_some hM
      refine va_calli (va_runV (As := [.int (xs (i + 1).toNatClampNeg), .int (xs (i + 2).toNatClampNeg)]) (rest := []) ⟨hx, hb, hml, hown, hts⟩ (c_M_part l dC dI bd cs _ N μ (xs (i + 1).toNatClampNeg) (xs (i + 2).toNatClampNeg) hq220) (cwV 2 hts (goodVW k_723 k_724 k_725 k_8 k_726) rfl rfl rfl ⟨rfl, by decide, by decide, by decide +kernel⟩ ⟨Nat.le_of_ble_eq_true rfl, Nat.le_of_ble_eq_true rfl⟩) ⟨blindM, va_recv hK hPm rfl g_M, payM hPm hK (D_left (D_right hD)) hN⟩ rfl rfl hl.1 rfl (lv_room (Nat.le_of_ble_eq_true rfl)) d_law_220 ⟨hcB, hsB⟩) hS (fun q _ h => hF1 q h) hF1 (fun r220 σ220 t H locs ht hvm hpost hB hz1 hk1 hS => ?_)
      obtain ⟨e1, e2⟩ := hpost
      subst e1
      subst e2
      obtain ⟨hP1, hK1, hD1⟩ := hB
      rw [ht] at hP1
      have hP := fr (ap_mx hD) hk1 hP
      have hPo := fr (ap_mo hD) hk1 hPo
      have hPm := hP1
      have hD := D_3 hD (σ' := y202) (μ' := σ220) (f' := z202)
      refine lv_istore hx hb d_law_223 hl (by decide) (lv' := [(6, .int r220), (5, .int r202), (0, .ref b), (1, .ref (ad 0 0)), (2, .ref (bd 0 0)), (3, .ref qo), (4, .int i)]) rfl (fun ls hl => ?_)
      refine lv_goto (tgt := 697) hx hb d_law_225 (by decide) ?_
      exact KF _ _ _ _ ⟨y202, σ220, z202, i, rfl, hM, lv_sub hl [2, 3, 4, 5, 6] rfl, hP, hPm, hPo, hD, hS⟩
    rw [if_neg hw_1] at hM
    by_cases hw_2 : (xs i.toNatClampNeg &&& 31) = 2
    · rw [if_pos hw_2, m_case_2] at hM
      refine lv_tableIn (tgt := 228) (off := 179) hx hb d_law_49 (by rw [hw_2]; decide) (by rw [hw_2]; decide) (by rw [hw_2]; decide) (by decide) ?_
      refine lv_aload_n hx hb d_law_228 rfl (lv_at hl 1 rfl) ?_
      obtain ⟨x229, hq229, hM⟩ := bH_some hM
      obtain ⟨x229, y229, z229⟩ := x229
      have hDo := D_xo hD
      have hF1 := free_all hDo hS hA
      refine va_calli (va_runSW (n := 1) (As := [.ref (ad 0 0)]) (rest := []) ⟨hx, hb, hml, hown, hts⟩ (c_L_start l htr dC dI ad cs cL qo _ N σ f hq229) (goodX k_455) rfl rfl ⟨Nat.le_of_ble_eq_true rfl, Nat.le_of_ble_eq_true rfl⟩ (htb _ k_453) (htb _ k_454) (htb _ k_0) ⟨by decide, by decide, by decide +kernel⟩ ⟨blindL, payL (hP.app hPo) hK hKl hDo hN hZ (fun a ha => hS.2.1 a ha (Nat.not_le.mpr ha))⟩ rfl rfl hl.1 rfl (lv_room (Nat.le_of_ble_eq_true rfl)) d_law_229 ⟨hcA, hsA⟩) hS (fun q _ h => hF1 q h) hF1 (fun r229 u229 t H locs ht hvm hpost hB hz1 hk1 hS => ?_)
      obtain ⟨e1, e2⟩ := hpost
      subst e1
      subst e2
      rw [ht] at hB
      dsimp only at hB hM
      have hPm := fr (ap_om hD) hk1 hPm
      have hP := P_left hB
      have hPo := P_right hB
      have hD := D_3 hD (σ' := y229) (μ' := μ) (f' := z229)
      refine W.widen (k := 600000 - n33) (n := 7290000 - 6 * n33) (by omega) (by omega) ?_
      refine lv_istore hx hb d_law_232 hl (by decide) (lv' := [(5, .int r229), (0, .ref b), (1, .ref (ad 0 0)), (2, .ref (bd 0 0)), (3, .ref qo), (4, .int i)]) rfl (fun ls hl => ?_)
      refine lv_aload_n hx hb d_law_234 rfl (lv_at hl 3 rfl) ?_
      have hF1 := free_all (D_left (D_right hD)) hS hA
      obtain ⟨y235, hq235, hM⟩ := bV_some hM
      refine va_callv (va_runV (As := []) (rest := []) ⟨hx, hb, hml, hown, hts⟩ (c_M_start l dC dI bd cs _ N μ hq235) (cwV 0 hts (goodVW k_747 k_748 k_749 k_8 k_750) rfl rfl rfl ⟨rfl, by decide, by decide, by decide +kernel⟩ ⟨Nat.le_of_ble_eq_true rfl, Nat.le_of_ble_eq_true rfl⟩) ⟨blindM, va_recv hK hPm rfl g_M, payM hPm hK (D_left (D_right hD)) hN⟩ rfl rfl hl.1 rfl (lv_room (Nat.le_of_ble_eq_true rfl)) d_law_235 ⟨hcB, hsB⟩) hS (fun q _ h => hF1 q h) hF1 (fun σ235 t H locs ht hvm hpost hB hz1 hk1 hS => ?_)
      subst hpost
      obtain ⟨hP1, hK1, hD1⟩ := hB
      rw [ht] at hP1
      have hP := fr (ap_mx hD) hk1 hP
      have hPo := fr (ap_mo hD) hk1 hPo
      have hPm := hP1
      have hD := D_3 hD (σ' := y229) (μ' := σ235) (f' := z229)
      refine lv_goto (tgt := 697) hx hb d_law_238 (by decide) ?_
      exact KF _ _ _ _ ⟨y229, σ235, z229, i, rfl, hM, lv_sub hl [1, 2, 3, 4, 5] rfl, hP, hPm, hPo, hD, hS⟩
    rw [if_neg hw_2] at hM
    by_cases hw_3 : (xs i.toNatClampNeg &&& 31) = 3
    · rw [if_pos hw_3, m_case_3] at hM
      refine lv_tableIn (tgt := 241) (off := 192) hx hb d_law_49 (by rw [hw_3]; decide) (by rw [hw_3]; decide) (by rw [hw_3]; decide) (by decide) ?_
      refine W.widen (k := 600000 - n33) (n := 7290000 - 6 * n33) (by omega) (by omega) ?_
      refine lv_aload_n hx hb d_law_241 rfl (lv_at hl 1 rfl) ?_
      have hF1 := free_all (D_left hD) hS hA
      obtain ⟨x242, y242, hq242, hM⟩ := bI_some hM
      refine va_calli (va_runV (As := []) (rest := []) ⟨hx, hb, hml, hown, hts⟩ (c_O_clear l dC dI ad cs _ N σ hq242) (cwV 0 hts (goodVW k_185 k_186 k_187 k_1 k_188) rfl rfl rfl ⟨rfl, by decide, by decide, by decide +kernel⟩ ⟨Nat.le_of_ble_eq_true rfl, Nat.le_of_ble_eq_true rfl⟩) ⟨blindX, va_recv hK hP rfl g_O, payX hP hK (D_left hD) hN⟩ rfl rfl hl.1 rfl (lv_room (Nat.le_of_ble_eq_true rfl)) d_law_242 ⟨hcB, hsB⟩) hS (fun q _ h => hF1 q h) hF1 (fun r242 σ242 t H locs ht hvm hpost hB hz1 hk1 hS => ?_)
      obtain ⟨e1, e2⟩ := hpost
      subst e1
      subst e2
      obtain ⟨hP1, hK1, hD1⟩ := hB
      rw [ht] at hP1
      have hPm := fr (ap_xm hD) hk1 hPm
      have hPo := fr (ap_xo hD) hk1 hPo
      have hP := hP1
      have hD := D_3 hD (σ' := σ242) (μ' := μ) (f' := f)
      refine lv_pop hx hb d_law_245 rfl ?_
      refine lv_aload_n hx hb d_law_246 rfl (lv_at hl 2 rfl) ?_
      have hF1 := free_all (D_left (D_right hD)) hS hA
      obtain ⟨x247, y247, hq247, hM⟩ := bI_some hM
      refine va_calli (va_runV (As := []) (rest := []) ⟨hx, hb, hml, hown, hts⟩ (c_M_clear l dC dI bd cs _ N μ hq247) (cwV 0 hts (goodVW k_755 k_756 k_757 k_8 k_758) rfl rfl rfl ⟨rfl, by decide, by decide, by decide +kernel⟩ ⟨Nat.le_of_ble_eq_true rfl, Nat.le_of_ble_eq_true rfl⟩) ⟨blindM, va_recv hK hPm rfl g_M, payM hPm hK (D_left (D_right hD)) hN⟩ rfl rfl hl.1 rfl (lv_room (Nat.le_of_ble_eq_true rfl)) d_law_247 ⟨hcB, hsB⟩) hS (fun q _ h => hF1 q h) hF1 (fun r247 σ247 t H locs ht hvm hpost hB hz1 hk1 hS => ?_)
      obtain ⟨e1, e2⟩ := hpost
      subst e1
      subst e2
      obtain ⟨hP1, hK1, hD1⟩ := hB
      rw [ht] at hP1
      have hP := fr (ap_mx hD) hk1 hP
      have hPo := fr (ap_mo hD) hk1 hPo
      have hPm := hP1
      have hD := D_3 hD (σ' := σ242) (μ' := σ247) (f' := f)
      refine lv_pop hx hb d_law_250 rfl ?_
      refine lv_goto (tgt := 697) hx hb d_law_251 (by decide) ?_
      exact KF _ _ _ _ ⟨σ242, σ247, f, i, rfl, hM, lv_sub hl [0, 1, 2, 3, 4] rfl, hP, hPm, hPo, hD, hS⟩
    rw [if_neg hw_3] at hM
    by_cases hw_4 : (xs i.toNatClampNeg &&& 31) = 4
    · rw [if_pos hw_4, m_case_4] at hM
      refine lv_tableIn (tgt := 254) (off := 205) hx hb d_law_49 (by rw [hw_4]; decide) (by rw [hw_4]; decide) (by rw [hw_4]; decide) (by decide) ?_
      refine lv_aload_n hx hb d_law_254 rfl (lv_at hl 1 rfl) ?_
      refine lv_aload_n hx hb d_law_255 rfl (lv_at hl 0 rfl) ?_
      refine lv_iload hx hb d_law_256 (lv_at hl 4 rfl) ?_
      refine lv_iconst (v := 1) hx hb d_law_258 (by decide) ?_
      refine lv_iadd hx hb d_law_259 ?_
      have hg260 := gd_c hM
      have hM := gd_v hM
      refine va_sld hx hb hX hbl (Nat.not_le.mpr hbl) hS (inb_in hg260) d_law_260 ?_
      refine lv_aload_n hx hb d_law_261 rfl (lv_at hl 3 rfl) ?_
      obtain ⟨x262, hq262, hM⟩ := bH_some hM
      obtain ⟨x262, y262, z262⟩ := x262
      have hDo := D_xo hD
      have hF1 := free_all hDo hS hA
      refine va_calli (va_runSW (n := 3) (As := [.ref (ad 0 0), .int (xs (i + 1).toNatClampNeg), .ref qo]) (rest := []) ⟨hx, hb, hml, hown, hts⟩ (c_L_step l htr dC dI ad cs cL qo _ N σ f (xs (i + 1).toNatClampNeg) hq262) (goodX k_482) rfl rfl ⟨Nat.le_of_ble_eq_true rfl, Nat.le_of_ble_eq_true rfl⟩ (htb _ k_480) (htb _ k_481) (htb _ k_0) ⟨by decide, by decide, by decide +kernel⟩ ⟨blindL, payL (hP.app hPo) hK hKl hDo hN hZ (fun a ha => hS.2.1 a ha (Nat.not_le.mpr ha))⟩ rfl rfl hl.1 rfl (lv_room (Nat.le_of_ble_eq_true rfl)) d_law_262 ⟨hcA, hsA⟩) hS (fun q _ h => hF1 q h) hF1 (fun r262 u262 t H locs ht hvm hpost hB hz1 hk1 hS => ?_)
      obtain ⟨e1, e2⟩ := hpost
      subst e1
      subst e2
      rw [ht] at hB
      dsimp only at hB hM
      have hPm := fr (ap_om hD) hk1 hPm
      have hP := P_left hB
      have hPo := P_right hB
      have hD := D_3 hD (σ' := y262) (μ' := μ) (f' := z262)
      refine W.widen (k := 600000 - n33) (n := 7290000 - 6 * n33) (by omega) (by omega) ?_
      refine lv_istore hx hb d_law_265 hl (by decide) (lv' := [(5, .int r262), (0, .ref b), (1, .ref (ad 0 0)), (2, .ref (bd 0 0)), (3, .ref qo), (4, .int i)]) rfl (fun ls hl => ?_)
      refine lv_aload_n hx hb d_law_267 rfl (lv_at hl 3 rfl) ?_
      refine lv_aload_n hx hb d_law_268 rfl (lv_at hl 1 rfl) ?_
      refine lv_iload hx hb d_law_269 (lv_at hl 5 rfl) ?_
      refine lv_iconst (v := 1) hx hb d_law_271 (by decide) ?_
      refine lv_iadd hx hb d_law_272 ?_
      have hg273 := gd_c hM
      have hM := gd_v hM
      refine va_sld hx hb hX hbl (Nat.not_le.mpr hbl) hS (inb_in hg273) d_law_273 ?_
      have hF1 := free_all (D_left (D_right hD)) hS hA
      obtain ⟨x274, y274, hq274, hM⟩ := bI_some hM
      refine va_calli (va_runV (As := [.int (xs (i + 1).toNatClampNeg)]) (rest := []) ⟨hx, hb, hml, hown, hts⟩ (c_M_step l dC dI bd cs _ N μ (xs (i + 1).toNatClampNeg) hq274) (cwV 1 hts (goodVW k_759 k_760 k_761 k_8 k_762) rfl rfl rfl ⟨rfl, by decide, by decide, by decide +kernel⟩ ⟨Nat.le_of_ble_eq_true rfl, Nat.le_of_ble_eq_true rfl⟩) ⟨blindM, va_recv hK hPm rfl g_M, payM hPm hK (D_left (D_right hD)) hN⟩ rfl rfl hl.1 rfl (lv_room (Nat.le_of_ble_eq_true rfl)) d_law_274 ⟨hcB, hsB⟩) hS (fun q _ h => hF1 q h) hF1 (fun r274 σ274 t H locs ht hvm hpost hB hz1 hk1 hS => ?_)
      obtain ⟨e1, e2⟩ := hpost
      subst e1
      subst e2
      obtain ⟨hP1, hK1, hD1⟩ := hB
      rw [ht] at hP1
      have hP := fr (ap_mx hD) hk1 hP
      have hPo := fr (ap_mo hD) hk1 hPo
      have hPm := hP1
      have hD := D_3 hD (σ' := y262) (μ' := σ274) (f' := z262)
      refine lv_istore hx hb d_law_277 hl (by decide) (lv' := [(6, .int r274), (5, .int r262), (0, .ref b), (1, .ref (ad 0 0)), (2, .ref (bd 0 0)), (3, .ref qo), (4, .int i)]) rfl (fun ls hl => ?_)
      refine lv_goto (tgt := 697) hx hb d_law_279 (by decide) ?_
      exact KF _ _ _ _ ⟨y262, σ274, z262, i, rfl, hM, lv_sub hl [2, 3, 4, 5, 6] rfl, hP, hPm, hPo, hD, hS⟩
    rw [if_neg hw_4] at hM
    by_cases hw_5 : (xs i.toNatClampNeg &&& 31) = 5
    · rw [if_pos hw_5, m_case_5] at hM
      refine lv_tableIn (tgt := 282) (off := 233) hx hb d_law_49 (by rw [hw_5]; decide) (by rw [hw_5]; decide) (by rw [hw_5]; decide) (by decide) ?_
      refine lv_aload_n hx hb d_law_282 rfl (lv_at hl 1 rfl) ?_
      refine lv_aload_n hx hb d_law_283 rfl (lv_at hl 0 rfl) ?_
      refine lv_iload hx hb d_law_284 (lv_at hl 4 rfl) ?_
      refine lv_iconst (v := 1) hx hb d_law_286 (by decide) ?_
      refine lv_iadd hx hb d_law_287 ?_
      have hg288 := gd_c hM
      have hM := gd_v hM
      refine va_sld hx hb hX hbl (Nat.not_le.mpr hbl) hS (inb_in hg288) d_law_288 ?_
      refine lv_aload_n hx hb d_law_289 rfl (lv_at hl 0 rfl) ?_
      refine lv_iload hx hb d_law_290 (lv_at hl 4 rfl) ?_
      refine lv_iconst (v := 2) hx hb d_law_292 (by decide) ?_
      refine lv_iadd hx hb d_law_293 ?_
      have hg294 := gd_c hM
      have hM := gd_v hM
      refine va_sld hx hb hX hbl (Nat.not_le.mpr hbl) hS (inb_in hg294) d_law_294 ?_
      refine lv_aload_n hx hb d_law_295 rfl (lv_at hl 3 rfl) ?_
      obtain ⟨x296, hq296, hM⟩ := bH_some hM
      obtain ⟨x296, y296, z296⟩ := x296
      have hDo := D_xo hD
      have hF1 := free_all hDo hS hA
      refine va_calli (va_runSW (n := 4) (As := [.ref (ad 0 0), .int (xs (i + 1).toNatClampNeg), .int (xs (i + 2).toNatClampNeg), .ref qo]) (rest := []) ⟨hx, hb, hml, hown, hts⟩ (c_L_fault l htr dC dI ad cs cL qo _ N σ f (xs (i + 1).toNatClampNeg) (xs (i + 2).toNatClampNeg) hq296) (goodX k_604) rfl rfl ⟨Nat.le_of_ble_eq_true rfl, Nat.le_of_ble_eq_true rfl⟩ (htb _ k_602) (htb _ k_603) (htb _ k_0) ⟨by decide, by decide, by decide +kernel⟩ ⟨blindL, payL (hP.app hPo) hK hKl hDo hN hZ (fun a ha => hS.2.1 a ha (Nat.not_le.mpr ha))⟩ rfl rfl hl.1 rfl (lv_room (Nat.le_of_ble_eq_true rfl)) d_law_296 ⟨hcA, hsA⟩) hS (fun q _ h => hF1 q h) hF1 (fun r296 u296 t H locs ht hvm hpost hB hz1 hk1 hS => ?_)
      obtain ⟨e1, e2⟩ := hpost
      subst e1
      subst e2
      rw [ht] at hB
      dsimp only at hB hM
      have hPm := fr (ap_om hD) hk1 hPm
      have hP := P_left hB
      have hPo := P_right hB
      have hD := D_3 hD (σ' := y296) (μ' := μ) (f' := z296)
      refine W.widen (k := 600000 - n33) (n := 7290000 - 6 * n33) (by omega) (by omega) ?_
      refine lv_istore hx hb d_law_299 hl (by decide) (lv' := [(5, .int r296), (0, .ref b), (1, .ref (ad 0 0)), (2, .ref (bd 0 0)), (3, .ref qo), (4, .int i)]) rfl (fun ls hl => ?_)
      refine lv_aload_n hx hb d_law_301 rfl (lv_at hl 3 rfl) ?_
      refine lv_aload_n hx hb d_law_302 rfl (lv_at hl 1 rfl) ?_
      refine lv_iload hx hb d_law_303 (lv_at hl 5 rfl) ?_
      refine lv_iconst (v := 1) hx hb d_law_305 (by decide) ?_
      refine lv_iadd hx hb d_law_306 ?_
      have hg307 := gd_c hM
      have hM := gd_v hM
      refine va_sld hx hb hX hbl (Nat.not_le.mpr hbl) hS (inb_in hg307) d_law_307 ?_
      refine lv_aload_n hx hb d_law_308 rfl (lv_at hl 1 rfl) ?_
      refine lv_iload hx hb d_law_309 (lv_at hl 5 rfl) ?_
      refine lv_iconst (v := 2) hx hb d_law_311 (by decide) ?_
      refine lv_iadd hx hb d_law_312 ?_
      have hg313 := gd_c hM
      have hM := gd_v hM
      refine va_sld hx hb hX hbl (Nat.not_le.mpr hbl) hS (inb_in hg313) d_law_313 ?_
      have hF1 := free_all (D_left (D_right hD)) hS hA
      obtain ⟨x314, y314, hq314, hM⟩ := bI_some hM
      refine va_calli (va_runV (As := [.int (xs (i + 1).toNatClampNeg), .int (xs (i + 2).toNatClampNeg)]) (rest := []) ⟨hx, hb, hml, hown, hts⟩ (c_M_fault l dC dI bd cs _ N μ (xs (i + 1).toNatClampNeg) (xs (i + 2).toNatClampNeg) hq314) (cwV 2 hts (goodVW k_819 k_820 k_821 k_8 k_822) rfl rfl rfl ⟨rfl, by decide, by decide, by decide +kernel⟩ ⟨Nat.le_of_ble_eq_true rfl, Nat.le_of_ble_eq_true rfl⟩) ⟨blindM, va_recv hK hPm rfl g_M, payM hPm hK (D_left (D_right hD)) hN⟩ rfl rfl hl.1 rfl (lv_room (Nat.le_of_ble_eq_true rfl)) d_law_314 ⟨hcB, hsB⟩) hS (fun q _ h => hF1 q h) hF1 (fun r314 σ314 t H locs ht hvm hpost hB hz1 hk1 hS => ?_)
      obtain ⟨e1, e2⟩ := hpost
      subst e1
      subst e2
      obtain ⟨hP1, hK1, hD1⟩ := hB
      rw [ht] at hP1
      have hP := fr (ap_mx hD) hk1 hP
      have hPo := fr (ap_mo hD) hk1 hPo
      have hPm := hP1
      have hD := D_3 hD (σ' := y296) (μ' := σ314) (f' := z296)
      refine lv_istore hx hb d_law_317 hl (by decide) (lv' := [(6, .int r314), (5, .int r296), (0, .ref b), (1, .ref (ad 0 0)), (2, .ref (bd 0 0)), (3, .ref qo), (4, .int i)]) rfl (fun ls hl => ?_)
      refine lv_goto (tgt := 697) hx hb d_law_319 (by decide) ?_
      exact KF _ _ _ _ ⟨y296, σ314, z296, i, rfl, hM, lv_sub hl [2, 3, 4, 5, 6] rfl, hP, hPm, hPo, hD, hS⟩
    rw [if_neg hw_5] at hM
    by_cases hw_6 : (xs i.toNatClampNeg &&& 31) = 6
    · rw [if_pos hw_6, m_case_6] at hM
      refine lv_tableIn (tgt := 322) (off := 273) hx hb d_law_49 (by rw [hw_6]; decide) (by rw [hw_6]; decide) (by rw [hw_6]; decide) (by decide) ?_
      refine W.widen (k := 600000 - n33) (n := 7290000 - 6 * n33) (by omega) (by omega) ?_
      refine lv_aload_n hx hb d_law_322 rfl (lv_at hl 1 rfl) ?_
      refine lv_aload_n hx hb d_law_323 rfl (lv_at hl 0 rfl) ?_
      refine lv_iload hx hb d_law_324 (lv_at hl 4 rfl) ?_
      refine lv_iconst (v := 1) hx hb d_law_326 (by decide) ?_
      refine lv_iadd hx hb d_law_327 ?_
      have hg328 := gd_c hM
      have hM := gd_v hM
      refine va_sld hx hb hX hbl (Nat.not_le.mpr hbl) hS (inb_in hg328) d_law_328 ?_
      have hF1 := free_all (D_left hD) hS hA
      obtain ⟨x329, y329, hq329, hM⟩ := bI_some hM
      refine va_calli (va_runV (As := [.int (xs (i + 1).toNatClampNeg)]) (rest := []) ⟨hx, hb, hml, hown, hts⟩ (c_O_cutAfter l dC dI ad cs _ N σ (xs (i + 1).toNatClampNeg) hq329) (cwV 1 hts (goodVW k_209 k_210 k_211 k_1 k_212) rfl rfl rfl ⟨rfl, by decide, by decide, by decide +kernel⟩ ⟨Nat.le_of_ble_eq_true rfl, Nat.le_of_ble_eq_true rfl⟩) ⟨blindX, va_recv hK hP rfl g_O, payX hP hK (D_left hD) hN⟩ rfl rfl hl.1 rfl (lv_room (Nat.le_of_ble_eq_true rfl)) d_law_329 ⟨hcB, hsB⟩) hS (fun q _ h => hF1 q h) hF1 (fun r329 σ329 t H locs ht hvm hpost hB hz1 hk1 hS => ?_)
      obtain ⟨e1, e2⟩ := hpost
      subst e1
      subst e2
      obtain ⟨hP1, hK1, hD1⟩ := hB
      rw [ht] at hP1
      have hPm := fr (ap_xm hD) hk1 hPm
      have hPo := fr (ap_xo hD) hk1 hPo
      have hP := hP1
      have hD := D_3 hD (σ' := σ329) (μ' := μ) (f' := f)
      refine lv_pop hx hb d_law_332 rfl ?_
      refine lv_aload_n hx hb d_law_333 rfl (lv_at hl 2 rfl) ?_
      refine lv_aload_n hx hb d_law_334 rfl (lv_at hl 0 rfl) ?_
      refine lv_iload hx hb d_law_335 (lv_at hl 4 rfl) ?_
      refine lv_iconst (v := 1) hx hb d_law_337 (by decide) ?_
      refine lv_iadd hx hb d_law_338 ?_
      have hg339 := gd_c hM
      have hM := gd_v hM
      refine va_sld hx hb hX hbl (Nat.not_le.mpr hbl) hS (inb_in hg339) d_law_339 ?_
      have hF1 := free_all (D_left (D_right hD)) hS hA
      obtain ⟨x340, y340, hq340, hM⟩ := bI_some hM
      refine va_calli (va_runV (As := [.int (xs (i + 1).toNatClampNeg)]) (rest := []) ⟨hx, hb, hml, hown, hts⟩ (c_M_cutAfter l dC dI bd cs _ N μ (xs (i + 1).toNatClampNeg) hq340) (cwV 1 hts (goodVW k_826 k_827 k_828 k_8 k_829) rfl rfl rfl ⟨rfl, by decide, by decide, by decide +kernel⟩ ⟨Nat.le_of_ble_eq_true rfl, Nat.le_of_ble_eq_true rfl⟩) ⟨blindM, va_recv hK hPm rfl g_M, payM hPm hK (D_left (D_right hD)) hN⟩ rfl rfl hl.1 rfl (lv_room (Nat.le_of_ble_eq_true rfl)) d_law_340 ⟨hcB, hsB⟩) hS (fun q _ h => hF1 q h) hF1 (fun r340 σ340 t H locs ht hvm hpost hB hz1 hk1 hS => ?_)
      obtain ⟨e1, e2⟩ := hpost
      subst e1
      subst e2
      obtain ⟨hP1, hK1, hD1⟩ := hB
      rw [ht] at hP1
      have hP := fr (ap_mx hD) hk1 hP
      have hPo := fr (ap_mo hD) hk1 hPo
      have hPm := hP1
      have hD := D_3 hD (σ' := σ329) (μ' := σ340) (f' := f)
      refine lv_pop hx hb d_law_343 rfl ?_
      refine lv_goto (tgt := 697) hx hb d_law_344 (by decide) ?_
      exact KF _ _ _ _ ⟨σ329, σ340, f, i, rfl, hM, lv_sub hl [0, 1, 2, 3, 4] rfl, hP, hPm, hPo, hD, hS⟩
    rw [if_neg hw_6] at hM
    by_cases hw_7 : (xs i.toNatClampNeg &&& 31) = 7
    · rw [if_pos hw_7, m_case_7] at hM
      refine lv_tableIn (tgt := 347) (off := 298) hx hb d_law_49 (by rw [hw_7]; decide) (by rw [hw_7]; decide) (by rw [hw_7]; decide) (by decide) ?_
      refine W.widen (k := 600000 - n33) (n := 7290000 - 6 * n33) (by omega) (by omega) ?_
      refine lv_aload_n hx hb d_law_347 rfl (lv_at hl 1 rfl) ?_
      have hF1 := free_all (D_left hD) hS hA
      obtain ⟨x348, y348, hq348, hM⟩ := bI_some hM
      refine va_calli (va_runV (As := []) (rest := []) ⟨hx, hb, hml, hown, hts⟩ (c_O_resume l dC dI ad cs _ N σ hq348) (cwV 0 hts (goodVW k_221 k_222 k_223 k_1 k_224) rfl rfl rfl ⟨rfl, by decide, by decide, by decide +kernel⟩ ⟨Nat.le_of_ble_eq_true rfl, Nat.le_of_ble_eq_true rfl⟩) ⟨blindX, va_recv hK hP rfl g_O, payX hP hK (D_left hD) hN⟩ rfl rfl hl.1 rfl (lv_room (Nat.le_of_ble_eq_true rfl)) d_law_348 ⟨hcB, hsB⟩) hS (fun q _ h => hF1 q h) hF1 (fun r348 σ348 t H locs ht hvm hpost hB hz1 hk1 hS => ?_)
      obtain ⟨e1, e2⟩ := hpost
      subst e1
      subst e2
      obtain ⟨hP1, hK1, hD1⟩ := hB
      rw [ht] at hP1
      have hPm := fr (ap_xm hD) hk1 hPm
      have hPo := fr (ap_xo hD) hk1 hPo
      have hP := hP1
      have hD := D_3 hD (σ' := σ348) (μ' := μ) (f' := f)
      refine lv_pop hx hb d_law_351 rfl ?_
      refine lv_aload_n hx hb d_law_352 rfl (lv_at hl 2 rfl) ?_
      have hF1 := free_all (D_left (D_right hD)) hS hA
      obtain ⟨x353, y353, hq353, hM⟩ := bI_some hM
      refine va_calli (va_runV (As := []) (rest := []) ⟨hx, hb, hml, hown, hts⟩ (c_M_resume l dC dI bd cs _ N μ hq353) (cwV 0 hts (goodVW k_830 k_831 k_832 k_8 k_833) rfl rfl rfl ⟨rfl, by decide, by decide, by decide +kernel⟩ ⟨Nat.le_of_ble_eq_true rfl, Nat.le_of_ble_eq_true rfl⟩) ⟨blindM, va_recv hK hPm rfl g_M, payM hPm hK (D_left (D_right hD)) hN⟩ rfl rfl hl.1 rfl (lv_room (Nat.le_of_ble_eq_true rfl)) d_law_353 ⟨hcB, hsB⟩) hS (fun q _ h => hF1 q h) hF1 (fun r353 σ353 t H locs ht hvm hpost hB hz1 hk1 hS => ?_)
      obtain ⟨e1, e2⟩ := hpost
      subst e1
      subst e2
      obtain ⟨hP1, hK1, hD1⟩ := hB
      rw [ht] at hP1
      have hP := fr (ap_mx hD) hk1 hP
      have hPo := fr (ap_mo hD) hk1 hPo
      have hPm := hP1
      have hD := D_3 hD (σ' := σ348) (μ' := σ353) (f' := f)
      refine lv_pop hx hb d_law_356 rfl ?_
      refine lv_goto (tgt := 697) hx hb d_law_357 (by decide) ?_
      exact KF _ _ _ _ ⟨σ348, σ353, f, i, rfl, hM, lv_sub hl [0, 1, 2, 3, 4] rfl, hP, hPm, hPo, hD, hS⟩
    rw [if_neg hw_7] at hM
    by_cases hw_8 : (xs i.toNatClampNeg &&& 31) = 8
    · rw [if_pos hw_8, m_case_8] at hM
      refine lv_tableIn (tgt := 360) (off := 311) hx hb d_law_49 (by rw [hw_8]; decide) (by rw [hw_8]; decide) (by rw [hw_8]; decide) (by decide) ?_
      refine W.widen (k := 600000 - n33) (n := 7290000 - 6 * n33) (by omega) (by omega) ?_
      refine lv_aload_n hx hb d_law_360 rfl (lv_at hl 1 rfl) ?_
      obtain ⟨x361, y361, hq361, hM⟩ := bI_some hM
      refine va_calli (va_runV (As := []) (rest := []) ⟨hx, hb, hml, hown, hts⟩ (c_O_phase l dC dI ad cs _ N σ hq361) (cwV 0 hts (goodVW k_229 k_230 k_231 k_1 k_232) rfl rfl rfl ⟨rfl, by decide, by decide, by decide +kernel⟩ ⟨Nat.le_of_ble_eq_true rfl, Nat.le_of_ble_eq_true rfl⟩) ⟨blindX, va_recv hK hP rfl g_O, payX hP hK (D_left hD) hN⟩ rfl rfl hl.1 rfl (lv_room (Nat.le_of_ble_eq_true rfl)) d_law_361 ⟨hcB, hsB⟩) hS (fun q h0 h => absurd h0 (Nat.not_lt.mpr h)) (fun q h => hA q (Nat.le_trans hS.1 h)) (fun r361 u t H locs ht hvm hpost hB hz1 hk1 hS => ?_)
      obtain ⟨e1, e2⟩ := hpost
      subst e1
      subst e2
      have hP := keepP hP hk1
      have hPm := keepP hPm hk1
      have hPo := keepP hPo hk1
      refine lv_pop hx hb d_law_364 rfl ?_
      refine lv_aload_n hx hb d_law_365 rfl (lv_at hl 2 rfl) ?_
      have hF1 := free_all (D_left (D_right hD)) hS hA
      obtain ⟨x366, y366, hq366, hM⟩ := bI_some hM
      refine va_calli (va_runV (As := []) (rest := []) ⟨hx, hb, hml, hown, hts⟩ (c_M_phase l dC dI bd cs _ N μ hq366) (cwV 0 hts (goodVW k_834 k_835 k_836 k_8 k_837) rfl rfl rfl ⟨rfl, by decide, by decide, by decide +kernel⟩ ⟨Nat.le_of_ble_eq_true rfl, Nat.le_of_ble_eq_true rfl⟩) ⟨blindM, va_recv hK hPm rfl g_M, payM hPm hK (D_left (D_right hD)) hN⟩ rfl rfl hl.1 rfl (lv_room (Nat.le_of_ble_eq_true rfl)) d_law_366 ⟨hcB, hsB⟩) hS (fun q _ h => hF1 q h) hF1 (fun r366 σ366 t H locs ht hvm hpost hB hz1 hk1 hS => ?_)
      obtain ⟨e1, e2⟩ := hpost
      subst e1
      subst e2
      obtain ⟨hP1, hK1, hD1⟩ := hB
      rw [ht] at hP1
      have hP := fr (ap_mx hD) hk1 hP
      have hPo := fr (ap_mo hD) hk1 hPo
      have hPm := hP1
      have hD := D_3 hD (σ' := σ) (μ' := σ366) (f' := f)
      refine lv_pop hx hb d_law_369 rfl ?_
      refine lv_goto (tgt := 697) hx hb d_law_370 (by decide) ?_
      exact KF _ _ _ _ ⟨σ, σ366, f, i, rfl, hM, lv_sub hl [0, 1, 2, 3, 4] rfl, hP, hPm, hPo, hD, hS⟩
    rw [if_neg hw_8] at hM
    by_cases hw_9 : (xs i.toNatClampNeg &&& 31) = 9
    · rw [if_pos hw_9, m_case_9] at hM
      refine lv_tableIn (tgt := 373) (off := 324) hx hb d_law_49 (by rw [hw_9]; decide) (by rw [hw_9]; decide) (by rw [hw_9]; decide) (by decide) ?_
      refine W.widen (k := 600000 - n33) (n := 7290000 - 6 * n33) (by omega) (by omega) ?_
      refine lv_aload_n hx hb d_law_373 rfl (lv_at hl 1 rfl) ?_
      obtain ⟨x374, y374, hq374, hM⟩ := bI_some hM
      refine va_calli (va_runV (As := []) (rest := []) ⟨hx, hb, hml, hown, hts⟩ (c_O_level l dC dI ad cs _ N σ hq374) (cwV 0 hts (goodVW k_233 k_234 k_235 k_1 k_236) rfl rfl rfl ⟨rfl, by decide, by decide, by decide +kernel⟩ ⟨Nat.le_of_ble_eq_true rfl, Nat.le_of_ble_eq_true rfl⟩) ⟨blindX, va_recv hK hP rfl g_O, payX hP hK (D_left hD) hN⟩ rfl rfl hl.1 rfl (lv_room (Nat.le_of_ble_eq_true rfl)) d_law_374 ⟨hcB, hsB⟩) hS (fun q h0 h => absurd h0 (Nat.not_lt.mpr h)) (fun q h => hA q (Nat.le_trans hS.1 h)) (fun r374 u t H locs ht hvm hpost hB hz1 hk1 hS => ?_)
      obtain ⟨e1, e2⟩ := hpost
      subst e1
      subst e2
      have hP := keepP hP hk1
      have hPm := keepP hPm hk1
      have hPo := keepP hPo hk1
      refine lv_pop hx hb d_law_377 rfl ?_
      refine lv_aload_n hx hb d_law_378 rfl (lv_at hl 2 rfl) ?_
      have hF1 := free_all (D_left (D_right hD)) hS hA
      obtain ⟨x379, y379, hq379, hM⟩ := bI_some hM
      refine va_calli (va_runV (As := []) (rest := []) ⟨hx, hb, hml, hown, hts⟩ (c_M_level l dC dI bd cs _ N μ hq379) (cwV 0 hts (goodVW k_838 k_839 k_840 k_8 k_841) rfl rfl rfl ⟨rfl, by decide, by decide, by decide +kernel⟩ ⟨Nat.le_of_ble_eq_true rfl, Nat.le_of_ble_eq_true rfl⟩) ⟨blindM, va_recv hK hPm rfl g_M, payM hPm hK (D_left (D_right hD)) hN⟩ rfl rfl hl.1 rfl (lv_room (Nat.le_of_ble_eq_true rfl)) d_law_379 ⟨hcB, hsB⟩) hS (fun q _ h => hF1 q h) hF1 (fun r379 σ379 t H locs ht hvm hpost hB hz1 hk1 hS => ?_)
      obtain ⟨e1, e2⟩ := hpost
      subst e1
      subst e2
      obtain ⟨hP1, hK1, hD1⟩ := hB
      rw [ht] at hP1
      have hP := fr (ap_mx hD) hk1 hP
      have hPo := fr (ap_mo hD) hk1 hPo
      have hPm := hP1
      have hD := D_3 hD (σ' := σ) (μ' := σ379) (f' := f)
      refine lv_pop hx hb d_law_382 rfl ?_
      refine lv_goto (tgt := 697) hx hb d_law_383 (by decide) ?_
      exact KF _ _ _ _ ⟨σ, σ379, f, i, rfl, hM, lv_sub hl [0, 1, 2, 3, 4] rfl, hP, hPm, hPo, hD, hS⟩
    rw [if_neg hw_9] at hM
    by_cases hw_10 : (xs i.toNatClampNeg &&& 31) = 10
    · rw [if_pos hw_10, m_case_10] at hM
      refine lv_tableIn (tgt := 386) (off := 337) hx hb d_law_49 (by rw [hw_10]; decide) (by rw [hw_10]; decide) (by rw [hw_10]; decide) (by decide) ?_
      refine W.widen (k := 600000 - n33) (n := 7290000 - 6 * n33) (by omega) (by omega) ?_
      refine lv_aload_n hx hb d_law_386 rfl (lv_at hl 1 rfl) ?_
      refine lv_aload_n hx hb d_law_387 rfl (lv_at hl 0 rfl) ?_
      refine lv_iload hx hb d_law_388 (lv_at hl 4 rfl) ?_
      refine lv_iconst (v := 1) hx hb d_law_390 (by decide) ?_
      refine lv_iadd hx hb d_law_391 ?_
      have hg392 := gd_c hM
      have hM := gd_v hM
      refine va_sld hx hb hX hbl (Nat.not_le.mpr hbl) hS (inb_in hg392) d_law_392 ?_
      obtain ⟨x393, y393, hq393, hM⟩ := bI_some hM
      refine va_calli (va_runV (As := [.int (xs (i + 1).toNatClampNeg)]) (rest := []) ⟨hx, hb, hml, hown, hts⟩ (c_O_runs l dC dI ad cs _ N σ (xs (i + 1).toNatClampNeg) hq393) (cwV 1 hts (goodVW k_241 k_242 k_243 k_1 k_244) rfl rfl rfl ⟨rfl, by decide, by decide, by decide +kernel⟩ ⟨Nat.le_of_ble_eq_true rfl, Nat.le_of_ble_eq_true rfl⟩) ⟨blindX, va_recv hK hP rfl g_O, payX hP hK (D_left hD) hN⟩ rfl rfl hl.1 rfl (lv_room (Nat.le_of_ble_eq_true rfl)) d_law_393 ⟨hcB, hsB⟩) hS (fun q h0 h => absurd h0 (Nat.not_lt.mpr h)) (fun q h => hA q (Nat.le_trans hS.1 h)) (fun r393 u t H locs ht hvm hpost hB hz1 hk1 hS => ?_)
      obtain ⟨e1, e2⟩ := hpost
      subst e1
      subst e2
      have hP := keepP hP hk1
      have hPm := keepP hPm hk1
      have hPo := keepP hPo hk1
      refine lv_pop hx hb d_law_396 rfl ?_
      refine lv_aload_n hx hb d_law_397 rfl (lv_at hl 2 rfl) ?_
      refine lv_aload_n hx hb d_law_398 rfl (lv_at hl 0 rfl) ?_
      refine lv_iload hx hb d_law_399 (lv_at hl 4 rfl) ?_
      refine lv_iconst (v := 1) hx hb d_law_401 (by decide) ?_
      refine lv_iadd hx hb d_law_402 ?_
      have hg403 := gd_c hM
      have hM := gd_v hM
      refine va_sld hx hb hX hbl (Nat.not_le.mpr hbl) hS (inb_in hg403) d_law_403 ?_
      have hF1 := free_all (D_left (D_right hD)) hS hA
      obtain ⟨x404, y404, hq404, hM⟩ := bI_some hM
      refine va_calli (va_runV (As := [.int (xs (i + 1).toNatClampNeg)]) (rest := []) ⟨hx, hb, hml, hown, hts⟩ (c_M_runs l dC dI bd cs _ N μ (xs (i + 1).toNatClampNeg) hq404) (cwV 1 hts (goodVW k_842 k_843 k_844 k_8 k_845) rfl rfl rfl ⟨rfl, by decide, by decide, by decide +kernel⟩ ⟨Nat.le_of_ble_eq_true rfl, Nat.le_of_ble_eq_true rfl⟩) ⟨blindM, va_recv hK hPm rfl g_M, payM hPm hK (D_left (D_right hD)) hN⟩ rfl rfl hl.1 rfl (lv_room (Nat.le_of_ble_eq_true rfl)) d_law_404 ⟨hcB, hsB⟩) hS (fun q _ h => hF1 q h) hF1 (fun r404 σ404 t H locs ht hvm hpost hB hz1 hk1 hS => ?_)
      obtain ⟨e1, e2⟩ := hpost
      subst e1
      subst e2
      obtain ⟨hP1, hK1, hD1⟩ := hB
      rw [ht] at hP1
      have hP := fr (ap_mx hD) hk1 hP
      have hPo := fr (ap_mo hD) hk1 hPo
      have hPm := hP1
      have hD := D_3 hD (σ' := σ) (μ' := σ404) (f' := f)
      refine lv_pop hx hb d_law_407 rfl ?_
      refine lv_goto (tgt := 697) hx hb d_law_408 (by decide) ?_
      exact KF _ _ _ _ ⟨σ, σ404, f, i, rfl, hM, lv_sub hl [0, 1, 2, 3, 4] rfl, hP, hPm, hPo, hD, hS⟩
    rw [if_neg hw_10] at hM
    by_cases hw_11 : (xs i.toNatClampNeg &&& 31) = 11
    · rw [if_pos hw_11, m_case_11] at hM
      refine lv_tableIn (tgt := 411) (off := 362) hx hb d_law_49 (by rw [hw_11]; decide) (by rw [hw_11]; decide) (by rw [hw_11]; decide) (by decide) ?_
      refine W.widen (k := 600000 - n33) (n := 7290000 - 6 * n33) (by omega) (by omega) ?_
      refine lv_aload_n hx hb d_law_411 rfl (lv_at hl 1 rfl) ?_
      refine lv_aload_n hx hb d_law_412 rfl (lv_at hl 0 rfl) ?_
      refine lv_iload hx hb d_law_413 (lv_at hl 4 rfl) ?_
      refine lv_iconst (v := 1) hx hb d_law_415 (by decide) ?_
      refine lv_iadd hx hb d_law_416 ?_
      have hg417 := gd_c hM
      have hM := gd_v hM
      refine va_sld hx hb hX hbl (Nat.not_le.mpr hbl) hS (inb_in hg417) d_law_417 ?_
      obtain ⟨x418, y418, hq418, hM⟩ := bI_some hM
      refine va_calli (va_runV (As := [.int (xs (i + 1).toNatClampNeg)]) (rest := []) ⟨hx, hb, hml, hown, hts⟩ (c_O_dummies l dC dI ad cs _ N σ (xs (i + 1).toNatClampNeg) hq418) (cwV 1 hts (goodVW k_252 k_253 k_254 k_1 k_255) rfl rfl rfl ⟨rfl, by decide, by decide, by decide +kernel⟩ ⟨Nat.le_of_ble_eq_true rfl, Nat.le_of_ble_eq_true rfl⟩) ⟨blindX, va_recv hK hP rfl g_O, payX hP hK (D_left hD) hN⟩ rfl rfl hl.1 rfl (lv_room (Nat.le_of_ble_eq_true rfl)) d_law_418 ⟨hcB, hsB⟩) hS (fun q h0 h => absurd h0 (Nat.not_lt.mpr h)) (fun q h => hA q (Nat.le_trans hS.1 h)) (fun r418 u t H locs ht hvm hpost hB hz1 hk1 hS => ?_)
      obtain ⟨e1, e2⟩ := hpost
      subst e1
      subst e2
      have hP := keepP hP hk1
      have hPm := keepP hPm hk1
      have hPo := keepP hPo hk1
      refine lv_pop hx hb d_law_421 rfl ?_
      refine lv_aload_n hx hb d_law_422 rfl (lv_at hl 2 rfl) ?_
      refine lv_aload_n hx hb d_law_423 rfl (lv_at hl 0 rfl) ?_
      refine lv_iload hx hb d_law_424 (lv_at hl 4 rfl) ?_
      refine lv_iconst (v := 1) hx hb d_law_426 (by decide) ?_
      refine lv_iadd hx hb d_law_427 ?_
      have hg428 := gd_c hM
      have hM := gd_v hM
      refine va_sld hx hb hX hbl (Nat.not_le.mpr hbl) hS (inb_in hg428) d_law_428 ?_
      have hF1 := free_all (D_left (D_right hD)) hS hA
      obtain ⟨x429, y429, hq429, hM⟩ := bI_some hM
      refine va_calli (va_runV (As := [.int (xs (i + 1).toNatClampNeg)]) (rest := []) ⟨hx, hb, hml, hown, hts⟩ (c_M_dummies l dC dI bd cs _ N μ (xs (i + 1).toNatClampNeg) hq429) (cwV 1 hts (goodVW k_846 k_847 k_848 k_8 k_849) rfl rfl rfl ⟨rfl, by decide, by decide, by decide +kernel⟩ ⟨Nat.le_of_ble_eq_true rfl, Nat.le_of_ble_eq_true rfl⟩) ⟨blindM, va_recv hK hPm rfl g_M, payM hPm hK (D_left (D_right hD)) hN⟩ rfl rfl hl.1 rfl (lv_room (Nat.le_of_ble_eq_true rfl)) d_law_429 ⟨hcB, hsB⟩) hS (fun q _ h => hF1 q h) hF1 (fun r429 σ429 t H locs ht hvm hpost hB hz1 hk1 hS => ?_)
      obtain ⟨e1, e2⟩ := hpost
      subst e1
      subst e2
      obtain ⟨hP1, hK1, hD1⟩ := hB
      rw [ht] at hP1
      have hP := fr (ap_mx hD) hk1 hP
      have hPo := fr (ap_mo hD) hk1 hPo
      have hPm := hP1
      have hD := D_3 hD (σ' := σ) (μ' := σ429) (f' := f)
      refine lv_pop hx hb d_law_432 rfl ?_
      refine lv_goto (tgt := 697) hx hb d_law_433 (by decide) ?_
      exact KF _ _ _ _ ⟨σ, σ429, f, i, rfl, hM, lv_sub hl [0, 1, 2, 3, 4] rfl, hP, hPm, hPo, hD, hS⟩
    rw [if_neg hw_11] at hM
    by_cases hw_12 : (xs i.toNatClampNeg &&& 31) = 12
    · rw [if_pos hw_12, m_case_12] at hM
      refine lv_tableIn (tgt := 436) (off := 387) hx hb d_law_49 (by rw [hw_12]; decide) (by rw [hw_12]; decide) (by rw [hw_12]; decide) (by decide) ?_
      refine W.widen (k := 600000 - n33) (n := 7290000 - 6 * n33) (by omega) (by omega) ?_
      refine lv_aload_n hx hb d_law_436 rfl (lv_at hl 1 rfl) ?_
      refine lv_aload_n hx hb d_law_437 rfl (lv_at hl 0 rfl) ?_
      refine lv_iload hx hb d_law_438 (lv_at hl 4 rfl) ?_
      refine lv_iconst (v := 1) hx hb d_law_440 (by decide) ?_
      refine lv_iadd hx hb d_law_441 ?_
      have hg442 := gd_c hM
      have hM := gd_v hM
      refine va_sld hx hb hX hbl (Nat.not_le.mpr hbl) hS (inb_in hg442) d_law_442 ?_
      obtain ⟨x443, y443, hq443, hM⟩ := bI_some hM
      refine va_calli (va_runV (As := [.int (xs (i + 1).toNatClampNeg)]) (rest := []) ⟨hx, hb, hml, hown, hts⟩ (c_O_role l dC dI ad cs _ N σ (xs (i + 1).toNatClampNeg) hq443) (cwV 1 hts (goodVW k_260 k_261 k_262 k_1 k_263) rfl rfl rfl ⟨rfl, by decide, by decide, by decide +kernel⟩ ⟨Nat.le_of_ble_eq_true rfl, Nat.le_of_ble_eq_true rfl⟩) ⟨blindX, va_recv hK hP rfl g_O, payX hP hK (D_left hD) hN⟩ rfl rfl hl.1 rfl (lv_room (Nat.le_of_ble_eq_true rfl)) d_law_443 ⟨hcB, hsB⟩) hS (fun q h0 h => absurd h0 (Nat.not_lt.mpr h)) (fun q h => hA q (Nat.le_trans hS.1 h)) (fun r443 u t H locs ht hvm hpost hB hz1 hk1 hS => ?_)
      obtain ⟨e1, e2⟩ := hpost
      subst e1
      subst e2
      have hP := keepP hP hk1
      have hPm := keepP hPm hk1
      have hPo := keepP hPo hk1
      refine lv_pop hx hb d_law_446 rfl ?_
      refine lv_aload_n hx hb d_law_447 rfl (lv_at hl 2 rfl) ?_
      refine lv_aload_n hx hb d_law_448 rfl (lv_at hl 0 rfl) ?_
      refine lv_iload hx hb d_law_449 (lv_at hl 4 rfl) ?_
      refine lv_iconst (v := 1) hx hb d_law_451 (by decide) ?_
      refine lv_iadd hx hb d_law_452 ?_
      have hg453 := gd_c hM
      have hM := gd_v hM
      refine va_sld hx hb hX hbl (Nat.not_le.mpr hbl) hS (inb_in hg453) d_law_453 ?_
      have hF1 := free_all (D_left (D_right hD)) hS hA
      obtain ⟨x454, y454, hq454, hM⟩ := bI_some hM
      refine va_calli (va_runV (As := [.int (xs (i + 1).toNatClampNeg)]) (rest := []) ⟨hx, hb, hml, hown, hts⟩ (c_M_role l dC dI bd cs _ N μ (xs (i + 1).toNatClampNeg) hq454) (cwV 1 hts (goodVW k_850 k_851 k_852 k_8 k_853) rfl rfl rfl ⟨rfl, by decide, by decide, by decide +kernel⟩ ⟨Nat.le_of_ble_eq_true rfl, Nat.le_of_ble_eq_true rfl⟩) ⟨blindM, va_recv hK hPm rfl g_M, payM hPm hK (D_left (D_right hD)) hN⟩ rfl rfl hl.1 rfl (lv_room (Nat.le_of_ble_eq_true rfl)) d_law_454 ⟨hcB, hsB⟩) hS (fun q _ h => hF1 q h) hF1 (fun r454 σ454 t H locs ht hvm hpost hB hz1 hk1 hS => ?_)
      obtain ⟨e1, e2⟩ := hpost
      subst e1
      subst e2
      obtain ⟨hP1, hK1, hD1⟩ := hB
      rw [ht] at hP1
      have hP := fr (ap_mx hD) hk1 hP
      have hPo := fr (ap_mo hD) hk1 hPo
      have hPm := hP1
      have hD := D_3 hD (σ' := σ) (μ' := σ454) (f' := f)
      refine lv_pop hx hb d_law_457 rfl ?_
      refine lv_goto (tgt := 697) hx hb d_law_458 (by decide) ?_
      exact KF _ _ _ _ ⟨σ, σ454, f, i, rfl, hM, lv_sub hl [0, 1, 2, 3, 4] rfl, hP, hPm, hPo, hD, hS⟩
    rw [if_neg hw_12] at hM
    by_cases hw_13 : (xs i.toNatClampNeg &&& 31) = 13
    · rw [if_pos hw_13, m_case_13] at hM
      refine lv_tableIn (tgt := 461) (off := 412) hx hb d_law_49 (by rw [hw_13]; decide) (by rw [hw_13]; decide) (by rw [hw_13]; decide) (by decide) ?_
      refine W.widen (k := 600000 - n33) (n := 7290000 - 6 * n33) (by omega) (by omega) ?_
      refine lv_aload_n hx hb d_law_461 rfl (lv_at hl 1 rfl) ?_
      refine lv_aload_n hx hb d_law_462 rfl (lv_at hl 0 rfl) ?_
      refine lv_iload hx hb d_law_463 (lv_at hl 4 rfl) ?_
      refine lv_iconst (v := 1) hx hb d_law_465 (by decide) ?_
      refine lv_iadd hx hb d_law_466 ?_
      have hg467 := gd_c hM
      have hM := gd_v hM
      refine va_sld hx hb hX hbl (Nat.not_le.mpr hbl) hS (inb_in hg467) d_law_467 ?_
      refine lv_aload_n hx hb d_law_468 rfl (lv_at hl 0 rfl) ?_
      refine lv_iload hx hb d_law_469 (lv_at hl 4 rfl) ?_
      refine lv_iconst (v := 2) hx hb d_law_471 (by decide) ?_
      refine lv_iadd hx hb d_law_472 ?_
      have hg473 := gd_c hM
      have hM := gd_v hM
      refine va_sld hx hb hX hbl (Nat.not_le.mpr hbl) hS (inb_in hg473) d_law_473 ?_
      obtain ⟨x474, y474, hq474, hM⟩ := bI_some hM
      refine va_calli (va_runV (As := [.int (xs (i + 1).toNatClampNeg), .int (xs (i + 2).toNatClampNeg)]) (rest := []) ⟨hx, hb, hml, hown, hts⟩ (c_O_length l dC dI ad cs _ N σ (xs (i + 1).toNatClampNeg) (xs (i + 2).toNatClampNeg) hq474) (cwV 2 hts (goodVW k_264 k_265 k_266 k_1 k_267) rfl rfl rfl ⟨rfl, by decide, by decide, by decide +kernel⟩ ⟨Nat.le_of_ble_eq_true rfl, Nat.le_of_ble_eq_true rfl⟩) ⟨blindX, va_recv hK hP rfl g_O, payX hP hK (D_left hD) hN⟩ rfl rfl hl.1 rfl (lv_room (Nat.le_of_ble_eq_true rfl)) d_law_474 ⟨hcB, hsB⟩) hS (fun q h0 h => absurd h0 (Nat.not_lt.mpr h)) (fun q h => hA q (Nat.le_trans hS.1 h)) (fun r474 u t H locs ht hvm hpost hB hz1 hk1 hS => ?_)
      obtain ⟨e1, e2⟩ := hpost
      subst e1
      subst e2
      have hP := keepP hP hk1
      have hPm := keepP hPm hk1
      have hPo := keepP hPo hk1
      refine lv_pop hx hb d_law_477 rfl ?_
      refine lv_aload_n hx hb d_law_478 rfl (lv_at hl 2 rfl) ?_
      refine lv_aload_n hx hb d_law_479 rfl (lv_at hl 0 rfl) ?_
      refine lv_iload hx hb d_law_480 (lv_at hl 4 rfl) ?_
      refine lv_iconst (v := 1) hx hb d_law_482 (by decide) ?_
      refine lv_iadd hx hb d_law_483 ?_
      have hg484 := gd_c hM
      have hM := gd_v hM
      refine va_sld hx hb hX hbl (Nat.not_le.mpr hbl) hS (inb_in hg484) d_law_484 ?_
      refine lv_aload_n hx hb d_law_485 rfl (lv_at hl 0 rfl) ?_
      refine lv_iload hx hb d_law_486 (lv_at hl 4 rfl) ?_
      refine lv_iconst (v := 2) hx hb d_law_488 (by decide) ?_
      refine lv_iadd hx hb d_law_489 ?_
      have hg490 := gd_c hM
      have hM := gd_v hM
      refine va_sld hx hb hX hbl (Nat.not_le.mpr hbl) hS (inb_in hg490) d_law_490 ?_
      have hF1 := free_all (D_left (D_right hD)) hS hA
      obtain ⟨x491, y491, hq491, hM⟩ := bI_some hM
      refine va_calli (va_runV (As := [.int (xs (i + 1).toNatClampNeg), .int (xs (i + 2).toNatClampNeg)]) (rest := []) ⟨hx, hb, hml, hown, hts⟩ (c_M_length l dC dI bd cs _ N μ (xs (i + 1).toNatClampNeg) (xs (i + 2).toNatClampNeg) hq491) (cwV 2 hts (goodVW k_854 k_855 k_856 k_8 k_857) rfl rfl rfl ⟨rfl, by decide, by decide, by decide +kernel⟩ ⟨Nat.le_of_ble_eq_true rfl, Nat.le_of_ble_eq_true rfl⟩) ⟨blindM, va_recv hK hPm rfl g_M, payM hPm hK (D_left (D_right hD)) hN⟩ rfl rfl hl.1 rfl (lv_room (Nat.le_of_ble_eq_true rfl)) d_law_491 ⟨hcB, hsB⟩) hS (fun q _ h => hF1 q h) hF1 (fun r491 σ491 t H locs ht hvm hpost hB hz1 hk1 hS => ?_)
      obtain ⟨e1, e2⟩ := hpost
      subst e1
      subst e2
      obtain ⟨hP1, hK1, hD1⟩ := hB
      rw [ht] at hP1
      have hP := fr (ap_mx hD) hk1 hP
      have hPo := fr (ap_mo hD) hk1 hPo
      have hPm := hP1
      have hD := D_3 hD (σ' := σ) (μ' := σ491) (f' := f)
      refine lv_pop hx hb d_law_494 rfl ?_
      refine lv_goto (tgt := 697) hx hb d_law_495 (by decide) ?_
      exact KF _ _ _ _ ⟨σ, σ491, f, i, rfl, hM, lv_sub hl [0, 1, 2, 3, 4] rfl, hP, hPm, hPo, hD, hS⟩
    rw [if_neg hw_13] at hM
    by_cases hw_14 : (xs i.toNatClampNeg &&& 31) = 14
    · rw [if_pos hw_14, m_case_14] at hM
      refine lv_tableIn (tgt := 498) (off := 449) hx hb d_law_49 (by rw [hw_14]; decide) (by rw [hw_14]; decide) (by rw [hw_14]; decide) (by decide) ?_
      refine W.widen (k := 600000 - n33) (n := 7290000 - 6 * n33) (by omega) (by omega) ?_
      refine lv_aload_n hx hb d_law_498 rfl (lv_at hl 1 rfl) ?_
      refine lv_aload_n hx hb d_law_499 rfl (lv_at hl 0 rfl) ?_
      refine lv_iload hx hb d_law_500 (lv_at hl 4 rfl) ?_
      refine lv_iconst (v := 1) hx hb d_law_502 (by decide) ?_
      refine lv_iadd hx hb d_law_503 ?_
      have hg504 := gd_c hM
      have hM := gd_v hM
      refine va_sld hx hb hX hbl (Nat.not_le.mpr hbl) hS (inb_in hg504) d_law_504 ?_
      refine lv_aload_n hx hb d_law_505 rfl (lv_at hl 0 rfl) ?_
      refine lv_iload hx hb d_law_506 (lv_at hl 4 rfl) ?_
      refine lv_iconst (v := 2) hx hb d_law_508 (by decide) ?_
      refine lv_iadd hx hb d_law_509 ?_
      have hg510 := gd_c hM
      have hM := gd_v hM
      refine va_sld hx hb hX hbl (Nat.not_le.mpr hbl) hS (inb_in hg510) d_law_510 ?_
      refine lv_aload_n hx hb d_law_511 rfl (lv_at hl 0 rfl) ?_
      refine lv_iload hx hb d_law_512 (lv_at hl 4 rfl) ?_
      refine lv_iconst (v := 3) hx hb d_law_514 (by decide) ?_
      refine lv_iadd hx hb d_law_515 ?_
      have hg516 := gd_c hM
      have hM := gd_v hM
      refine va_sld hx hb hX hbl (Nat.not_le.mpr hbl) hS (inb_in hg516) d_law_516 ?_
      obtain ⟨x517, y517, hq517, hM⟩ := bI_some hM
      refine va_calli (va_runV (As := [.int (xs (i + 1).toNatClampNeg), .int (xs (i + 2).toNatClampNeg), .int (xs (i + 3).toNatClampNeg)]) (rest := []) ⟨hx, hb, hml, hown, hts⟩ (c_O_at l dC dI ad cs _ N σ (xs (i + 1).toNatClampNeg) (xs (i + 2).toNatClampNeg) (xs (i + 3).toNatClampNeg) hq517) (cwV 3 hts (goodVW k_272 k_273 k_274 k_1 k_275) rfl rfl rfl ⟨rfl, by decide, by decide, by decide +kernel⟩ ⟨Nat.le_of_ble_eq_true rfl, Nat.le_of_ble_eq_true rfl⟩) ⟨blindX, va_recv hK hP rfl g_O, payX hP hK (D_left hD) hN⟩ rfl rfl hl.1 rfl (lv_room (Nat.le_of_ble_eq_true rfl)) d_law_517 ⟨hcB, hsB⟩) hS (fun q h0 h => absurd h0 (Nat.not_lt.mpr h)) (fun q h => hA q (Nat.le_trans hS.1 h)) (fun r517 u t H locs ht hvm hpost hB hz1 hk1 hS => ?_)
      obtain ⟨e1, e2⟩ := hpost
      subst e1
      subst e2
      have hP := keepP hP hk1
      have hPm := keepP hPm hk1
      have hPo := keepP hPo hk1
      refine lv_pop hx hb d_law_520 rfl ?_
      refine lv_aload_n hx hb d_law_521 rfl (lv_at hl 2 rfl) ?_
      refine lv_aload_n hx hb d_law_522 rfl (lv_at hl 0 rfl) ?_
      refine lv_iload hx hb d_law_523 (lv_at hl 4 rfl) ?_
      refine lv_iconst (v := 1) hx hb d_law_525 (by decide) ?_
      refine lv_iadd hx hb d_law_526 ?_
      have hg527 := gd_c hM
      have hM := gd_v hM
      refine va_sld hx hb hX hbl (Nat.not_le.mpr hbl) hS (inb_in hg527) d_law_527 ?_
      refine lv_aload_n hx hb d_law_528 rfl (lv_at hl 0 rfl) ?_
      refine lv_iload hx hb d_law_529 (lv_at hl 4 rfl) ?_
      refine lv_iconst (v := 2) hx hb d_law_531 (by decide) ?_
      refine lv_iadd hx hb d_law_532 ?_
      have hg533 := gd_c hM
      have hM := gd_v hM
      refine va_sld hx hb hX hbl (Nat.not_le.mpr hbl) hS (inb_in hg533) d_law_533 ?_
      refine lv_aload_n hx hb d_law_534 rfl (lv_at hl 0 rfl) ?_
      refine lv_iload hx hb d_law_535 (lv_at hl 4 rfl) ?_
      refine lv_iconst (v := 3) hx hb d_law_537 (by decide) ?_
      refine lv_iadd hx hb d_law_538 ?_
      have hg539 := gd_c hM
      have hM := gd_v hM
      refine va_sld hx hb hX hbl (Nat.not_le.mpr hbl) hS (inb_in hg539) d_law_539 ?_
      have hF1 := free_all (D_left (D_right hD)) hS hA
      obtain ⟨x540, y540, hq540, hM⟩ := bI_some hM
      refine va_calli (va_runV (As := [.int (xs (i + 1).toNatClampNeg), .int (xs (i + 2).toNatClampNeg), .int (xs (i + 3).toNatClampNeg)]) (rest := []) ⟨hx, hb, hml, hown, hts⟩ (c_M_at l dC dI bd cs _ N μ (xs (i + 1).toNatClampNeg) (xs (i + 2).toNatClampNeg) (xs (i + 3).toNatClampNeg) hq540) (cwV 3 hts (goodVW k_858 k_859 k_860 k_8 k_861) rfl rfl rfl ⟨rfl, by decide, by decide, by decide +kernel⟩ ⟨Nat.le_of_ble_eq_true rfl, Nat.le_of_ble_eq_true rfl⟩) ⟨blindM, va_recv hK hPm rfl g_M, payM hPm hK (D_left (D_right hD)) hN⟩ rfl rfl hl.1 rfl (lv_room (Nat.le_of_ble_eq_true rfl)) d_law_540 ⟨hcB, hsB⟩) hS (fun q _ h => hF1 q h) hF1 (fun r540 σ540 t H locs ht hvm hpost hB hz1 hk1 hS => ?_)
      obtain ⟨e1, e2⟩ := hpost
      subst e1
      subst e2
      obtain ⟨hP1, hK1, hD1⟩ := hB
      rw [ht] at hP1
      have hP := fr (ap_mx hD) hk1 hP
      have hPo := fr (ap_mo hD) hk1 hPo
      have hPm := hP1
      have hD := D_3 hD (σ' := σ) (μ' := σ540) (f' := f)
      refine lv_pop hx hb d_law_543 rfl ?_
      refine lv_goto (tgt := 697) hx hb d_law_544 (by decide) ?_
      exact KF _ _ _ _ ⟨σ, σ540, f, i, rfl, hM, lv_sub hl [0, 1, 2, 3, 4] rfl, hP, hPm, hPo, hD, hS⟩
    rw [if_neg hw_14] at hM
    by_cases hw_15 : (xs i.toNatClampNeg &&& 31) = 15
    · rw [if_pos hw_15, m_case_15] at hM
      refine lv_tableIn (tgt := 547) (off := 498) hx hb d_law_49 (by rw [hw_15]; decide) (by rw [hw_15]; decide) (by rw [hw_15]; decide) (by decide) ?_
      refine W.widen (k := 600000 - n33) (n := 7290000 - 6 * n33) (by omega) (by omega) ?_
      refine lv_aload_n hx hb d_law_547 rfl (lv_at hl 1 rfl) ?_
      refine lv_aload_n hx hb d_law_548 rfl (lv_at hl 0 rfl) ?_
      refine lv_iload hx hb d_law_549 (lv_at hl 4 rfl) ?_
      refine lv_iconst (v := 1) hx hb d_law_551 (by decide) ?_
      refine lv_iadd hx hb d_law_552 ?_
      have hg553 := gd_c hM
      have hM := gd_v hM
      refine va_sld hx hb hX hbl (Nat.not_le.mpr hbl) hS (inb_in hg553) d_law_553 ?_
      obtain ⟨x554, y554, hq554, hM⟩ := bI_some hM
      refine va_calli (va_runV (As := [.int (xs (i + 1).toNatClampNeg)]) (rest := []) ⟨hx, hb, hml, hown, hts⟩ (c_O_memory l dC dI ad cs _ N σ (xs (i + 1).toNatClampNeg) hq554) (cwV 1 hts (goodVW k_281 k_282 k_283 k_1 k_284) rfl rfl rfl ⟨rfl, by decide, by decide, by decide +kernel⟩ ⟨Nat.le_of_ble_eq_true rfl, Nat.le_of_ble_eq_true rfl⟩) ⟨blindX, va_recv hK hP rfl g_O, payX hP hK (D_left hD) hN⟩ rfl rfl hl.1 rfl (lv_room (Nat.le_of_ble_eq_true rfl)) d_law_554 ⟨hcB, hsB⟩) hS (fun q h0 h => absurd h0 (Nat.not_lt.mpr h)) (fun q h => hA q (Nat.le_trans hS.1 h)) (fun r554 u t H locs ht hvm hpost hB hz1 hk1 hS => ?_)
      obtain ⟨e1, e2⟩ := hpost
      subst e1
      subst e2
      have hP := keepP hP hk1
      have hPm := keepP hPm hk1
      have hPo := keepP hPo hk1
      refine lv_pop hx hb d_law_557 rfl ?_
      refine lv_aload_n hx hb d_law_558 rfl (lv_at hl 2 rfl) ?_
      refine lv_aload_n hx hb d_law_559 rfl (lv_at hl 0 rfl) ?_
      refine lv_iload hx hb d_law_560 (lv_at hl 4 rfl) ?_
      refine lv_iconst (v := 1) hx hb d_law_562 (by decide) ?_
      refine lv_iadd hx hb d_law_563 ?_
      have hg564 := gd_c hM
      have hM := gd_v hM
      refine va_sld hx hb hX hbl (Nat.not_le.mpr hbl) hS (inb_in hg564) d_law_564 ?_
      have hF1 := free_all (D_left (D_right hD)) hS hA
      obtain ⟨x565, y565, hq565, hM⟩ := bI_some hM
      refine va_calli (va_runV (As := [.int (xs (i + 1).toNatClampNeg)]) (rest := []) ⟨hx, hb, hml, hown, hts⟩ (c_M_memory l dC dI bd cs _ N μ (xs (i + 1).toNatClampNeg) hq565) (cwV 1 hts (goodVW k_862 k_863 k_864 k_8 k_865) rfl rfl rfl ⟨rfl, by decide, by decide, by decide +kernel⟩ ⟨Nat.le_of_ble_eq_true rfl, Nat.le_of_ble_eq_true rfl⟩) ⟨blindM, va_recv hK hPm rfl g_M, payM hPm hK (D_left (D_right hD)) hN⟩ rfl rfl hl.1 rfl (lv_room (Nat.le_of_ble_eq_true rfl)) d_law_565 ⟨hcB, hsB⟩) hS (fun q _ h => hF1 q h) hF1 (fun r565 σ565 t H locs ht hvm hpost hB hz1 hk1 hS => ?_)
      obtain ⟨e1, e2⟩ := hpost
      subst e1
      subst e2
      obtain ⟨hP1, hK1, hD1⟩ := hB
      rw [ht] at hP1
      have hP := fr (ap_mx hD) hk1 hP
      have hPo := fr (ap_mo hD) hk1 hPo
      have hPm := hP1
      have hD := D_3 hD (σ' := σ) (μ' := σ565) (f' := f)
      refine lv_pop hx hb d_law_568 rfl ?_
      refine lv_goto (tgt := 697) hx hb d_law_569 (by decide) ?_
      exact KF _ _ _ _ ⟨σ, σ565, f, i, rfl, hM, lv_sub hl [0, 1, 2, 3, 4] rfl, hP, hPm, hPo, hD, hS⟩
    rw [if_neg hw_15] at hM
    by_cases hw_16 : (xs i.toNatClampNeg &&& 31) = 16
    · rw [if_pos hw_16, m_case_16] at hM
      refine lv_tableIn (tgt := 572) (off := 523) hx hb d_law_49 (by rw [hw_16]; decide) (by rw [hw_16]; decide) (by rw [hw_16]; decide) (by decide) ?_
      refine W.widen (k := 600000 - n33) (n := 7290000 - 6 * n33) (by omega) (by omega) ?_
      refine lv_aload_n hx hb d_law_572 rfl (lv_at hl 1 rfl) ?_
      obtain ⟨x573, y573, hq573, hM⟩ := bI_some hM
      refine va_calli (va_runV (As := []) (rest := []) ⟨hx, hb, hml, hown, hts⟩ (c_O_written l dC dI ad cs _ N σ hq573) (cwV 0 hts (goodVW k_289 k_290 k_291 k_1 k_292) rfl rfl rfl ⟨rfl, by decide, by decide, by decide +kernel⟩ ⟨Nat.le_of_ble_eq_true rfl, Nat.le_of_ble_eq_true rfl⟩) ⟨blindX, va_recv hK hP rfl g_O, payX hP hK (D_left hD) hN⟩ rfl rfl hl.1 rfl (lv_room (Nat.le_of_ble_eq_true rfl)) d_law_573 ⟨hcB, hsB⟩) hS (fun q h0 h => absurd h0 (Nat.not_lt.mpr h)) (fun q h => hA q (Nat.le_trans hS.1 h)) (fun r573 u t H locs ht hvm hpost hB hz1 hk1 hS => ?_)
      obtain ⟨e1, e2⟩ := hpost
      subst e1
      subst e2
      have hP := keepP hP hk1
      have hPm := keepP hPm hk1
      have hPo := keepP hPo hk1
      refine lv_pop hx hb d_law_576 rfl ?_
      refine lv_aload_n hx hb d_law_577 rfl (lv_at hl 2 rfl) ?_
      have hF1 := free_all (D_left (D_right hD)) hS hA
      obtain ⟨x578, y578, hq578, hM⟩ := bI_some hM
      refine va_calli (va_runV (As := []) (rest := []) ⟨hx, hb, hml, hown, hts⟩ (c_M_written l dC dI bd cs _ N μ hq578) (cwV 0 hts (goodVW k_866 k_867 k_868 k_8 k_869) rfl rfl rfl ⟨rfl, by decide, by decide, by decide +kernel⟩ ⟨Nat.le_of_ble_eq_true rfl, Nat.le_of_ble_eq_true rfl⟩) ⟨blindM, va_recv hK hPm rfl g_M, payM hPm hK (D_left (D_right hD)) hN⟩ rfl rfl hl.1 rfl (lv_room (Nat.le_of_ble_eq_true rfl)) d_law_578 ⟨hcB, hsB⟩) hS (fun q _ h => hF1 q h) hF1 (fun r578 σ578 t H locs ht hvm hpost hB hz1 hk1 hS => ?_)
      obtain ⟨e1, e2⟩ := hpost
      subst e1
      subst e2
      obtain ⟨hP1, hK1, hD1⟩ := hB
      rw [ht] at hP1
      have hP := fr (ap_mx hD) hk1 hP
      have hPo := fr (ap_mo hD) hk1 hPo
      have hPm := hP1
      have hD := D_3 hD (σ' := σ) (μ' := σ578) (f' := f)
      refine lv_pop hx hb d_law_581 rfl ?_
      refine lv_goto (tgt := 697) hx hb d_law_582 (by decide) ?_
      exact KF _ _ _ _ ⟨σ, σ578, f, i, rfl, hM, lv_sub hl [0, 1, 2, 3, 4] rfl, hP, hPm, hPo, hD, hS⟩
    rw [if_neg hw_16] at hM
    by_cases hw_17 : (xs i.toNatClampNeg &&& 31) = 17
    · rw [if_pos hw_17, m_case_17] at hM
      refine lv_tableIn (tgt := 585) (off := 536) hx hb d_law_49 (by rw [hw_17]; decide) (by rw [hw_17]; decide) (by rw [hw_17]; decide) (by decide) ?_
      refine W.widen (k := 600000 - n33) (n := 7290000 - 6 * n33) (by omega) (by omega) ?_
      refine lv_aload_n hx hb d_law_585 rfl (lv_at hl 1 rfl) ?_
      obtain ⟨x586, y586, hq586, hM⟩ := bI_some hM
      refine va_calli (va_runV (As := []) (rest := []) ⟨hx, hb, hml, hown, hts⟩ (c_O_broken l dC dI ad cs _ N σ hq586) (cwV 0 hts (goodVW k_297 k_298 k_299 k_1 k_300) rfl rfl rfl ⟨rfl, by decide, by decide, by decide +kernel⟩ ⟨Nat.le_of_ble_eq_true rfl, Nat.le_of_ble_eq_true rfl⟩) ⟨blindX, va_recv hK hP rfl g_O, payX hP hK (D_left hD) hN⟩ rfl rfl hl.1 rfl (lv_room (Nat.le_of_ble_eq_true rfl)) d_law_586 ⟨hcB, hsB⟩) hS (fun q h0 h => absurd h0 (Nat.not_lt.mpr h)) (fun q h => hA q (Nat.le_trans hS.1 h)) (fun r586 u t H locs ht hvm hpost hB hz1 hk1 hS => ?_)
      obtain ⟨e1, e2⟩ := hpost
      subst e1
      subst e2
      have hP := keepP hP hk1
      have hPm := keepP hPm hk1
      have hPo := keepP hPo hk1
      refine lv_pop hx hb d_law_589 rfl ?_
      refine lv_aload_n hx hb d_law_590 rfl (lv_at hl 2 rfl) ?_
      have hF1 := free_all (D_left (D_right hD)) hS hA
      obtain ⟨x591, y591, hq591, hM⟩ := bI_some hM
      refine va_calli (va_runV (As := []) (rest := []) ⟨hx, hb, hml, hown, hts⟩ (c_M_broken l dC dI bd cs _ N μ hq591) (cwV 0 hts (goodVW k_870 k_871 k_872 k_8 k_873) rfl rfl rfl ⟨rfl, by decide, by decide, by decide +kernel⟩ ⟨Nat.le_of_ble_eq_true rfl, Nat.le_of_ble_eq_true rfl⟩) ⟨blindM, va_recv hK hPm rfl g_M, payM hPm hK (D_left (D_right hD)) hN⟩ rfl rfl hl.1 rfl (lv_room (Nat.le_of_ble_eq_true rfl)) d_law_591 ⟨hcB, hsB⟩) hS (fun q _ h => hF1 q h) hF1 (fun r591 σ591 t H locs ht hvm hpost hB hz1 hk1 hS => ?_)
      obtain ⟨e1, e2⟩ := hpost
      subst e1
      subst e2
      obtain ⟨hP1, hK1, hD1⟩ := hB
      rw [ht] at hP1
      have hP := fr (ap_mx hD) hk1 hP
      have hPo := fr (ap_mo hD) hk1 hPo
      have hPm := hP1
      have hD := D_3 hD (σ' := σ) (μ' := σ591) (f' := f)
      refine lv_pop hx hb d_law_594 rfl ?_
      refine lv_goto (tgt := 697) hx hb d_law_595 (by decide) ?_
      exact KF _ _ _ _ ⟨σ, σ591, f, i, rfl, hM, lv_sub hl [0, 1, 2, 3, 4] rfl, hP, hPm, hPo, hD, hS⟩
    rw [if_neg hw_17] at hM
    by_cases hw_18 : (xs i.toNatClampNeg &&& 31) = 18
    · rw [if_pos hw_18, m_case_18] at hM
      refine lv_tableIn (tgt := 598) (off := 549) hx hb d_law_49 (by rw [hw_18]; decide) (by rw [hw_18]; decide) (by rw [hw_18]; decide) (by decide) ?_
      refine W.widen (k := 600000 - n33) (n := 7290000 - 6 * n33) (by omega) (by omega) ?_
      refine lv_aload_n hx hb d_law_598 rfl (lv_at hl 1 rfl) ?_
      refine lv_aload_n hx hb d_law_599 rfl (lv_at hl 0 rfl) ?_
      refine lv_iload hx hb d_law_600 (lv_at hl 4 rfl) ?_
      refine lv_iconst (v := 1) hx hb d_law_602 (by decide) ?_
      refine lv_iadd hx hb d_law_603 ?_
      have hg604 := gd_c hM
      have hM := gd_v hM
      refine va_sld hx hb hX hbl (Nat.not_le.mpr hbl) hS (inb_in hg604) d_law_604 ?_
      obtain ⟨x605, y605, hq605, hM⟩ := bI_some hM
      refine va_calli (va_runV (As := [.int (xs (i + 1).toNatClampNeg)]) (rest := []) ⟨hx, hb, hml, hown, hts⟩ (c_O_sorted l dC dI ad cs _ N σ (xs (i + 1).toNatClampNeg) hq605) (cwV 1 hts (goodVW k_301 k_302 k_303 k_1 k_304) rfl rfl rfl ⟨rfl, by decide, by decide, by decide +kernel⟩ ⟨Nat.le_of_ble_eq_true rfl, Nat.le_of_ble_eq_true rfl⟩) ⟨blindX, va_recv hK hP rfl g_O, payX hP hK (D_left hD) hN⟩ rfl rfl hl.1 rfl (lv_room (Nat.le_of_ble_eq_true rfl)) d_law_605 ⟨hcB, hsB⟩) hS (fun q h0 h => absurd h0 (Nat.not_lt.mpr h)) (fun q h => hA q (Nat.le_trans hS.1 h)) (fun r605 u t H locs ht hvm hpost hB hz1 hk1 hS => ?_)
      obtain ⟨e1, e2⟩ := hpost
      subst e1
      subst e2
      have hP := keepP hP hk1
      have hPm := keepP hPm hk1
      have hPo := keepP hPo hk1
      refine lv_aload_n hx hb d_law_608 rfl (lv_at hl 2 rfl) ?_
      refine lv_aload_n hx hb d_law_609 rfl (lv_at hl 0 rfl) ?_
      refine lv_iload hx hb d_law_610 (lv_at hl 4 rfl) ?_
      refine lv_iconst (v := 1) hx hb d_law_612 (by decide) ?_
      refine lv_iadd hx hb d_law_613 ?_
      have hg614 := gd_c hM
      have hM := gd_v hM
      refine va_sld hx hb hX hbl (Nat.not_le.mpr hbl) hS (inb_in hg614) d_law_614 ?_
      have hF1 := free_all (D_left (D_right hD)) hS hA
      obtain ⟨x615, y615, hq615, hM⟩ := bI_some hM
      refine va_calli (va_runV (As := [.int (xs (i + 1).toNatClampNeg)]) (rest := [.int r605]) ⟨hx, hb, hml, hown, hts⟩ (c_M_sorted l dC dI bd cs _ N μ (xs (i + 1).toNatClampNeg) hq615) (cwV 1 hts (goodVW k_874 k_875 k_876 k_8 k_877) rfl rfl rfl ⟨rfl, by decide, by decide, by decide +kernel⟩ ⟨Nat.le_of_ble_eq_true rfl, Nat.le_of_ble_eq_true rfl⟩) ⟨blindM, va_recv hK hPm rfl g_M, payM hPm hK (D_left (D_right hD)) hN⟩ rfl rfl hl.1 rfl (lv_room (Nat.le_of_ble_eq_true rfl)) d_law_615 ⟨hcB, hsB⟩) hS (fun q _ h => hF1 q h) hF1 (fun r615 σ615 t H locs ht hvm hpost hB hz1 hk1 hS => ?_)
      obtain ⟨e1, e2⟩ := hpost
      subst e1
      subst e2
      obtain ⟨hP1, hK1, hD1⟩ := hB
      rw [ht] at hP1
      have hP := fr (ap_mx hD) hk1 hP
      have hPo := fr (ap_mo hD) hk1 hPo
      have hPm := hP1
      have hD := D_3 hD (σ' := σ) (μ' := σ615) (f' := f)
      refine lv_icmp_eq (tgt := 697) hx hb d_law_618 (by decide) (fun h618 => ?_) (fun h618 => ?_)
      · rw [if_pos h618] at hM
        exact KF _ _ _ _ ⟨σ, σ615, f, i, rfl, hM, lv_sub hl [0, 1, 2, 3, 4] rfl, hP, hPm, hPo, hD, hS⟩
      · rw [if_neg h618] at hM
        refine lv_iconst (v := 0) hx hb d_law_621 (by decide) ?_
        cases hM
    rw [if_neg hw_18] at hM
    by_cases hw_19 : (xs i.toNatClampNeg &&& 31) = 19
    · rw [if_pos hw_19, m_case_19] at hM
      refine lv_tableIn (tgt := 623) (off := 574) hx hb d_law_49 (by rw [hw_19]; decide) (by rw [hw_19]; decide) (by rw [hw_19]; decide) (by decide) ?_
      refine W.widen (k := 600000 - n33) (n := 7290000 - 6 * n33) (by omega) (by omega) ?_
      refine lv_aload_n hx hb d_law_623 rfl (lv_at hl 1 rfl) ?_
      refine lv_aload_n hx hb d_law_624 rfl (lv_at hl 0 rfl) ?_
      refine lv_iload hx hb d_law_625 (lv_at hl 4 rfl) ?_
      refine lv_iconst (v := 1) hx hb d_law_627 (by decide) ?_
      refine lv_iadd hx hb d_law_628 ?_
      have hg629 := gd_c hM
      have hM := gd_v hM
      refine va_sld hx hb hX hbl (Nat.not_le.mpr hbl) hS (inb_in hg629) d_law_629 ?_
      refine lv_aload_n hx hb d_law_630 rfl (lv_at hl 0 rfl) ?_
      refine lv_iload hx hb d_law_631 (lv_at hl 4 rfl) ?_
      refine lv_iconst (v := 2) hx hb d_law_633 (by decide) ?_
      refine lv_iadd hx hb d_law_634 ?_
      have hg635 := gd_c hM
      have hM := gd_v hM
      refine va_sld hx hb hX hbl (Nat.not_le.mpr hbl) hS (inb_in hg635) d_law_635 ?_
      obtain ⟨x636, y636, hq636, hM⟩ := bI_some hM
      refine va_calli (va_runV (As := [.int (xs (i + 1).toNatClampNeg), .int (xs (i + 2).toNatClampNeg)]) (rest := []) ⟨hx, hb, hml, hown, hts⟩ (c_O_compare l dC dI ad cs _ N σ (xs (i + 1).toNatClampNeg) (xs (i + 2).toNatClampNeg) hq636) (cwV 2 hts (goodVW k_309 k_310 k_311 k_1 k_312) rfl rfl rfl ⟨rfl, by decide, by decide, by decide +kernel⟩ ⟨Nat.le_of_ble_eq_true rfl, Nat.le_of_ble_eq_true rfl⟩) ⟨blindX, va_recv hK hP rfl g_O, payX hP hK (D_left hD) hN⟩ rfl rfl hl.1 rfl (lv_room (Nat.le_of_ble_eq_true rfl)) d_law_636 ⟨hcB, hsB⟩) hS (fun q h0 h => absurd h0 (Nat.not_lt.mpr h)) (fun q h => hA q (Nat.le_trans hS.1 h)) (fun r636 u t H locs ht hvm hpost hB hz1 hk1 hS => ?_)
      obtain ⟨e1, e2⟩ := hpost
      subst e1
      subst e2
      have hP := keepP hP hk1
      have hPm := keepP hPm hk1
      have hPo := keepP hPo hk1
      refine lv_pop hx hb d_law_639 rfl ?_
      refine lv_aload_n hx hb d_law_640 rfl (lv_at hl 2 rfl) ?_
      refine lv_aload_n hx hb d_law_641 rfl (lv_at hl 0 rfl) ?_
      refine lv_iload hx hb d_law_642 (lv_at hl 4 rfl) ?_
      refine lv_iconst (v := 1) hx hb d_law_644 (by decide) ?_
      refine lv_iadd hx hb d_law_645 ?_
      have hg646 := gd_c hM
      have hM := gd_v hM
      refine va_sld hx hb hX hbl (Nat.not_le.mpr hbl) hS (inb_in hg646) d_law_646 ?_
      refine lv_aload_n hx hb d_law_647 rfl (lv_at hl 0 rfl) ?_
      refine lv_iload hx hb d_law_648 (lv_at hl 4 rfl) ?_
      refine lv_iconst (v := 2) hx hb d_law_650 (by decide) ?_
      refine lv_iadd hx hb d_law_651 ?_
      have hg652 := gd_c hM
      have hM := gd_v hM
      refine va_sld hx hb hX hbl (Nat.not_le.mpr hbl) hS (inb_in hg652) d_law_652 ?_
      have hF1 := free_all (D_left (D_right hD)) hS hA
      obtain ⟨x653, y653, hq653, hM⟩ := bI_some hM
      refine va_calli (va_runV (As := [.int (xs (i + 1).toNatClampNeg), .int (xs (i + 2).toNatClampNeg)]) (rest := []) ⟨hx, hb, hml, hown, hts⟩ (c_M_compare l dC dI bd cs _ N μ (xs (i + 1).toNatClampNeg) (xs (i + 2).toNatClampNeg) hq653) (cwV 2 hts (goodVW k_727 k_728 k_729 k_8 k_730) rfl rfl rfl ⟨rfl, by decide, by decide, by decide +kernel⟩ ⟨Nat.le_of_ble_eq_true rfl, Nat.le_of_ble_eq_true rfl⟩) ⟨blindM, va_recv hK hPm rfl g_M, payM hPm hK (D_left (D_right hD)) hN⟩ rfl rfl hl.1 rfl (lv_room (Nat.le_of_ble_eq_true rfl)) d_law_653 ⟨hcB, hsB⟩) hS (fun q _ h => hF1 q h) hF1 (fun r653 σ653 t H locs ht hvm hpost hB hz1 hk1 hS => ?_)
      obtain ⟨e1, e2⟩ := hpost
      subst e1
      subst e2
      obtain ⟨hP1, hK1, hD1⟩ := hB
      rw [ht] at hP1
      have hP := fr (ap_mx hD) hk1 hP
      have hPo := fr (ap_mo hD) hk1 hPo
      have hPm := hP1
      have hD := D_3 hD (σ' := σ) (μ' := σ653) (f' := f)
      refine lv_pop hx hb d_law_656 rfl ?_
      refine lv_goto (tgt := 697) hx hb d_law_657 (by decide) ?_
      exact KF _ _ _ _ ⟨σ, σ653, f, i, rfl, hM, lv_sub hl [0, 1, 2, 3, 4] rfl, hP, hPm, hPo, hD, hS⟩
    rw [if_neg hw_19] at hM
    by_cases hw_20 : (xs i.toNatClampNeg &&& 31) = 20
    · rw [if_pos hw_20, m_case_20] at hM
      refine lv_tableIn (tgt := 660) (off := 611) hx hb d_law_49 (by rw [hw_20]; decide) (by rw [hw_20]; decide) (by rw [hw_20]; decide) (by decide) ?_
      refine W.widen (k := 600000 - n33) (n := 7290000 - 6 * n33) (by omega) (by omega) ?_
      refine lv_aload_n hx hb d_law_660 rfl (lv_at hl 1 rfl) ?_
      refine lv_aload_n hx hb d_law_661 rfl (lv_at hl 0 rfl) ?_
      refine lv_iload hx hb d_law_662 (lv_at hl 4 rfl) ?_
      refine lv_iconst (v := 1) hx hb d_law_664 (by decide) ?_
      refine lv_iadd hx hb d_law_665 ?_
      have hg666 := gd_c hM
      have hM := gd_v hM
      refine va_sld hx hb hX hbl (Nat.not_le.mpr hbl) hS (inb_in hg666) d_law_666 ?_
      refine lv_aload_n hx hb d_law_667 rfl (lv_at hl 0 rfl) ?_
      refine lv_iload hx hb d_law_668 (lv_at hl 4 rfl) ?_
      refine lv_iconst (v := 2) hx hb d_law_670 (by decide) ?_
      refine lv_iadd hx hb d_law_671 ?_
      have hg672 := gd_c hM
      have hM := gd_v hM
      refine va_sld hx hb hX hbl (Nat.not_le.mpr hbl) hS (inb_in hg672) d_law_672 ?_
      obtain ⟨x673, y673, hq673, hM⟩ := bI_some hM
      refine va_calli (va_runV (As := [.int (xs (i + 1).toNatClampNeg), .int (xs (i + 2).toNatClampNeg)]) (rest := []) ⟨hx, hb, hml, hown, hts⟩ (c_O_field l dC dI ad cs _ N σ (xs (i + 1).toNatClampNeg) (xs (i + 2).toNatClampNeg) hq673) (cwV 2 hts (goodVW k_333 k_334 k_335 k_1 k_336) rfl rfl rfl ⟨rfl, by decide, by decide, by decide +kernel⟩ ⟨Nat.le_of_ble_eq_true rfl, Nat.le_of_ble_eq_true rfl⟩) ⟨blindX, va_recv hK hP rfl g_O, payX hP hK (D_left hD) hN⟩ rfl rfl hl.1 rfl (lv_room (Nat.le_of_ble_eq_true rfl)) d_law_673 ⟨hcB, hsB⟩) hS (fun q h0 h => absurd h0 (Nat.not_lt.mpr h)) (fun q h => hA q (Nat.le_trans hS.1 h)) (fun r673 u t H locs ht hvm hpost hB hz1 hk1 hS => ?_)
      obtain ⟨e1, e2⟩ := hpost
      subst e1
      subst e2
      have hP := keepP hP hk1
      have hPm := keepP hPm hk1
      have hPo := keepP hPo hk1
      refine lv_pop hx hb d_law_676 rfl ?_
      refine lv_aload_n hx hb d_law_677 rfl (lv_at hl 2 rfl) ?_
      refine lv_aload_n hx hb d_law_678 rfl (lv_at hl 0 rfl) ?_
      refine lv_iload hx hb d_law_679 (lv_at hl 4 rfl) ?_
      refine lv_iconst (v := 1) hx hb d_law_681 (by decide) ?_
      refine lv_iadd hx hb d_law_682 ?_
      have hg683 := gd_c hM
      have hM := gd_v hM
      refine va_sld hx hb hX hbl (Nat.not_le.mpr hbl) hS (inb_in hg683) d_law_683 ?_
      refine lv_aload_n hx hb d_law_684 rfl (lv_at hl 0 rfl) ?_
      refine lv_iload hx hb d_law_685 (lv_at hl 4 rfl) ?_
      refine lv_iconst (v := 2) hx hb d_law_687 (by decide) ?_
      refine lv_iadd hx hb d_law_688 ?_
      have hg689 := gd_c hM
      have hM := gd_v hM
      refine va_sld hx hb hX hbl (Nat.not_le.mpr hbl) hS (inb_in hg689) d_law_689 ?_
      have hF1 := free_all (D_left (D_right hD)) hS hA
      obtain ⟨x690, y690, hq690, hM⟩ := bI_some hM
      refine va_calli (va_runV (As := [.int (xs (i + 1).toNatClampNeg), .int (xs (i + 2).toNatClampNeg)]) (rest := []) ⟨hx, hb, hml, hown, hts⟩ (c_M_field l dC dI bd cs _ N μ (xs (i + 1).toNatClampNeg) (xs (i + 2).toNatClampNeg) hq690) (cwV 2 hts (goodVW k_743 k_744 k_745 k_8 k_746) rfl rfl rfl ⟨rfl, by decide, by decide, by decide +kernel⟩ ⟨Nat.le_of_ble_eq_true rfl, Nat.le_of_ble_eq_true rfl⟩) ⟨blindM, va_recv hK hPm rfl g_M, payM hPm hK (D_left (D_right hD)) hN⟩ rfl rfl hl.1 rfl (lv_room (Nat.le_of_ble_eq_true rfl)) d_law_690 ⟨hcB, hsB⟩) hS (fun q _ h => hF1 q h) hF1 (fun r690 σ690 t H locs ht hvm hpost hB hz1 hk1 hS => ?_)
      obtain ⟨e1, e2⟩ := hpost
      subst e1
      subst e2
      obtain ⟨hP1, hK1, hD1⟩ := hB
      rw [ht] at hP1
      have hP := fr (ap_mx hD) hk1 hP
      have hPo := fr (ap_mo hD) hk1 hPo
      have hPm := hP1
      have hD := D_3 hD (σ' := σ) (μ' := σ690) (f' := f)
      refine lv_pop hx hb d_law_693 rfl ?_
      refine lv_goto (tgt := 697) hx hb d_law_694 (by decide) ?_
      exact KF _ _ _ _ ⟨σ, σ690, f, i, rfl, hM, lv_sub hl [0, 1, 2, 3, 4] rfl, hP, hPm, hPo, hD, hS⟩
    rw [if_neg hw_20] at hM
    rw [m_case_default] at hM
    refine lv_tableOut (tgt := 697) hx hb d_law_49 (sw_outL hw_0 hw_1 hw_2 hw_3 hw_4 hw_5 hw_6 hw_7 hw_8 hw_9 hw_10 hw_11 hw_12 hw_13 hw_14 hw_15 hw_16 hw_17 hw_18 hw_19 hw_20) (by decide) ?_
    refine W.widen (k := 600000 - n33) (n := 7290000 - 6 * n33) (by omega) (by omega) ?_
    exact KF _ _ _ _ ⟨σ, μ, f, i, rfl, hM, lv_sub hl [0, 1, 2, 3, 4] rfl, hP, hPm, hPo, hD, hS⟩
