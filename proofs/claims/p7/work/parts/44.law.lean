def m_case_0 (N : Nat) (xs : Nat → Int32) (L : Nat) (k33 : SX → SX → (Nat → Int64) → Int32 → Option Unit) (σ μ : SX) (f : Nat → Int64) (i : Int32) : Option Unit :=
  (if inb (i + 1) L = true then (if inb (i + 2) L = true then (bH (m_L_card N σ f (xs (i + 1).toNatClampNeg) (xs (i + 2).toNatClampNeg)) fun r162 y162 z162 => (if inb (i + 1) L = true then (if inb (i + 2) L = true then (bI (m_M_card N μ (xs (i + 1).toNatClampNeg) (xs (i + 2).toNatClampNeg)) fun r180 σ180 => k33 y162 σ180 z162 i) else none) else none)) else none) else none)

def m_case_1 (N : Nat) (xs : Nat → Int32) (L : Nat) (k33 : SX → SX → (Nat → Int64) → Int32 → Option Unit) (σ μ : SX) (f : Nat → Int64) (i : Int32) : Option Unit :=
  (if inb (i + 1) L = true then (if inb (i + 2) L = true then (bH (m_L_part N σ f (xs (i + 1).toNatClampNeg) (xs (i + 2).toNatClampNeg)) fun r202 y202 z202 => (if inb (i + 1) L = true then (if inb (i + 2) L = true then (bI (m_M_part N μ (xs (i + 1).toNatClampNeg) (xs (i + 2).toNatClampNeg)) fun r220 σ220 => k33 y202 σ220 z202 i) else none) else none)) else none) else none)

def m_case_2 (N : Nat) (xs : Nat → Int32) (L : Nat) (k33 : SX → SX → (Nat → Int64) → Int32 → Option Unit) (σ μ : SX) (f : Nat → Int64) (i : Int32) : Option Unit :=
  (bH (m_L_start N σ f) fun r229 y229 z229 => (bV (m_M_start N μ) fun σ235 => k33 y229 σ235 z229 i))

def m_case_3 (N : Nat) (xs : Nat → Int32) (L : Nat) (k33 : SX → SX → (Nat → Int64) → Int32 → Option Unit) (σ μ : SX) (f : Nat → Int64) (i : Int32) : Option Unit :=
  (bI (m_O_clear N σ) fun r242 σ242 => (bI (m_M_clear N μ) fun r247 σ247 => k33 σ242 σ247 f i))

def m_case_4 (N : Nat) (xs : Nat → Int32) (L : Nat) (k33 : SX → SX → (Nat → Int64) → Int32 → Option Unit) (σ μ : SX) (f : Nat → Int64) (i : Int32) : Option Unit :=
  (if inb (i + 1) L = true then (bH (m_L_step N σ f (xs (i + 1).toNatClampNeg)) fun r262 y262 z262 => (if inb (i + 1) L = true then (bI (m_M_step N μ (xs (i + 1).toNatClampNeg)) fun r274 σ274 => k33 y262 σ274 z262 i) else none)) else none)

def m_case_5 (N : Nat) (xs : Nat → Int32) (L : Nat) (k33 : SX → SX → (Nat → Int64) → Int32 → Option Unit) (σ μ : SX) (f : Nat → Int64) (i : Int32) : Option Unit :=
  (if inb (i + 1) L = true then (if inb (i + 2) L = true then (bH (m_L_fault N σ f (xs (i + 1).toNatClampNeg) (xs (i + 2).toNatClampNeg)) fun r296 y296 z296 => (if inb (i + 1) L = true then (if inb (i + 2) L = true then (bI (m_M_fault N μ (xs (i + 1).toNatClampNeg) (xs (i + 2).toNatClampNeg)) fun r314 σ314 => (bI (m_M_thrown N σ314) fun r320 _ => (if r320 = r296 then (if r296 = 0 then (if (lg_cmp (z296 (0 : Int32).toNatClampNeg) r314.toInt64) = 0 then k33 y296 σ314 z296 i else none) else k33 y296 σ314 z296 i) else none))) else none) else none)) else none) else none)

def m_case_6 (N : Nat) (xs : Nat → Int32) (L : Nat) (k33 : SX → SX → (Nat → Int64) → Int32 → Option Unit) (σ μ : SX) (f : Nat → Int64) (i : Int32) : Option Unit :=
  (if inb (i + 1) L = true then (bI (m_O_cutAfter N σ (xs (i + 1).toNatClampNeg)) fun r357 σ357 => (if inb (i + 1) L = true then (bI (m_M_cutAfter N μ (xs (i + 1).toNatClampNeg)) fun r368 σ368 => k33 σ357 σ368 f i) else none)) else none)

def m_case_7 (N : Nat) (xs : Nat → Int32) (L : Nat) (k33 : SX → SX → (Nat → Int64) → Int32 → Option Unit) (σ μ : SX) (f : Nat → Int64) (i : Int32) : Option Unit :=
  (bI (m_O_resume N σ) fun r376 σ376 => (bI (m_M_resume N μ) fun r381 σ381 => k33 σ376 σ381 f i))

def m_case_8 (N : Nat) (xs : Nat → Int32) (L : Nat) (k33 : SX → SX → (Nat → Int64) → Int32 → Option Unit) (σ μ : SX) (f : Nat → Int64) (i : Int32) : Option Unit :=
  (bI (m_O_phase N σ) fun r389 _ => (bI (m_M_phase N μ) fun r394 σ394 => k33 σ σ394 f i))

def m_case_9 (N : Nat) (xs : Nat → Int32) (L : Nat) (k33 : SX → SX → (Nat → Int64) → Int32 → Option Unit) (σ μ : SX) (f : Nat → Int64) (i : Int32) : Option Unit :=
  (bI (m_O_level N σ) fun r402 _ => (bI (m_M_level N μ) fun r407 σ407 => k33 σ σ407 f i))

def m_case_10 (N : Nat) (xs : Nat → Int32) (L : Nat) (k33 : SX → SX → (Nat → Int64) → Int32 → Option Unit) (σ μ : SX) (f : Nat → Int64) (i : Int32) : Option Unit :=
  (if inb (i + 1) L = true then (bI (m_O_runs N σ (xs (i + 1).toNatClampNeg)) fun r421 _ => (if inb (i + 1) L = true then (bI (m_M_runs N μ (xs (i + 1).toNatClampNeg)) fun r432 σ432 => k33 σ σ432 f i) else none)) else none)

def m_case_11 (N : Nat) (xs : Nat → Int32) (L : Nat) (k33 : SX → SX → (Nat → Int64) → Int32 → Option Unit) (σ μ : SX) (f : Nat → Int64) (i : Int32) : Option Unit :=
  (if inb (i + 1) L = true then (bI (m_O_dummies N σ (xs (i + 1).toNatClampNeg)) fun r446 _ => (if inb (i + 1) L = true then (bI (m_M_dummies N μ (xs (i + 1).toNatClampNeg)) fun r457 σ457 => k33 σ σ457 f i) else none)) else none)

def m_case_12 (N : Nat) (xs : Nat → Int32) (L : Nat) (k33 : SX → SX → (Nat → Int64) → Int32 → Option Unit) (σ μ : SX) (f : Nat → Int64) (i : Int32) : Option Unit :=
  (if inb (i + 1) L = true then (bI (m_O_role N σ (xs (i + 1).toNatClampNeg)) fun r471 _ => (if inb (i + 1) L = true then (bI (m_M_role N μ (xs (i + 1).toNatClampNeg)) fun r482 σ482 => k33 σ σ482 f i) else none)) else none)

def m_case_13 (N : Nat) (xs : Nat → Int32) (L : Nat) (k33 : SX → SX → (Nat → Int64) → Int32 → Option Unit) (σ μ : SX) (f : Nat → Int64) (i : Int32) : Option Unit :=
  (if inb (i + 1) L = true then (if inb (i + 2) L = true then (bI (m_O_length N σ (xs (i + 1).toNatClampNeg) (xs (i + 2).toNatClampNeg)) fun r502 _ => (if inb (i + 1) L = true then (if inb (i + 2) L = true then (bI (m_M_length N μ (xs (i + 1).toNatClampNeg) (xs (i + 2).toNatClampNeg)) fun r519 σ519 => k33 σ σ519 f i) else none) else none)) else none) else none)

def m_case_14 (N : Nat) (xs : Nat → Int32) (L : Nat) (k33 : SX → SX → (Nat → Int64) → Int32 → Option Unit) (σ μ : SX) (f : Nat → Int64) (i : Int32) : Option Unit :=
  (if inb (i + 1) L = true then (if inb (i + 2) L = true then (if inb (i + 3) L = true then (bI (m_O_at N σ (xs (i + 1).toNatClampNeg) (xs (i + 2).toNatClampNeg) (xs (i + 3).toNatClampNeg)) fun r545 _ => (if inb (i + 1) L = true then (if inb (i + 2) L = true then (if inb (i + 3) L = true then (bI (m_M_at N μ (xs (i + 1).toNatClampNeg) (xs (i + 2).toNatClampNeg) (xs (i + 3).toNatClampNeg)) fun r568 σ568 => k33 σ σ568 f i) else none) else none) else none)) else none) else none) else none)

def m_case_15 (N : Nat) (xs : Nat → Int32) (L : Nat) (k33 : SX → SX → (Nat → Int64) → Int32 → Option Unit) (σ μ : SX) (f : Nat → Int64) (i : Int32) : Option Unit :=
  (if inb (i + 1) L = true then (bI (m_O_memory N σ (xs (i + 1).toNatClampNeg)) fun r582 _ => (if inb (i + 1) L = true then (bI (m_M_memory N μ (xs (i + 1).toNatClampNeg)) fun r593 σ593 => k33 σ σ593 f i) else none)) else none)

def m_case_16 (N : Nat) (xs : Nat → Int32) (L : Nat) (k33 : SX → SX → (Nat → Int64) → Int32 → Option Unit) (σ μ : SX) (f : Nat → Int64) (i : Int32) : Option Unit :=
  (bI (m_O_written N σ) fun r601 _ => (bI (m_M_written N μ) fun r606 σ606 => k33 σ σ606 f i))

def m_case_17 (N : Nat) (xs : Nat → Int32) (L : Nat) (k33 : SX → SX → (Nat → Int64) → Int32 → Option Unit) (σ μ : SX) (f : Nat → Int64) (i : Int32) : Option Unit :=
  (bI (m_O_broken N σ) fun r614 _ => (bI (m_M_broken N μ) fun r619 σ619 => k33 σ σ619 f i))

def m_case_18 (N : Nat) (xs : Nat → Int32) (L : Nat) (k33 : SX → SX → (Nat → Int64) → Int32 → Option Unit) (σ μ : SX) (f : Nat → Int64) (i : Int32) : Option Unit :=
  (if inb (i + 1) L = true then (bI (m_O_sorted N σ (xs (i + 1).toNatClampNeg)) fun r633 _ => (if inb (i + 1) L = true then (bI (m_M_sorted N μ (xs (i + 1).toNatClampNeg)) fun r644 σ644 => k33 σ σ644 f i) else none)) else none)

def m_case_19 (N : Nat) (xs : Nat → Int32) (L : Nat) (k33 : SX → SX → (Nat → Int64) → Int32 → Option Unit) (σ μ : SX) (f : Nat → Int64) (i : Int32) : Option Unit :=
  (if inb (i + 1) L = true then (if inb (i + 2) L = true then (bI (m_O_compare N σ (xs (i + 1).toNatClampNeg) (xs (i + 2).toNatClampNeg)) fun r664 _ => (if inb (i + 1) L = true then (if inb (i + 2) L = true then (bI (m_M_compare N μ (xs (i + 1).toNatClampNeg) (xs (i + 2).toNatClampNeg)) fun r681 σ681 => k33 σ σ681 f i) else none) else none)) else none) else none)

def m_case_20 (N : Nat) (xs : Nat → Int32) (L : Nat) (k33 : SX → SX → (Nat → Int64) → Int32 → Option Unit) (σ μ : SX) (f : Nat → Int64) (i : Int32) : Option Unit :=
  (if inb (i + 1) L = true then (if inb (i + 2) L = true then (bI (m_O_field N σ (xs (i + 1).toNatClampNeg) (xs (i + 2).toNatClampNeg)) fun r701 _ => (if inb (i + 1) L = true then (if inb (i + 2) L = true then (bI (m_M_field N μ (xs (i + 1).toNatClampNeg) (xs (i + 2).toNatClampNeg)) fun r718 σ718 => k33 σ σ718 f i) else none) else none)) else none) else none)

def m_case_default (N : Nat) (xs : Nat → Int32) (L : Nat) (k33 : SX → SX → (Nat → Int64) → Int32 → Option Unit) (σ μ : SX) (f : Nat → Int64) (i : Int32) : Option Unit :=
  k33 σ μ f i

def m_turn (N : Nat) (xs : Nat → Int32) (L : Nat) (k33 : SX → SX → (Nat → Int64) → Int32 → Option Unit) (σ μ : SX) (f : Nat → Int64) (i : Int32) : Option Unit :=
  (if inb i L = true then (if (xs i.toNatClampNeg &&& 31) = 0 then m_case_0 N xs L k33 σ μ f i else (if (xs i.toNatClampNeg &&& 31) = 1 then m_case_1 N xs L k33 σ μ f i else (if (xs i.toNatClampNeg &&& 31) = 2 then m_case_2 N xs L k33 σ μ f i else (if (xs i.toNatClampNeg &&& 31) = 3 then m_case_3 N xs L k33 σ μ f i else (if (xs i.toNatClampNeg &&& 31) = 4 then m_case_4 N xs L k33 σ μ f i else (if (xs i.toNatClampNeg &&& 31) = 5 then m_case_5 N xs L k33 σ μ f i else (if (xs i.toNatClampNeg &&& 31) = 6 then m_case_6 N xs L k33 σ μ f i else (if (xs i.toNatClampNeg &&& 31) = 7 then m_case_7 N xs L k33 σ μ f i else (if (xs i.toNatClampNeg &&& 31) = 8 then m_case_8 N xs L k33 σ μ f i else (if (xs i.toNatClampNeg &&& 31) = 9 then m_case_9 N xs L k33 σ μ f i else (if (xs i.toNatClampNeg &&& 31) = 10 then m_case_10 N xs L k33 σ μ f i else (if (xs i.toNatClampNeg &&& 31) = 11 then m_case_11 N xs L k33 σ μ f i else (if (xs i.toNatClampNeg &&& 31) = 12 then m_case_12 N xs L k33 σ μ f i else (if (xs i.toNatClampNeg &&& 31) = 13 then m_case_13 N xs L k33 σ μ f i else (if (xs i.toNatClampNeg &&& 31) = 14 then m_case_14 N xs L k33 σ μ f i else (if (xs i.toNatClampNeg &&& 31) = 15 then m_case_15 N xs L k33 σ μ f i else (if (xs i.toNatClampNeg &&& 31) = 16 then m_case_16 N xs L k33 σ μ f i else (if (xs i.toNatClampNeg &&& 31) = 17 then m_case_17 N xs L k33 σ μ f i else (if (xs i.toNatClampNeg &&& 31) = 18 then m_case_18 N xs L k33 σ μ f i else (if (xs i.toNatClampNeg &&& 31) = 19 then m_case_19 N xs L k33 σ μ f i else (if (xs i.toNatClampNeg &&& 31) = 20 then m_case_20 N xs L k33 σ μ f i else m_case_default N xs L k33 σ μ f i))))))))))))))))))))) else none)

def m_law (N : Nat) (xs : Nat → Int32) (L : Nat) : Nat → SX → SX → (Nat → Int64) → Int32 → Option Unit
  | 0, _, _, _, _ => none
  | n + 1, σ, μ, f, i => if (Int32.ofNat L - 4) < i then some () else m_turn N xs L (fun σ μ f i => m_law N xs L n σ μ f (i + 4)) σ μ f i
theorem sw_outL {x : Int32} (h0 : ¬ x = 0) (h1 : ¬ x = 1) (h2 : ¬ x = 2) (h3 : ¬ x = 3) (h4 : ¬ x = 4) (h5 : ¬ x = 5) (h6 : ¬ x = 6) (h7 : ¬ x = 7) (h8 : ¬ x = 8) (h9 : ¬ x = 9) (h10 : ¬ x = 10) (h11 : ¬ x = 11) (h12 : ¬ x = 12) (h13 : ¬ x = 13) (h14 : ¬ x = 14) (h15 : ¬ x = 15) (h16 : ¬ x = 16) (h17 : ¬ x = 17) (h18 : ¬ x = 18) (h19 : ¬ x = 19) (h20 : ¬ x = 20) : x.toInt < 0 ∨ 20 < x.toInt := by
  have a0 : ¬ x.toInt = 0 := fun q => h0 (Int32.toInt_inj.mp (by rw [q]; rfl))
  have a1 : ¬ x.toInt = 1 := fun q => h1 (Int32.toInt_inj.mp (by rw [q]; rfl))
  have a2 : ¬ x.toInt = 2 := fun q => h2 (Int32.toInt_inj.mp (by rw [q]; rfl))
  have a3 : ¬ x.toInt = 3 := fun q => h3 (Int32.toInt_inj.mp (by rw [q]; rfl))
  have a4 : ¬ x.toInt = 4 := fun q => h4 (Int32.toInt_inj.mp (by rw [q]; rfl))
  have a5 : ¬ x.toInt = 5 := fun q => h5 (Int32.toInt_inj.mp (by rw [q]; rfl))
  have a6 : ¬ x.toInt = 6 := fun q => h6 (Int32.toInt_inj.mp (by rw [q]; rfl))
  have a7 : ¬ x.toInt = 7 := fun q => h7 (Int32.toInt_inj.mp (by rw [q]; rfl))
  have a8 : ¬ x.toInt = 8 := fun q => h8 (Int32.toInt_inj.mp (by rw [q]; rfl))
  have a9 : ¬ x.toInt = 9 := fun q => h9 (Int32.toInt_inj.mp (by rw [q]; rfl))
  have a10 : ¬ x.toInt = 10 := fun q => h10 (Int32.toInt_inj.mp (by rw [q]; rfl))
  have a11 : ¬ x.toInt = 11 := fun q => h11 (Int32.toInt_inj.mp (by rw [q]; rfl))
  have a12 : ¬ x.toInt = 12 := fun q => h12 (Int32.toInt_inj.mp (by rw [q]; rfl))
  have a13 : ¬ x.toInt = 13 := fun q => h13 (Int32.toInt_inj.mp (by rw [q]; rfl))
  have a14 : ¬ x.toInt = 14 := fun q => h14 (Int32.toInt_inj.mp (by rw [q]; rfl))
  have a15 : ¬ x.toInt = 15 := fun q => h15 (Int32.toInt_inj.mp (by rw [q]; rfl))
  have a16 : ¬ x.toInt = 16 := fun q => h16 (Int32.toInt_inj.mp (by rw [q]; rfl))
  have a17 : ¬ x.toInt = 17 := fun q => h17 (Int32.toInt_inj.mp (by rw [q]; rfl))
  have a18 : ¬ x.toInt = 18 := fun q => h18 (Int32.toInt_inj.mp (by rw [q]; rfl))
  have a19 : ¬ x.toInt = 19 := fun q => h19 (Int32.toInt_inj.mp (by rw [q]; rfl))
  have a20 : ¬ x.toInt = 20 := fun q => h20 (Int32.toInt_inj.mp (by rw [q]; rfl))
  omega
set_option maxHeartbeats 8000000 in
set_option maxRecDepth 100000 in
theorem law_loop {p : Program} {e : Env} {s : State} {m : MethodId} {below : List Frame} {meth : Method} {c : Code} (l : Launch) (htr : l.stackTraces = false) {b L : Nat} {xs : Nat → Int32} (dC : Nat → ClassId) (dI : Nat → Nat → Nat) (ad bd : Nat → Nat → Nat) (cs : Nat → ClassId) (cL : ClassId) (qo N : Nat)
    (hx : p.tables.exec = Jvm.exec) (hb : c.code = code) (hr : meth.sig.returnType = ret) (hml : c.maxLocals = 7) (hown : s.vm.findClass R_L = some m.cls) (hts : ∀ w ∈ (Cond.initialized R_L :: tb), w.before #[Value.ref b] s = true) (hX : va_X b L xs s s.heap) (hbl : b < s.heap.size) (hlocks : meth.locks = false)
    (hK : va_K (dC, dI) classes (tyW cs) s) (hKl : va_K (dC, dI) classes [(cL, .long)] s) (hN : nwW s) (hZ : stW s) : ∀ (n33 : Nat) (H : Heap) (locs : List Loc) (ls : Array Slot) (st : List Value), (fun n33 H locs ls st => ∃ (σ μ : SX) (f : Nat → Int64) (i : Int32), st = [] ∧ m_law N xs L n33 σ μ f i = some () ∧ n33 ≤ 1000 ∧ lv_has ls 7 [(0, .ref b), (1, .ref (ad 0 0)), (2, .ref (bd 0 0)), (3, .ref qo), (4, .int i)] ∧ va_P (dC, dI) classes (wX ad cs σ) H ∧ va_P (dC, dI) classes (wM bd cs μ) H ∧ va_P (dC, dI) classes [oC qo cL f] H ∧ va_D (fun q => s.heap.size ≤ q) (wL ad cs σ bd μ qo cL f) ∧ va_S (fun q => s.heap.size ≤ q) s.heap H locs) n33 H locs ls st → W p l e room_1 s m #[Value.ref b] below meth c H locs (600000 - n33) (7290000 - 6 * n33) (lw_Z below #[Value.ref b] s) (F0 m 33 ls st) := by
  have htb : ∀ w ∈ tb, w.before #[Value.ref b] s = true := fun w h => hts w (List.mem_cons_of_mem _ h)
  have hA : ∀ q : Nat, s.heap.size ≤ q → s.heap.size ≤ q := fun q h => h
  intro n33
  induction n33 with
  | zero =>
    rintro H locs ls st ⟨σ, μ, f, i, -, hM, -⟩
    rw [m_law] at hM; cases hM
  | succ n33 K33 =>
    rintro H locs ls st ⟨σ, μ, f, i, rfl, hM, hn, hl, hP, hPm, hPo, hD, hS⟩
    have hcA : (600000 - (n33 + 1)) + 1 ≤ room_1.cells := by show _ ≤ 601024; omega
    have hsA : (7290000 - 6 * (n33 + 1)) + 6 ≤ room_1.slots := by show _ ≤ 7293000; omega
    have hcB : (600000 - n33) + 0 ≤ room_1.cells := by show _ ≤ 601024; omega
    have hsB : (7290000 - 6 * n33) + 0 ≤ room_1.slots := by show _ ≤ 7293000; omega
    have KF : ∀ (H : Heap) (locs : List Loc) (ls : Array Slot) (st : List Value), (fun H locs ls st => ∃ (σ μ : SX) (f : Nat → Int64) (i : Int32), st = [] ∧ m_law N xs L n33 σ μ f (i + 4) = some () ∧ lv_has ls 7 [(0, .ref b), (1, .ref (ad 0 0)), (2, .ref (bd 0 0)), (3, .ref qo), (4, .int i)] ∧ va_P (dC, dI) classes (wX ad cs σ) H ∧ va_P (dC, dI) classes (wM bd cs μ) H ∧ va_P (dC, dI) classes [oC qo cL f] H ∧ va_D (fun q => s.heap.size ≤ q) (wL ad cs σ bd μ qo cL f) ∧ va_S (fun q => s.heap.size ≤ q) s.heap H locs) H locs ls st → W p l e room_1 s m #[Value.ref b] below meth c H locs (600000 - n33) (7290000 - 6 * n33) (lw_Z below #[Value.ref b] s) (F0 m 725 ls st) := by
      rintro H locs ls st ⟨σ, μ, f, i, rfl, hM, hl, hP, hPm, hPo, hD, hS⟩
      refine lv_iinc (k := 4) (v := (i + 4)) hx hb d_law_725 hl rfl rfl (by decide) (lv' := [(4, .int (i + 4)), (0, .ref b), (1, .ref (ad 0 0)), (2, .ref (bd 0 0)), (3, .ref qo)]) rfl (fun ls hl => ?_)
      refine lv_goto (tgt := 33) hx hb d_law_728 (by decide) ?_
      exact K33 _ _ _ _ ⟨σ, μ, f, (i + 4), rfl, hM, by omega, lv_sub hl [1, 2, 3, 4, 0] rfl, hP, hPm, hPo, hD, hS⟩
    rw [m_law] at hM
    refine lv_iload hx hb d_law_33 (lv_at hl 4 rfl) ?_
    refine lv_aload_n hx hb d_law_35 rfl (lv_at hl 0 rfl) ?_
    refine va_slen hx hb hX hbl (Nat.not_le.mpr hbl) hS d_law_36 ?_
    refine lv_iconst (v := 4) hx hb d_law_37 (by decide) ?_
    refine lv_isub hx hb d_law_38 ?_
    refine lv_icmp_gt (tgt := 731) hx hb d_law_39 (by decide) (fun h39 => ?_) (fun h39 => ?_)
    · rw [if_pos h39] at hM
      refine lv_iconst (v := 1) hx hb d_law_731 (by decide) ?_
      refine va_forget hS.2.2 ?_
      refine W.widen (k := 601024) (n := 7293000) (by omega) (by omega) ?_
      exact lw_ret hx hb hr hlocks d_law_732
    rw [if_neg h39, m_turn] at hM
    refine lv_aload_n hx hb d_law_42 rfl (lv_at hl 0 rfl) ?_
    refine lv_iload hx hb d_law_43 (lv_at hl 4 rfl) ?_
    have hg45 := gd_c hM
    have hM := gd_v hM
    refine va_sld hx hb hX hbl (Nat.not_le.mpr hbl) hS (inb_in hg45) d_law_45 ?_
    refine lv_bipush (v := 31) hx hb d_law_46 (by decide) ?_
    refine lv_iand hx hb d_law_48 ?_
    by_cases hw_0 : (xs i.toNatClampNeg &&& 31) = 0
    · rw [if_pos hw_0, m_case_0] at hM
      refine lv_tableIn (tgt := 148) (off := 99) hx hb d_law_49 (by rw [hw_0]; decide) (by rw [hw_0]; decide) (by rw [hw_0]; decide) (by decide) ?_
      refine lv_aload_n hx hb d_law_148 rfl (lv_at hl 1 rfl) ?_
      refine lv_aload_n hx hb d_law_149 rfl (lv_at hl 0 rfl) ?_
      refine lv_iload hx hb d_law_150 (lv_at hl 4 rfl) ?_
      refine lv_iconst (v := 1) hx hb d_law_152 (by decide) ?_
      refine lv_iadd hx hb d_law_153 ?_
      have hg154 := gd_c hM
      have hM := gd_v hM
      refine va_sld hx hb hX hbl (Nat.not_le.mpr hbl) hS (inb_in hg154) d_law_154 ?_
      refine lv_aload_n hx hb d_law_155 rfl (lv_at hl 0 rfl) ?_
      refine lv_iload hx hb d_law_156 (lv_at hl 4 rfl) ?_
      refine lv_iconst (v := 2) hx hb d_law_158 (by decide) ?_
      refine lv_iadd hx hb d_law_159 ?_
      have hg160 := gd_c hM
      have hM := gd_v hM
      refine va_sld hx hb hX hbl (Nat.not_le.mpr hbl) hS (inb_in hg160) d_law_160 ?_
      refine lv_aload_n hx hb d_law_161 rfl (lv_at hl 3 rfl) ?_
      obtain ⟨x162, hq162, hM⟩ := bH_some hM
      obtain ⟨x162, y162, z162⟩ := x162
      have hDo := D_xo hD
      have hF1 := free_all hDo hS hA
      refine va_calli (va_runSW (n := 4) (As := [.ref (ad 0 0), .int (xs (i + 1).toNatClampNeg), .int (xs (i + 2).toNatClampNeg), .ref qo]) (rest := []) ⟨hx, hb, hml, hown, hts⟩ (c_L_card l htr dC dI ad cs cL qo _ N σ f (xs (i + 1).toNatClampNeg) (xs (i + 2).toNatClampNeg) hq162) (goodX k_343) rfl rfl ⟨Nat.le_of_ble_eq_true rfl, Nat.le_of_ble_eq_true rfl⟩ (htb _ k_341) (htb _ k_342) (htb _ k_0) ⟨by decide, by decide, by decide +kernel⟩ ⟨blindL, payL (hP.app hPo) hK hKl hDo hN hZ (fun a ha => hS.2.1 a ha (Nat.not_le.mpr ha))⟩ rfl rfl hl.1 rfl (lv_room (Nat.le_of_ble_eq_true rfl)) d_law_162 ⟨hcA, hsA⟩) hS (fun q _ h => hF1 q h) hF1 (fun r162 u162 t H locs ht hvm hpost hB hz1 hk1 hS => ?_)
      obtain ⟨e1, e2⟩ := hpost
      subst e1
      subst e2
      rw [ht] at hB
      dsimp only at hB hM
      have hPm := fr (ap_om hD) hk1 hPm
      have hP := P_left hB
      have hPo := P_right hB
      have hD := D_3 hD (σ' := y162) (μ' := μ) (f' := z162)
      refine W.widen (k := 600000 - n33) (n := 7290000 - 6 * n33) (by omega) (by omega) ?_
      refine lv_istore hx hb d_law_165 hl (by decide) (lv' := [(5, .int r162), (0, .ref b), (1, .ref (ad 0 0)), (2, .ref (bd 0 0)), (3, .ref qo), (4, .int i)]) rfl (fun ls hl => ?_)
      refine lv_aload_n hx hb d_law_167 rfl (lv_at hl 3 rfl) ?_
      refine lv_aload_n hx hb d_law_168 rfl (lv_at hl 1 rfl) ?_
      refine lv_iload hx hb d_law_169 (lv_at hl 5 rfl) ?_
      refine lv_iconst (v := 1) hx hb d_law_171 (by decide) ?_
      refine lv_iadd hx hb d_law_172 ?_
      have hg173 := gd_c hM
      have hM := gd_v hM
      refine va_sld hx hb hX hbl (Nat.not_le.mpr hbl) hS (inb_in hg173) d_law_173 ?_
      refine lv_aload_n hx hb d_law_174 rfl (lv_at hl 1 rfl) ?_
      refine lv_iload hx hb d_law_175 (lv_at hl 5 rfl) ?_
      refine lv_iconst (v := 2) hx hb d_law_177 (by decide) ?_
      refine lv_iadd hx hb d_law_178 ?_
      have hg179 := gd_c hM
      have hM := gd_v hM
      refine va_sld hx hb hX hbl (Nat.not_le.mpr hbl) hS (inb_in hg179) d_law_179 ?_
      have hF1 := free_all (D_left (D_right hD)) hS hA
      obtain ⟨x180, y180, hq180, hM⟩ := bI_some hM
      refine va_calli (va_runV (As := [.int (xs (i + 1).toNatClampNeg), .int (xs (i + 2).toNatClampNeg)]) (rest := []) ⟨hx, hb, hml, hown, hts⟩ (c_M_card l dC dI bd cs _ N μ (xs (i + 1).toNatClampNeg) (xs (i + 2).toNatClampNeg) hq180) (cwV 2 hts (goodVW k_723 k_724 k_725 k_8 k_726) rfl rfl rfl ⟨rfl, by decide, by decide, by decide +kernel⟩ ⟨Nat.le_of_ble_eq_true rfl, Nat.le_of_ble_eq_true rfl⟩) ⟨blindM, va_recv hK hPm rfl g_M, payM hPm hK (D_left (D_right hD)) hN⟩ rfl rfl hl.1 rfl (lv_room (Nat.le_of_ble_eq_true rfl)) d_law_180 ⟨hcB, hsB⟩) hS (fun q _ h => hF1 q h) hF1 (fun r180 σ180 t H locs ht hvm hpost hB hz1 hk1 hS => ?_)
      obtain ⟨e1, e2⟩ := hpost
      subst e1
      subst e2
      obtain ⟨hP1, hK1, hD1⟩ := hB
      rw [ht] at hP1
      have hP := fr (ap_mx hD) hk1 hP
      have hPo := fr (ap_mo hD) hk1 hPo
      have hPm := hP1
      have hD := D_3 hD (σ' := y162) (μ' := σ180) (f' := z162)
      refine lv_istore hx hb d_law_183 hl (by decide) (lv' := [(6, .int r180), (5, .int r162), (0, .ref b), (1, .ref (ad 0 0)), (2, .ref (bd 0 0)), (3, .ref qo), (4, .int i)]) rfl (fun ls hl => ?_)
      refine lv_goto (tgt := 725) hx hb d_law_185 (by decide) ?_
      exact KF _ _ _ _ ⟨y162, σ180, z162, i, rfl, hM, lv_sub hl [2, 3, 4, 5, 6] rfl, hP, hPm, hPo, hD, hS⟩
    rw [if_neg hw_0] at hM
    by_cases hw_1 : (xs i.toNatClampNeg &&& 31) = 1
    · rw [if_pos hw_1, m_case_1] at hM
      refine lv_tableIn (tgt := 188) (off := 139) hx hb d_law_49 (by rw [hw_1]; decide) (by rw [hw_1]; decide) (by rw [hw_1]; decide) (by decide) ?_
      refine lv_aload_n hx hb d_law_188 rfl (lv_at hl 1 rfl) ?_
      refine lv_aload_n hx hb d_law_189 rfl (lv_at hl 0 rfl) ?_
      refine lv_iload hx hb d_law_190 (lv_at hl 4 rfl) ?_
      refine lv_iconst (v := 1) hx hb d_law_192 (by decide) ?_
      refine lv_iadd hx hb d_law_193 ?_
      have hg194 := gd_c hM
      have hM := gd_v hM
      refine va_sld hx hb hX hbl (Nat.not_le.mpr hbl) hS (inb_in hg194) d_law_194 ?_
      refine lv_aload_n hx hb d_law_195 rfl (lv_at hl 0 rfl) ?_
      refine lv_iload hx hb d_law_196 (lv_at hl 4 rfl) ?_
      refine lv_iconst (v := 2) hx hb d_law_198 (by decide) ?_
      refine lv_iadd hx hb d_law_199 ?_
      have hg200 := gd_c hM
      have hM := gd_v hM
      refine va_sld hx hb hX hbl (Nat.not_le.mpr hbl) hS (inb_in hg200) d_law_200 ?_
      refine lv_aload_n hx hb d_law_201 rfl (lv_at hl 3 rfl) ?_
      obtain ⟨x202, hq202, hM⟩ := bH_some hM
      obtain ⟨x202, y202, z202⟩ := x202
      have hDo := D_xo hD
      have hF1 := free_all hDo hS hA
      refine va_calli (va_runSW (n := 4) (As := [.ref (ad 0 0), .int (xs (i + 1).toNatClampNeg), .int (xs (i + 2).toNatClampNeg), .ref qo]) (rest := []) ⟨hx, hb, hml, hown, hts⟩ (c_L_part l htr dC dI ad cs cL qo _ N σ f (xs (i + 1).toNatClampNeg) (xs (i + 2).toNatClampNeg) hq202) (goodX k_422) rfl rfl ⟨Nat.le_of_ble_eq_true rfl, Nat.le_of_ble_eq_true rfl⟩ (htb _ k_420) (htb _ k_421) (htb _ k_0) ⟨by decide, by decide, by decide +kernel⟩ ⟨blindL, payL (hP.app hPo) hK hKl hDo hN hZ (fun a ha => hS.2.1 a ha (Nat.not_le.mpr ha))⟩ rfl rfl hl.1 rfl (lv_room (Nat.le_of_ble_eq_true rfl)) d_law_202 ⟨hcA, hsA⟩) hS (fun q _ h => hF1 q h) hF1 (fun r202 u202 t H locs ht hvm hpost hB hz1 hk1 hS => ?_)
      obtain ⟨e1, e2⟩ := hpost
      subst e1
      subst e2
      rw [ht] at hB
      dsimp only at hB hM
      have hPm := fr (ap_om hD) hk1 hPm
      have hP := P_left hB
      have hPo := P_right hB
      have hD := D_3 hD (σ' := y202) (μ' := μ) (f' := z202)
      refine W.widen (k := 600000 - n33) (n := 7290000 - 6 * n33) (by omega) (by omega) ?_
      refine lv_istore hx hb d_law_205 hl (by decide) (lv' := [(5, .int r202), (0, .ref b), (1, .ref (ad 0 0)), (2, .ref (bd 0 0)), (3, .ref qo), (4, .int i)]) rfl (fun ls hl => ?_)
      refine lv_aload_n hx hb d_law_207 rfl (lv_at hl 3 rfl) ?_
      refine lv_aload_n hx hb d_law_208 rfl (lv_at hl 1 rfl) ?_
      refine lv_iload hx hb d_law_209 (lv_at hl 5 rfl) ?_
      refine lv_iconst (v := 1) hx hb d_law_211 (by decide) ?_
      refine lv_iadd hx hb d_law_212 ?_
      have hg213 := gd_c hM
      have hM := gd_v hM
      refine va_sld hx hb hX hbl (Nat.not_le.mpr hbl) hS (inb_in hg213) d_law_213 ?_
      refine lv_aload_n hx hb d_law_214 rfl (lv_at hl 1 rfl) ?_
      refine lv_iload hx hb d_law_215 (lv_at hl 5 rfl) ?_
      refine lv_iconst (v := 2) hx hb d_law_217 (by decide) ?_
      refine lv_iadd hx hb d_law_218 ?_
      have hg219 := gd_c hM
      have hM := gd_v hM
      refine va_sld hx hb hX hbl (Nat.not_le.mpr hbl) hS (inb_in hg219) d_law_219 ?_
      have hF1 := free_all (D_left (D_right hD)) hS hA
      obtain ⟨x220, y220, hq220, hM⟩ := bI_some hM
      refine va_calli (va_runV (As := [.int (xs (i + 1).toNatClampNeg), .int (xs (i + 2).toNatClampNeg)]) (rest := []) ⟨hx, hb, hml, hown, hts⟩ (c_M_part l dC dI bd cs _ N μ (xs (i + 1).toNatClampNeg) (xs (i + 2).toNatClampNeg) hq220) (cwV 2 hts (goodVW k_727 k_728 k_729 k_8 k_730) rfl rfl rfl ⟨rfl, by decide, by decide, by decide +kernel⟩ ⟨Nat.le_of_ble_eq_true rfl, Nat.le_of_ble_eq_true rfl⟩) ⟨blindM, va_recv hK hPm rfl g_M, payM hPm hK (D_left (D_right hD)) hN⟩ rfl rfl hl.1 rfl (lv_room (Nat.le_of_ble_eq_true rfl)) d_law_220 ⟨hcB, hsB⟩) hS (fun q _ h => hF1 q h) hF1 (fun r220 σ220 t H locs ht hvm hpost hB hz1 hk1 hS => ?_)
      obtain ⟨e1, e2⟩ := hpost
      subst e1
      subst e2
      obtain ⟨hP1, hK1, hD1⟩ := hB
      rw [ht] at hP1
      have hP := fr (ap_mx hD) hk1 hP
      have hPo := fr (ap_mo hD) hk1 hPo
      have hPm := hP1
      have hD := D_3 hD (σ' := y202) (μ' := σ220) (f' := z202)
      refine lv_istore hx hb d_law_223 hl (by decide) (lv' := [(6, .int r220), (5, .int r202), (0, .ref b), (1, .ref (ad 0 0)), (2, .ref (bd 0 0)), (3, .ref qo), (4, .int i)]) rfl (fun ls hl => ?_)
      refine lv_goto (tgt := 725) hx hb d_law_225 (by decide) ?_
      exact KF _ _ _ _ ⟨y202, σ220, z202, i, rfl, hM, lv_sub hl [2, 3, 4, 5, 6] rfl, hP, hPm, hPo, hD, hS⟩
    rw [if_neg hw_1] at hM
    by_cases hw_2 : (xs i.toNatClampNeg &&& 31) = 2
    · rw [if_pos hw_2, m_case_2] at hM
      refine lv_tableIn (tgt := 228) (off := 179) hx hb d_law_49 (by rw [hw_2]; decide) (by rw [hw_2]; decide) (by rw [hw_2]; decide) (by decide) ?_
      refine lv_aload_n hx hb d_law_228 rfl (lv_at hl 1 rfl) ?_
      obtain ⟨x229, hq229, hM⟩ := bH_some hM
      obtain ⟨x229, y229, z229⟩ := x229
      have hDo := D_xo hD
      have hF1 := free_all hDo hS hA
      refine va_calli (va_runSW (n := 1) (As := [.ref (ad 0 0)]) (rest := []) ⟨hx, hb, hml, hown, hts⟩ (c_L_start l htr dC dI ad cs cL qo _ N σ f hq229) (goodX k_455) rfl rfl ⟨Nat.le_of_ble_eq_true rfl, Nat.le_of_ble_eq_true rfl⟩ (htb _ k_453) (htb _ k_454) (htb _ k_0) ⟨by decide, by decide, by decide +kernel⟩ ⟨blindL, payL (hP.app hPo) hK hKl hDo hN hZ (fun a ha => hS.2.1 a ha (Nat.not_le.mpr ha))⟩ rfl rfl hl.1 rfl (lv_room (Nat.le_of_ble_eq_true rfl)) d_law_229 ⟨hcA, hsA⟩) hS (fun q _ h => hF1 q h) hF1 (fun r229 u229 t H locs ht hvm hpost hB hz1 hk1 hS => ?_)
      obtain ⟨e1, e2⟩ := hpost
      subst e1
      subst e2
      rw [ht] at hB
      dsimp only at hB hM
      have hPm := fr (ap_om hD) hk1 hPm
      have hP := P_left hB
      have hPo := P_right hB
      have hD := D_3 hD (σ' := y229) (μ' := μ) (f' := z229)
      refine W.widen (k := 600000 - n33) (n := 7290000 - 6 * n33) (by omega) (by omega) ?_
      refine lv_istore hx hb d_law_232 hl (by decide) (lv' := [(5, .int r229), (0, .ref b), (1, .ref (ad 0 0)), (2, .ref (bd 0 0)), (3, .ref qo), (4, .int i)]) rfl (fun ls hl => ?_)
      refine lv_aload_n hx hb d_law_234 rfl (lv_at hl 3 rfl) ?_
      have hF1 := free_all (D_left (D_right hD)) hS hA
      obtain ⟨y235, hq235, hM⟩ := bV_some hM
      refine va_callv (va_runV (As := []) (rest := []) ⟨hx, hb, hml, hown, hts⟩ (c_M_start l dC dI bd cs _ N μ hq235) (cwV 0 hts (goodVW k_751 k_752 k_753 k_8 k_754) rfl rfl rfl ⟨rfl, by decide, by decide, by decide +kernel⟩ ⟨Nat.le_of_ble_eq_true rfl, Nat.le_of_ble_eq_true rfl⟩) ⟨blindM, va_recv hK hPm rfl g_M, payM hPm hK (D_left (D_right hD)) hN⟩ rfl rfl hl.1 rfl (lv_room (Nat.le_of_ble_eq_true rfl)) d_law_235 ⟨hcB, hsB⟩) hS (fun q _ h => hF1 q h) hF1 (fun σ235 t H locs ht hvm hpost hB hz1 hk1 hS => ?_)
      subst hpost
      obtain ⟨hP1, hK1, hD1⟩ := hB
      rw [ht] at hP1
      have hP := fr (ap_mx hD) hk1 hP
      have hPo := fr (ap_mo hD) hk1 hPo
      have hPm := hP1
      have hD := D_3 hD (σ' := y229) (μ' := σ235) (f' := z229)
      refine lv_goto (tgt := 725) hx hb d_law_238 (by decide) ?_
      exact KF _ _ _ _ ⟨y229, σ235, z229, i, rfl, hM, lv_sub hl [1, 2, 3, 4, 5] rfl, hP, hPm, hPo, hD, hS⟩
    rw [if_neg hw_2] at hM
    by_cases hw_3 : (xs i.toNatClampNeg &&& 31) = 3
    · rw [if_pos hw_3, m_case_3] at hM
      refine lv_tableIn (tgt := 241) (off := 192) hx hb d_law_49 (by rw [hw_3]; decide) (by rw [hw_3]; decide) (by rw [hw_3]; decide) (by decide) ?_
      refine W.widen (k := 600000 - n33) (n := 7290000 - 6 * n33) (by omega) (by omega) ?_
      refine lv_aload_n hx hb d_law_241 rfl (lv_at hl 1 rfl) ?_
      have hF1 := free_all (D_left hD) hS hA
      obtain ⟨x242, y242, hq242, hM⟩ := bI_some hM
      refine va_calli (va_runV (As := []) (rest := []) ⟨hx, hb, hml, hown, hts⟩ (c_O_clear l dC dI ad cs _ N σ hq242) (cwV 0 hts (goodVW k_185 k_186 k_187 k_1 k_188) rfl rfl rfl ⟨rfl, by decide, by decide, by decide +kernel⟩ ⟨Nat.le_of_ble_eq_true rfl, Nat.le_of_ble_eq_true rfl⟩) ⟨blindX, va_recv hK hP rfl g_O, payX hP hK (D_left hD) hN⟩ rfl rfl hl.1 rfl (lv_room (Nat.le_of_ble_eq_true rfl)) d_law_242 ⟨hcB, hsB⟩) hS (fun q _ h => hF1 q h) hF1 (fun r242 σ242 t H locs ht hvm hpost hB hz1 hk1 hS => ?_)
      obtain ⟨e1, e2⟩ := hpost
      subst e1
      subst e2
      obtain ⟨hP1, hK1, hD1⟩ := hB
      rw [ht] at hP1
      have hPm := fr (ap_xm hD) hk1 hPm
      have hPo := fr (ap_xo hD) hk1 hPo
      have hP := hP1
      have hD := D_3 hD (σ' := σ242) (μ' := μ) (f' := f)
      refine lv_pop hx hb d_law_245 rfl ?_
      refine lv_aload_n hx hb d_law_246 rfl (lv_at hl 2 rfl) ?_
      have hF1 := free_all (D_left (D_right hD)) hS hA
      obtain ⟨x247, y247, hq247, hM⟩ := bI_some hM
      refine va_calli (va_runV (As := []) (rest := []) ⟨hx, hb, hml, hown, hts⟩ (c_M_clear l dC dI bd cs _ N μ hq247) (cwV 0 hts (goodVW k_759 k_760 k_761 k_8 k_762) rfl rfl rfl ⟨rfl, by decide, by decide, by decide +kernel⟩ ⟨Nat.le_of_ble_eq_true rfl, Nat.le_of_ble_eq_true rfl⟩) ⟨blindM, va_recv hK hPm rfl g_M, payM hPm hK (D_left (D_right hD)) hN⟩ rfl rfl hl.1 rfl (lv_room (Nat.le_of_ble_eq_true rfl)) d_law_247 ⟨hcB, hsB⟩) hS (fun q _ h => hF1 q h) hF1 (fun r247 σ247 t H locs ht hvm hpost hB hz1 hk1 hS => ?_)
      obtain ⟨e1, e2⟩ := hpost
      subst e1
      subst e2
      obtain ⟨hP1, hK1, hD1⟩ := hB
      rw [ht] at hP1
      have hP := fr (ap_mx hD) hk1 hP
      have hPo := fr (ap_mo hD) hk1 hPo
      have hPm := hP1
      have hD := D_3 hD (σ' := σ242) (μ' := σ247) (f' := f)
      refine lv_pop hx hb d_law_250 rfl ?_
      refine lv_goto (tgt := 725) hx hb d_law_251 (by decide) ?_
      exact KF _ _ _ _ ⟨σ242, σ247, f, i, rfl, hM, lv_sub hl [0, 1, 2, 3, 4] rfl, hP, hPm, hPo, hD, hS⟩
    rw [if_neg hw_3] at hM
    by_cases hw_4 : (xs i.toNatClampNeg &&& 31) = 4
    · rw [if_pos hw_4, m_case_4] at hM
      refine lv_tableIn (tgt := 254) (off := 205) hx hb d_law_49 (by rw [hw_4]; decide) (by rw [hw_4]; decide) (by rw [hw_4]; decide) (by decide) ?_
      refine lv_aload_n hx hb d_law_254 rfl (lv_at hl 1 rfl) ?_
      refine lv_aload_n hx hb d_law_255 rfl (lv_at hl 0 rfl) ?_
      refine lv_iload hx hb d_law_256 (lv_at hl 4 rfl) ?_
      refine lv_iconst (v := 1) hx hb d_law_258 (by decide) ?_
      refine lv_iadd hx hb d_law_259 ?_
      have hg260 := gd_c hM
      have hM := gd_v hM
      refine va_sld hx hb hX hbl (Nat.not_le.mpr hbl) hS (inb_in hg260) d_law_260 ?_
      refine lv_aload_n hx hb d_law_261 rfl (lv_at hl 3 rfl) ?_
      obtain ⟨x262, hq262, hM⟩ := bH_some hM
      obtain ⟨x262, y262, z262⟩ := x262
      have hDo := D_xo hD
      have hF1 := free_all hDo hS hA
      refine va_calli (va_runSW (n := 3) (As := [.ref (ad 0 0), .int (xs (i + 1).toNatClampNeg), .ref qo]) (rest := []) ⟨hx, hb, hml, hown, hts⟩ (c_L_step l htr dC dI ad cs cL qo _ N σ f (xs (i + 1).toNatClampNeg) hq262) (goodX k_482) rfl rfl ⟨Nat.le_of_ble_eq_true rfl, Nat.le_of_ble_eq_true rfl⟩ (htb _ k_480) (htb _ k_481) (htb _ k_0) ⟨by decide, by decide, by decide +kernel⟩ ⟨blindL, payL (hP.app hPo) hK hKl hDo hN hZ (fun a ha => hS.2.1 a ha (Nat.not_le.mpr ha))⟩ rfl rfl hl.1 rfl (lv_room (Nat.le_of_ble_eq_true rfl)) d_law_262 ⟨hcA, hsA⟩) hS (fun q _ h => hF1 q h) hF1 (fun r262 u262 t H locs ht hvm hpost hB hz1 hk1 hS => ?_)
      obtain ⟨e1, e2⟩ := hpost
      subst e1
      subst e2
      rw [ht] at hB
      dsimp only at hB hM
      have hPm := fr (ap_om hD) hk1 hPm
      have hP := P_left hB
      have hPo := P_right hB
      have hD := D_3 hD (σ' := y262) (μ' := μ) (f' := z262)
      refine W.widen (k := 600000 - n33) (n := 7290000 - 6 * n33) (by omega) (by omega) ?_
      refine lv_istore hx hb d_law_265 hl (by decide) (lv' := [(5, .int r262), (0, .ref b), (1, .ref (ad 0 0)), (2, .ref (bd 0 0)), (3, .ref qo), (4, .int i)]) rfl (fun ls hl => ?_)
      refine lv_aload_n hx hb d_law_267 rfl (lv_at hl 3 rfl) ?_
      refine lv_aload_n hx hb d_law_268 rfl (lv_at hl 1 rfl) ?_
      refine lv_iload hx hb d_law_269 (lv_at hl 5 rfl) ?_
      refine lv_iconst (v := 1) hx hb d_law_271 (by decide) ?_
      refine lv_iadd hx hb d_law_272 ?_
      have hg273 := gd_c hM
      have hM := gd_v hM
      refine va_sld hx hb hX hbl (Nat.not_le.mpr hbl) hS (inb_in hg273) d_law_273 ?_
      have hF1 := free_all (D_left (D_right hD)) hS hA
      obtain ⟨x274, y274, hq274, hM⟩ := bI_some hM
      refine va_calli (va_runV (As := [.int (xs (i + 1).toNatClampNeg)]) (rest := []) ⟨hx, hb, hml, hown, hts⟩ (c_M_step l dC dI bd cs _ N μ (xs (i + 1).toNatClampNeg) hq274) (cwV 1 hts (goodVW k_763 k_764 k_765 k_8 k_766) rfl rfl rfl ⟨rfl, by decide, by decide, by decide +kernel⟩ ⟨Nat.le_of_ble_eq_true rfl, Nat.le_of_ble_eq_true rfl⟩) ⟨blindM, va_recv hK hPm rfl g_M, payM hPm hK (D_left (D_right hD)) hN⟩ rfl rfl hl.1 rfl (lv_room (Nat.le_of_ble_eq_true rfl)) d_law_274 ⟨hcB, hsB⟩) hS (fun q _ h => hF1 q h) hF1 (fun r274 σ274 t H locs ht hvm hpost hB hz1 hk1 hS => ?_)
      obtain ⟨e1, e2⟩ := hpost
      subst e1
      subst e2
      obtain ⟨hP1, hK1, hD1⟩ := hB
      rw [ht] at hP1
      have hP := fr (ap_mx hD) hk1 hP
      have hPo := fr (ap_mo hD) hk1 hPo
      have hPm := hP1
      have hD := D_3 hD (σ' := y262) (μ' := σ274) (f' := z262)
      refine lv_istore hx hb d_law_277 hl (by decide) (lv' := [(6, .int r274), (5, .int r262), (0, .ref b), (1, .ref (ad 0 0)), (2, .ref (bd 0 0)), (3, .ref qo), (4, .int i)]) rfl (fun ls hl => ?_)
      refine lv_goto (tgt := 725) hx hb d_law_279 (by decide) ?_
      exact KF _ _ _ _ ⟨y262, σ274, z262, i, rfl, hM, lv_sub hl [2, 3, 4, 5, 6] rfl, hP, hPm, hPo, hD, hS⟩
    rw [if_neg hw_4] at hM
    by_cases hw_5 : (xs i.toNatClampNeg &&& 31) = 5
    · rw [if_pos hw_5, m_case_5] at hM
      refine lv_tableIn (tgt := 282) (off := 233) hx hb d_law_49 (by rw [hw_5]; decide) (by rw [hw_5]; decide) (by rw [hw_5]; decide) (by decide) ?_
      refine lv_aload_n hx hb d_law_282 rfl (lv_at hl 1 rfl) ?_
      refine lv_aload_n hx hb d_law_283 rfl (lv_at hl 0 rfl) ?_
      refine lv_iload hx hb d_law_284 (lv_at hl 4 rfl) ?_
      refine lv_iconst (v := 1) hx hb d_law_286 (by decide) ?_
      refine lv_iadd hx hb d_law_287 ?_
      have hg288 := gd_c hM
      have hM := gd_v hM
      refine va_sld hx hb hX hbl (Nat.not_le.mpr hbl) hS (inb_in hg288) d_law_288 ?_
      refine lv_aload_n hx hb d_law_289 rfl (lv_at hl 0 rfl) ?_
      refine lv_iload hx hb d_law_290 (lv_at hl 4 rfl) ?_
      refine lv_iconst (v := 2) hx hb d_law_292 (by decide) ?_
      refine lv_iadd hx hb d_law_293 ?_
      have hg294 := gd_c hM
      have hM := gd_v hM
      refine va_sld hx hb hX hbl (Nat.not_le.mpr hbl) hS (inb_in hg294) d_law_294 ?_
      refine lv_aload_n hx hb d_law_295 rfl (lv_at hl 3 rfl) ?_
      obtain ⟨x296, hq296, hM⟩ := bH_some hM
      obtain ⟨x296, y296, z296⟩ := x296
      have hDo := D_xo hD
      have hF1 := free_all hDo hS hA
      refine va_calli (va_runSW (n := 4) (As := [.ref (ad 0 0), .int (xs (i + 1).toNatClampNeg), .int (xs (i + 2).toNatClampNeg), .ref qo]) (rest := []) ⟨hx, hb, hml, hown, hts⟩ (c_L_fault l htr dC dI ad cs cL qo _ N σ f (xs (i + 1).toNatClampNeg) (xs (i + 2).toNatClampNeg) hq296) (goodX k_604) rfl rfl ⟨Nat.le_of_ble_eq_true rfl, Nat.le_of_ble_eq_true rfl⟩ (htb _ k_602) (htb _ k_603) (htb _ k_0) ⟨by decide, by decide, by decide +kernel⟩ ⟨blindL, payL (hP.app hPo) hK hKl hDo hN hZ (fun a ha => hS.2.1 a ha (Nat.not_le.mpr ha))⟩ rfl rfl hl.1 rfl (lv_room (Nat.le_of_ble_eq_true rfl)) d_law_296 ⟨hcA, hsA⟩) hS (fun q _ h => hF1 q h) hF1 (fun r296 u296 t H locs ht hvm hpost hB hz1 hk1 hS => ?_)
      obtain ⟨e1, e2⟩ := hpost
      subst e1
      subst e2
      rw [ht] at hB
      dsimp only at hB hM
      have hPm := fr (ap_om hD) hk1 hPm
      have hP := P_left hB
      have hPo := P_right hB
      have hD := D_3 hD (σ' := y296) (μ' := μ) (f' := z296)
      refine W.widen (k := 600000 - n33) (n := 7290000 - 6 * n33) (by omega) (by omega) ?_
      refine lv_istore hx hb d_law_299 hl (by decide) (lv' := [(5, .int r296), (0, .ref b), (1, .ref (ad 0 0)), (2, .ref (bd 0 0)), (3, .ref qo), (4, .int i)]) rfl (fun ls hl => ?_)
      refine lv_aload_n hx hb d_law_301 rfl (lv_at hl 3 rfl) ?_
      refine lv_aload_n hx hb d_law_302 rfl (lv_at hl 1 rfl) ?_
      refine lv_iload hx hb d_law_303 (lv_at hl 5 rfl) ?_
      refine lv_iconst (v := 1) hx hb d_law_305 (by decide) ?_
      refine lv_iadd hx hb d_law_306 ?_
      have hg307 := gd_c hM
      have hM := gd_v hM
      refine va_sld hx hb hX hbl (Nat.not_le.mpr hbl) hS (inb_in hg307) d_law_307 ?_
      refine lv_aload_n hx hb d_law_308 rfl (lv_at hl 1 rfl) ?_
      refine lv_iload hx hb d_law_309 (lv_at hl 5 rfl) ?_
      refine lv_iconst (v := 2) hx hb d_law_311 (by decide) ?_
      refine lv_iadd hx hb d_law_312 ?_
      have hg313 := gd_c hM
      have hM := gd_v hM
      refine va_sld hx hb hX hbl (Nat.not_le.mpr hbl) hS (inb_in hg313) d_law_313 ?_
      have hF1 := free_all (D_left (D_right hD)) hS hA
      obtain ⟨x314, y314, hq314, hM⟩ := bI_some hM
      refine va_calli (va_runV (As := [.int (xs (i + 1).toNatClampNeg), .int (xs (i + 2).toNatClampNeg)]) (rest := []) ⟨hx, hb, hml, hown, hts⟩ (c_M_fault l dC dI bd cs _ N μ (xs (i + 1).toNatClampNeg) (xs (i + 2).toNatClampNeg) hq314) (cwV 2 hts (goodVW k_823 k_824 k_825 k_8 k_826) rfl rfl rfl ⟨rfl, by decide, by decide, by decide +kernel⟩ ⟨Nat.le_of_ble_eq_true rfl, Nat.le_of_ble_eq_true rfl⟩) ⟨blindM, va_recv hK hPm rfl g_M, payM hPm hK (D_left (D_right hD)) hN⟩ rfl rfl hl.1 rfl (lv_room (Nat.le_of_ble_eq_true rfl)) d_law_314 ⟨hcB, hsB⟩) hS (fun q _ h => hF1 q h) hF1 (fun r314 σ314 t H locs ht hvm hpost hB hz1 hk1 hS => ?_)
      obtain ⟨e1, e2⟩ := hpost
      subst e1
      subst e2
      obtain ⟨hP1, hK1, hD1⟩ := hB
      rw [ht] at hP1
      have hP := fr (ap_mx hD) hk1 hP
      have hPo := fr (ap_mo hD) hk1 hPo
      have hPm := hP1
      have hD := D_3 hD (σ' := y296) (μ' := σ314) (f' := z296)
      refine lv_istore hx hb d_law_317 hl (by decide) (lv' := [(6, .int r314), (5, .int r296), (0, .ref b), (1, .ref (ad 0 0)), (2, .ref (bd 0 0)), (3, .ref qo), (4, .int i)]) rfl (fun ls hl => ?_)
      refine lv_aload_n hx hb d_law_319 rfl (lv_at hl 4 rfl) ?_
      obtain ⟨x320, y320, hq320, hM⟩ := bI_some hM
      refine va_calli (va_runV (As := []) (rest := []) ⟨hx, hb, hml, hown, hts⟩ (c_M_thrown l dC dI bd cs _ N σ314 hq320) (cwV 0 hts (goodVW k_719 k_720 k_721 k_8 k_722) rfl rfl rfl ⟨rfl, by decide, by decide, by decide +kernel⟩ ⟨Nat.le_of_ble_eq_true rfl, Nat.le_of_ble_eq_true rfl⟩) ⟨blindM, va_recv hK hPm rfl g_M, payM hPm hK (D_left (D_right hD)) hN⟩ rfl rfl hl.1 rfl (lv_room (Nat.le_of_ble_eq_true rfl)) d_law_320 ⟨hcB, hsB⟩) hS (fun q h0 h => absurd h0 (Nat.not_lt.mpr h)) (fun q h => hA q (Nat.le_trans hS.1 h)) (fun r320 u t H locs ht hvm hpost hB hz1 hk1 hS => ?_)
      obtain ⟨e1, e2⟩ := hpost
      subst e1
      subst e2
      have hP := keepP hP hk1
      have hPm := keepP hPm hk1
      have hPo := keepP hPo hk1
      refine lv_iload hx hb d_law_323 (lv_at hl 1 rfl) ?_
      refine lv_icmp_eq (tgt := 330) hx hb d_law_325 (by decide) (fun h325 => ?_) (fun h325 => ?_)
      · rw [if_pos h325] at hM
        refine lv_iload hx hb d_law_330 (lv_at hl 1 rfl) ?_
        refine lv_if_ne (tgt := 347) hx hb d_law_332 (by decide) (fun h332 => ?_) (fun h332 => ?_)
        · rw [if_neg h332] at hM
          refine lv_goto (tgt := 725) hx hb d_law_347 (by decide) ?_
          exact KF _ _ _ _ ⟨y296, σ314, z296, i, rfl, hM, lv_sub hl [2, 3, 4, 5, 6] rfl, hP, hPm, hPo, hD, hS⟩
        · rw [if_pos h332] at hM
          refine lv_aload_n hx hb d_law_335 rfl (lv_at hl 5 rfl) ?_
          refine lv_iconst (v := 0) hx hb d_law_336 (by decide) ?_
          refine va_lald hx hb hKl hPo 0 0 rfl rfl (inb_in (by decide)) d_law_337 ?_
          refine lv_iload hx hb d_law_338 (lv_at hl 0 rfl) ?_
          refine lv_i2l hx hb d_law_340 rfl ?_
          refine W.lcmp hx hb d_law_341 ?_
          refine lv_if_eq (tgt := 347) hx hb d_law_342 (by decide) (fun h342 => ?_) (fun h342 => ?_)
          · rw [if_pos h342] at hM
            refine lv_goto (tgt := 725) hx hb d_law_347 (by decide) ?_
            exact KF _ _ _ _ ⟨y296, σ314, z296, i, rfl, hM, lv_sub hl [2, 3, 4, 5, 6] rfl, hP, hPm, hPo, hD, hS⟩
          · rw [if_neg h342] at hM
            refine lv_iconst (v := 0) hx hb d_law_345 (by decide) ?_
            cases hM
      · rw [if_neg h325] at hM
        refine lv_iconst (v := 0) hx hb d_law_328 (by decide) ?_
        cases hM
    rw [if_neg hw_5] at hM
    by_cases hw_6 : (xs i.toNatClampNeg &&& 31) = 6
    · rw [if_pos hw_6, m_case_6] at hM
      refine lv_tableIn (tgt := 350) (off := 301) hx hb d_law_49 (by rw [hw_6]; decide) (by rw [hw_6]; decide) (by rw [hw_6]; decide) (by decide) ?_
      refine W.widen (k := 600000 - n33) (n := 7290000 - 6 * n33) (by omega) (by omega) ?_
      refine lv_aload_n hx hb d_law_350 rfl (lv_at hl 1 rfl) ?_
      refine lv_aload_n hx hb d_law_351 rfl (lv_at hl 0 rfl) ?_
      refine lv_iload hx hb d_law_352 (lv_at hl 4 rfl) ?_
      refine lv_iconst (v := 1) hx hb d_law_354 (by decide) ?_
      refine lv_iadd hx hb d_law_355 ?_
      have hg356 := gd_c hM
      have hM := gd_v hM
      refine va_sld hx hb hX hbl (Nat.not_le.mpr hbl) hS (inb_in hg356) d_law_356 ?_
      have hF1 := free_all (D_left hD) hS hA
      obtain ⟨x357, y357, hq357, hM⟩ := bI_some hM
      refine va_calli (va_runV (As := [.int (xs (i + 1).toNatClampNeg)]) (rest := []) ⟨hx, hb, hml, hown, hts⟩ (c_O_cutAfter l dC dI ad cs _ N σ (xs (i + 1).toNatClampNeg) hq357) (cwV 1 hts (goodVW k_209 k_210 k_211 k_1 k_212) rfl rfl rfl ⟨rfl, by decide, by decide, by decide +kernel⟩ ⟨Nat.le_of_ble_eq_true rfl, Nat.le_of_ble_eq_true rfl⟩) ⟨blindX, va_recv hK hP rfl g_O, payX hP hK (D_left hD) hN⟩ rfl rfl hl.1 rfl (lv_room (Nat.le_of_ble_eq_true rfl)) d_law_357 ⟨hcB, hsB⟩) hS (fun q _ h => hF1 q h) hF1 (fun r357 σ357 t H locs ht hvm hpost hB hz1 hk1 hS => ?_)
      obtain ⟨e1, e2⟩ := hpost
      subst e1
      subst e2
      obtain ⟨hP1, hK1, hD1⟩ := hB
      rw [ht] at hP1
      have hPm := fr (ap_xm hD) hk1 hPm
      have hPo := fr (ap_xo hD) hk1 hPo
      have hP := hP1
      have hD := D_3 hD (σ' := σ357) (μ' := μ) (f' := f)
      refine lv_pop hx hb d_law_360 rfl ?_
      refine lv_aload_n hx hb d_law_361 rfl (lv_at hl 2 rfl) ?_
      refine lv_aload_n hx hb d_law_362 rfl (lv_at hl 0 rfl) ?_
      refine lv_iload hx hb d_law_363 (lv_at hl 4 rfl) ?_
      refine lv_iconst (v := 1) hx hb d_law_365 (by decide) ?_
      refine lv_iadd hx hb d_law_366 ?_
      have hg367 := gd_c hM
      have hM := gd_v hM
      refine va_sld hx hb hX hbl (Nat.not_le.mpr hbl) hS (inb_in hg367) d_law_367 ?_
      have hF1 := free_all (D_left (D_right hD)) hS hA
      obtain ⟨x368, y368, hq368, hM⟩ := bI_some hM
      refine va_calli (va_runV (As := [.int (xs (i + 1).toNatClampNeg)]) (rest := []) ⟨hx, hb, hml, hown, hts⟩ (c_M_cutAfter l dC dI bd cs _ N μ (xs (i + 1).toNatClampNeg) hq368) (cwV 1 hts (goodVW k_830 k_831 k_832 k_8 k_833) rfl rfl rfl ⟨rfl, by decide, by decide, by decide +kernel⟩ ⟨Nat.le_of_ble_eq_true rfl, Nat.le_of_ble_eq_true rfl⟩) ⟨blindM, va_recv hK hPm rfl g_M, payM hPm hK (D_left (D_right hD)) hN⟩ rfl rfl hl.1 rfl (lv_room (Nat.le_of_ble_eq_true rfl)) d_law_368 ⟨hcB, hsB⟩) hS (fun q _ h => hF1 q h) hF1 (fun r368 σ368 t H locs ht hvm hpost hB hz1 hk1 hS => ?_)
      obtain ⟨e1, e2⟩ := hpost
      subst e1
      subst e2
      obtain ⟨hP1, hK1, hD1⟩ := hB
      rw [ht] at hP1
      have hP := fr (ap_mx hD) hk1 hP
      have hPo := fr (ap_mo hD) hk1 hPo
      have hPm := hP1
      have hD := D_3 hD (σ' := σ357) (μ' := σ368) (f' := f)
      refine lv_pop hx hb d_law_371 rfl ?_
      refine lv_goto (tgt := 725) hx hb d_law_372 (by decide) ?_
      exact KF _ _ _ _ ⟨σ357, σ368, f, i, rfl, hM, lv_sub hl [0, 1, 2, 3, 4] rfl, hP, hPm, hPo, hD, hS⟩
    rw [if_neg hw_6] at hM
    by_cases hw_7 : (xs i.toNatClampNeg &&& 31) = 7
    · rw [if_pos hw_7, m_case_7] at hM
      refine lv_tableIn (tgt := 375) (off := 326) hx hb d_law_49 (by rw [hw_7]; decide) (by rw [hw_7]; decide) (by rw [hw_7]; decide) (by decide) ?_
      refine W.widen (k := 600000 - n33) (n := 7290000 - 6 * n33) (by omega) (by omega) ?_
      refine lv_aload_n hx hb d_law_375 rfl (lv_at hl 1 rfl) ?_
      have hF1 := free_all (D_left hD) hS hA
      obtain ⟨x376, y376, hq376, hM⟩ := bI_some hM
      refine va_calli (va_runV (As := []) (rest := []) ⟨hx, hb, hml, hown, hts⟩ (c_O_resume l dC dI ad cs _ N σ hq376) (cwV 0 hts (goodVW k_221 k_222 k_223 k_1 k_224) rfl rfl rfl ⟨rfl, by decide, by decide, by decide +kernel⟩ ⟨Nat.le_of_ble_eq_true rfl, Nat.le_of_ble_eq_true rfl⟩) ⟨blindX, va_recv hK hP rfl g_O, payX hP hK (D_left hD) hN⟩ rfl rfl hl.1 rfl (lv_room (Nat.le_of_ble_eq_true rfl)) d_law_376 ⟨hcB, hsB⟩) hS (fun q _ h => hF1 q h) hF1 (fun r376 σ376 t H locs ht hvm hpost hB hz1 hk1 hS => ?_)
      obtain ⟨e1, e2⟩ := hpost
      subst e1
      subst e2
      obtain ⟨hP1, hK1, hD1⟩ := hB
      rw [ht] at hP1
      have hPm := fr (ap_xm hD) hk1 hPm
      have hPo := fr (ap_xo hD) hk1 hPo
      have hP := hP1
      have hD := D_3 hD (σ' := σ376) (μ' := μ) (f' := f)
      refine lv_pop hx hb d_law_379 rfl ?_
      refine lv_aload_n hx hb d_law_380 rfl (lv_at hl 2 rfl) ?_
      have hF1 := free_all (D_left (D_right hD)) hS hA
      obtain ⟨x381, y381, hq381, hM⟩ := bI_some hM
      refine va_calli (va_runV (As := []) (rest := []) ⟨hx, hb, hml, hown, hts⟩ (c_M_resume l dC dI bd cs _ N μ hq381) (cwV 0 hts (goodVW k_834 k_835 k_836 k_8 k_837) rfl rfl rfl ⟨rfl, by decide, by decide, by decide +kernel⟩ ⟨Nat.le_of_ble_eq_true rfl, Nat.le_of_ble_eq_true rfl⟩) ⟨blindM, va_recv hK hPm rfl g_M, payM hPm hK (D_left (D_right hD)) hN⟩ rfl rfl hl.1 rfl (lv_room (Nat.le_of_ble_eq_true rfl)) d_law_381 ⟨hcB, hsB⟩) hS (fun q _ h => hF1 q h) hF1 (fun r381 σ381 t H locs ht hvm hpost hB hz1 hk1 hS => ?_)
      obtain ⟨e1, e2⟩ := hpost
      subst e1
      subst e2
      obtain ⟨hP1, hK1, hD1⟩ := hB
      rw [ht] at hP1
      have hP := fr (ap_mx hD) hk1 hP
      have hPo := fr (ap_mo hD) hk1 hPo
      have hPm := hP1
      have hD := D_3 hD (σ' := σ376) (μ' := σ381) (f' := f)
      refine lv_pop hx hb d_law_384 rfl ?_
      refine lv_goto (tgt := 725) hx hb d_law_385 (by decide) ?_
      exact KF _ _ _ _ ⟨σ376, σ381, f, i, rfl, hM, lv_sub hl [0, 1, 2, 3, 4] rfl, hP, hPm, hPo, hD, hS⟩
    rw [if_neg hw_7] at hM
    by_cases hw_8 : (xs i.toNatClampNeg &&& 31) = 8
    · rw [if_pos hw_8, m_case_8] at hM
      refine lv_tableIn (tgt := 388) (off := 339) hx hb d_law_49 (by rw [hw_8]; decide) (by rw [hw_8]; decide) (by rw [hw_8]; decide) (by decide) ?_
      refine W.widen (k := 600000 - n33) (n := 7290000 - 6 * n33) (by omega) (by omega) ?_
      refine lv_aload_n hx hb d_law_388 rfl (lv_at hl 1 rfl) ?_
      obtain ⟨x389, y389, hq389, hM⟩ := bI_some hM
      refine va_calli (va_runV (As := []) (rest := []) ⟨hx, hb, hml, hown, hts⟩ (c_O_phase l dC dI ad cs _ N σ hq389) (cwV 0 hts (goodVW k_229 k_230 k_231 k_1 k_232) rfl rfl rfl ⟨rfl, by decide, by decide, by decide +kernel⟩ ⟨Nat.le_of_ble_eq_true rfl, Nat.le_of_ble_eq_true rfl⟩) ⟨blindX, va_recv hK hP rfl g_O, payX hP hK (D_left hD) hN⟩ rfl rfl hl.1 rfl (lv_room (Nat.le_of_ble_eq_true rfl)) d_law_389 ⟨hcB, hsB⟩) hS (fun q h0 h => absurd h0 (Nat.not_lt.mpr h)) (fun q h => hA q (Nat.le_trans hS.1 h)) (fun r389 u t H locs ht hvm hpost hB hz1 hk1 hS => ?_)
      obtain ⟨e1, e2⟩ := hpost
      subst e1
      subst e2
      have hP := keepP hP hk1
      have hPm := keepP hPm hk1
      have hPo := keepP hPo hk1
      refine lv_pop hx hb d_law_392 rfl ?_
      refine lv_aload_n hx hb d_law_393 rfl (lv_at hl 2 rfl) ?_
      have hF1 := free_all (D_left (D_right hD)) hS hA
      obtain ⟨x394, y394, hq394, hM⟩ := bI_some hM
      refine va_calli (va_runV (As := []) (rest := []) ⟨hx, hb, hml, hown, hts⟩ (c_M_phase l dC dI bd cs _ N μ hq394) (cwV 0 hts (goodVW k_838 k_839 k_840 k_8 k_841) rfl rfl rfl ⟨rfl, by decide, by decide, by decide +kernel⟩ ⟨Nat.le_of_ble_eq_true rfl, Nat.le_of_ble_eq_true rfl⟩) ⟨blindM, va_recv hK hPm rfl g_M, payM hPm hK (D_left (D_right hD)) hN⟩ rfl rfl hl.1 rfl (lv_room (Nat.le_of_ble_eq_true rfl)) d_law_394 ⟨hcB, hsB⟩) hS (fun q _ h => hF1 q h) hF1 (fun r394 σ394 t H locs ht hvm hpost hB hz1 hk1 hS => ?_)
      obtain ⟨e1, e2⟩ := hpost
      subst e1
      subst e2
      obtain ⟨hP1, hK1, hD1⟩ := hB
      rw [ht] at hP1
      have hP := fr (ap_mx hD) hk1 hP
      have hPo := fr (ap_mo hD) hk1 hPo
      have hPm := hP1
      have hD := D_3 hD (σ' := σ) (μ' := σ394) (f' := f)
      refine lv_pop hx hb d_law_397 rfl ?_
      refine lv_goto (tgt := 725) hx hb d_law_398 (by decide) ?_
      exact KF _ _ _ _ ⟨σ, σ394, f, i, rfl, hM, lv_sub hl [0, 1, 2, 3, 4] rfl, hP, hPm, hPo, hD, hS⟩
    rw [if_neg hw_8] at hM
    by_cases hw_9 : (xs i.toNatClampNeg &&& 31) = 9
    · rw [if_pos hw_9, m_case_9] at hM
      refine lv_tableIn (tgt := 401) (off := 352) hx hb d_law_49 (by rw [hw_9]; decide) (by rw [hw_9]; decide) (by rw [hw_9]; decide) (by decide) ?_
      refine W.widen (k := 600000 - n33) (n := 7290000 - 6 * n33) (by omega) (by omega) ?_
      refine lv_aload_n hx hb d_law_401 rfl (lv_at hl 1 rfl) ?_
      obtain ⟨x402, y402, hq402, hM⟩ := bI_some hM
      refine va_calli (va_runV (As := []) (rest := []) ⟨hx, hb, hml, hown, hts⟩ (c_O_level l dC dI ad cs _ N σ hq402) (cwV 0 hts (goodVW k_233 k_234 k_235 k_1 k_236) rfl rfl rfl ⟨rfl, by decide, by decide, by decide +kernel⟩ ⟨Nat.le_of_ble_eq_true rfl, Nat.le_of_ble_eq_true rfl⟩) ⟨blindX, va_recv hK hP rfl g_O, payX hP hK (D_left hD) hN⟩ rfl rfl hl.1 rfl (lv_room (Nat.le_of_ble_eq_true rfl)) d_law_402 ⟨hcB, hsB⟩) hS (fun q h0 h => absurd h0 (Nat.not_lt.mpr h)) (fun q h => hA q (Nat.le_trans hS.1 h)) (fun r402 u t H locs ht hvm hpost hB hz1 hk1 hS => ?_)
      obtain ⟨e1, e2⟩ := hpost
      subst e1
      subst e2
      have hP := keepP hP hk1
      have hPm := keepP hPm hk1
      have hPo := keepP hPo hk1
      refine lv_pop hx hb d_law_405 rfl ?_
      refine lv_aload_n hx hb d_law_406 rfl (lv_at hl 2 rfl) ?_
      have hF1 := free_all (D_left (D_right hD)) hS hA
      obtain ⟨x407, y407, hq407, hM⟩ := bI_some hM
      refine va_calli (va_runV (As := []) (rest := []) ⟨hx, hb, hml, hown, hts⟩ (c_M_level l dC dI bd cs _ N μ hq407) (cwV 0 hts (goodVW k_842 k_843 k_844 k_8 k_845) rfl rfl rfl ⟨rfl, by decide, by decide, by decide +kernel⟩ ⟨Nat.le_of_ble_eq_true rfl, Nat.le_of_ble_eq_true rfl⟩) ⟨blindM, va_recv hK hPm rfl g_M, payM hPm hK (D_left (D_right hD)) hN⟩ rfl rfl hl.1 rfl (lv_room (Nat.le_of_ble_eq_true rfl)) d_law_407 ⟨hcB, hsB⟩) hS (fun q _ h => hF1 q h) hF1 (fun r407 σ407 t H locs ht hvm hpost hB hz1 hk1 hS => ?_)
      obtain ⟨e1, e2⟩ := hpost
      subst e1
      subst e2
      obtain ⟨hP1, hK1, hD1⟩ := hB
      rw [ht] at hP1
      have hP := fr (ap_mx hD) hk1 hP
      have hPo := fr (ap_mo hD) hk1 hPo
      have hPm := hP1
      have hD := D_3 hD (σ' := σ) (μ' := σ407) (f' := f)
      refine lv_pop hx hb d_law_410 rfl ?_
      refine lv_goto (tgt := 725) hx hb d_law_411 (by decide) ?_
      exact KF _ _ _ _ ⟨σ, σ407, f, i, rfl, hM, lv_sub hl [0, 1, 2, 3, 4] rfl, hP, hPm, hPo, hD, hS⟩
    rw [if_neg hw_9] at hM
    by_cases hw_10 : (xs i.toNatClampNeg &&& 31) = 10
    · rw [if_pos hw_10, m_case_10] at hM
      refine lv_tableIn (tgt := 414) (off := 365) hx hb d_law_49 (by rw [hw_10]; decide) (by rw [hw_10]; decide) (by rw [hw_10]; decide) (by decide) ?_
      refine W.widen (k := 600000 - n33) (n := 7290000 - 6 * n33) (by omega) (by omega) ?_
      refine lv_aload_n hx hb d_law_414 rfl (lv_at hl 1 rfl) ?_
      refine lv_aload_n hx hb d_law_415 rfl (lv_at hl 0 rfl) ?_
      refine lv_iload hx hb d_law_416 (lv_at hl 4 rfl) ?_
      refine lv_iconst (v := 1) hx hb d_law_418 (by decide) ?_
      refine lv_iadd hx hb d_law_419 ?_
      have hg420 := gd_c hM
      have hM := gd_v hM
      refine va_sld hx hb hX hbl (Nat.not_le.mpr hbl) hS (inb_in hg420) d_law_420 ?_
      obtain ⟨x421, y421, hq421, hM⟩ := bI_some hM
      refine va_calli (va_runV (As := [.int (xs (i + 1).toNatClampNeg)]) (rest := []) ⟨hx, hb, hml, hown, hts⟩ (c_O_runs l dC dI ad cs _ N σ (xs (i + 1).toNatClampNeg) hq421) (cwV 1 hts (goodVW k_241 k_242 k_243 k_1 k_244) rfl rfl rfl ⟨rfl, by decide, by decide, by decide +kernel⟩ ⟨Nat.le_of_ble_eq_true rfl, Nat.le_of_ble_eq_true rfl⟩) ⟨blindX, va_recv hK hP rfl g_O, payX hP hK (D_left hD) hN⟩ rfl rfl hl.1 rfl (lv_room (Nat.le_of_ble_eq_true rfl)) d_law_421 ⟨hcB, hsB⟩) hS (fun q h0 h => absurd h0 (Nat.not_lt.mpr h)) (fun q h => hA q (Nat.le_trans hS.1 h)) (fun r421 u t H locs ht hvm hpost hB hz1 hk1 hS => ?_)
      obtain ⟨e1, e2⟩ := hpost
      subst e1
      subst e2
      have hP := keepP hP hk1
      have hPm := keepP hPm hk1
      have hPo := keepP hPo hk1
      refine lv_pop hx hb d_law_424 rfl ?_
      refine lv_aload_n hx hb d_law_425 rfl (lv_at hl 2 rfl) ?_
      refine lv_aload_n hx hb d_law_426 rfl (lv_at hl 0 rfl) ?_
      refine lv_iload hx hb d_law_427 (lv_at hl 4 rfl) ?_
      refine lv_iconst (v := 1) hx hb d_law_429 (by decide) ?_
      refine lv_iadd hx hb d_law_430 ?_
      have hg431 := gd_c hM
      have hM := gd_v hM
      refine va_sld hx hb hX hbl (Nat.not_le.mpr hbl) hS (inb_in hg431) d_law_431 ?_
      have hF1 := free_all (D_left (D_right hD)) hS hA
      obtain ⟨x432, y432, hq432, hM⟩ := bI_some hM
      refine va_calli (va_runV (As := [.int (xs (i + 1).toNatClampNeg)]) (rest := []) ⟨hx, hb, hml, hown, hts⟩ (c_M_runs l dC dI bd cs _ N μ (xs (i + 1).toNatClampNeg) hq432) (cwV 1 hts (goodVW k_846 k_847 k_848 k_8 k_849) rfl rfl rfl ⟨rfl, by decide, by decide, by decide +kernel⟩ ⟨Nat.le_of_ble_eq_true rfl, Nat.le_of_ble_eq_true rfl⟩) ⟨blindM, va_recv hK hPm rfl g_M, payM hPm hK (D_left (D_right hD)) hN⟩ rfl rfl hl.1 rfl (lv_room (Nat.le_of_ble_eq_true rfl)) d_law_432 ⟨hcB, hsB⟩) hS (fun q _ h => hF1 q h) hF1 (fun r432 σ432 t H locs ht hvm hpost hB hz1 hk1 hS => ?_)
      obtain ⟨e1, e2⟩ := hpost
      subst e1
      subst e2
      obtain ⟨hP1, hK1, hD1⟩ := hB
      rw [ht] at hP1
      have hP := fr (ap_mx hD) hk1 hP
      have hPo := fr (ap_mo hD) hk1 hPo
      have hPm := hP1
      have hD := D_3 hD (σ' := σ) (μ' := σ432) (f' := f)
      refine lv_pop hx hb d_law_435 rfl ?_
      refine lv_goto (tgt := 725) hx hb d_law_436 (by decide) ?_
      exact KF _ _ _ _ ⟨σ, σ432, f, i, rfl, hM, lv_sub hl [0, 1, 2, 3, 4] rfl, hP, hPm, hPo, hD, hS⟩
    rw [if_neg hw_10] at hM
    by_cases hw_11 : (xs i.toNatClampNeg &&& 31) = 11
    · rw [if_pos hw_11, m_case_11] at hM
      refine lv_tableIn (tgt := 439) (off := 390) hx hb d_law_49 (by rw [hw_11]; decide) (by rw [hw_11]; decide) (by rw [hw_11]; decide) (by decide) ?_
      refine W.widen (k := 600000 - n33) (n := 7290000 - 6 * n33) (by omega) (by omega) ?_
      refine lv_aload_n hx hb d_law_439 rfl (lv_at hl 1 rfl) ?_
      refine lv_aload_n hx hb d_law_440 rfl (lv_at hl 0 rfl) ?_
      refine lv_iload hx hb d_law_441 (lv_at hl 4 rfl) ?_
      refine lv_iconst (v := 1) hx hb d_law_443 (by decide) ?_
      refine lv_iadd hx hb d_law_444 ?_
      have hg445 := gd_c hM
      have hM := gd_v hM
      refine va_sld hx hb hX hbl (Nat.not_le.mpr hbl) hS (inb_in hg445) d_law_445 ?_
      obtain ⟨x446, y446, hq446, hM⟩ := bI_some hM
      refine va_calli (va_runV (As := [.int (xs (i + 1).toNatClampNeg)]) (rest := []) ⟨hx, hb, hml, hown, hts⟩ (c_O_dummies l dC dI ad cs _ N σ (xs (i + 1).toNatClampNeg) hq446) (cwV 1 hts (goodVW k_252 k_253 k_254 k_1 k_255) rfl rfl rfl ⟨rfl, by decide, by decide, by decide +kernel⟩ ⟨Nat.le_of_ble_eq_true rfl, Nat.le_of_ble_eq_true rfl⟩) ⟨blindX, va_recv hK hP rfl g_O, payX hP hK (D_left hD) hN⟩ rfl rfl hl.1 rfl (lv_room (Nat.le_of_ble_eq_true rfl)) d_law_446 ⟨hcB, hsB⟩) hS (fun q h0 h => absurd h0 (Nat.not_lt.mpr h)) (fun q h => hA q (Nat.le_trans hS.1 h)) (fun r446 u t H locs ht hvm hpost hB hz1 hk1 hS => ?_)
      obtain ⟨e1, e2⟩ := hpost
      subst e1
      subst e2
      have hP := keepP hP hk1
      have hPm := keepP hPm hk1
      have hPo := keepP hPo hk1
      refine lv_pop hx hb d_law_449 rfl ?_
      refine lv_aload_n hx hb d_law_450 rfl (lv_at hl 2 rfl) ?_
      refine lv_aload_n hx hb d_law_451 rfl (lv_at hl 0 rfl) ?_
      refine lv_iload hx hb d_law_452 (lv_at hl 4 rfl) ?_
      refine lv_iconst (v := 1) hx hb d_law_454 (by decide) ?_
      refine lv_iadd hx hb d_law_455 ?_
      have hg456 := gd_c hM
      have hM := gd_v hM
      refine va_sld hx hb hX hbl (Nat.not_le.mpr hbl) hS (inb_in hg456) d_law_456 ?_
      have hF1 := free_all (D_left (D_right hD)) hS hA
      obtain ⟨x457, y457, hq457, hM⟩ := bI_some hM
      refine va_calli (va_runV (As := [.int (xs (i + 1).toNatClampNeg)]) (rest := []) ⟨hx, hb, hml, hown, hts⟩ (c_M_dummies l dC dI bd cs _ N μ (xs (i + 1).toNatClampNeg) hq457) (cwV 1 hts (goodVW k_850 k_851 k_852 k_8 k_853) rfl rfl rfl ⟨rfl, by decide, by decide, by decide +kernel⟩ ⟨Nat.le_of_ble_eq_true rfl, Nat.le_of_ble_eq_true rfl⟩) ⟨blindM, va_recv hK hPm rfl g_M, payM hPm hK (D_left (D_right hD)) hN⟩ rfl rfl hl.1 rfl (lv_room (Nat.le_of_ble_eq_true rfl)) d_law_457 ⟨hcB, hsB⟩) hS (fun q _ h => hF1 q h) hF1 (fun r457 σ457 t H locs ht hvm hpost hB hz1 hk1 hS => ?_)
      obtain ⟨e1, e2⟩ := hpost
      subst e1
      subst e2
      obtain ⟨hP1, hK1, hD1⟩ := hB
      rw [ht] at hP1
      have hP := fr (ap_mx hD) hk1 hP
      have hPo := fr (ap_mo hD) hk1 hPo
      have hPm := hP1
      have hD := D_3 hD (σ' := σ) (μ' := σ457) (f' := f)
      refine lv_pop hx hb d_law_460 rfl ?_
      refine lv_goto (tgt := 725) hx hb d_law_461 (by decide) ?_
      exact KF _ _ _ _ ⟨σ, σ457, f, i, rfl, hM, lv_sub hl [0, 1, 2, 3, 4] rfl, hP, hPm, hPo, hD, hS⟩
    rw [if_neg hw_11] at hM
    by_cases hw_12 : (xs i.toNatClampNeg &&& 31) = 12
    · rw [if_pos hw_12, m_case_12] at hM
      refine lv_tableIn (tgt := 464) (off := 415) hx hb d_law_49 (by rw [hw_12]; decide) (by rw [hw_12]; decide) (by rw [hw_12]; decide) (by decide) ?_
      refine W.widen (k := 600000 - n33) (n := 7290000 - 6 * n33) (by omega) (by omega) ?_
      refine lv_aload_n hx hb d_law_464 rfl (lv_at hl 1 rfl) ?_
      refine lv_aload_n hx hb d_law_465 rfl (lv_at hl 0 rfl) ?_
      refine lv_iload hx hb d_law_466 (lv_at hl 4 rfl) ?_
      refine lv_iconst (v := 1) hx hb d_law_468 (by decide) ?_
      refine lv_iadd hx hb d_law_469 ?_
      have hg470 := gd_c hM
      have hM := gd_v hM
      refine va_sld hx hb hX hbl (Nat.not_le.mpr hbl) hS (inb_in hg470) d_law_470 ?_
      obtain ⟨x471, y471, hq471, hM⟩ := bI_some hM
      refine va_calli (va_runV (As := [.int (xs (i + 1).toNatClampNeg)]) (rest := []) ⟨hx, hb, hml, hown, hts⟩ (c_O_role l dC dI ad cs _ N σ (xs (i + 1).toNatClampNeg) hq471) (cwV 1 hts (goodVW k_260 k_261 k_262 k_1 k_263) rfl rfl rfl ⟨rfl, by decide, by decide, by decide +kernel⟩ ⟨Nat.le_of_ble_eq_true rfl, Nat.le_of_ble_eq_true rfl⟩) ⟨blindX, va_recv hK hP rfl g_O, payX hP hK (D_left hD) hN⟩ rfl rfl hl.1 rfl (lv_room (Nat.le_of_ble_eq_true rfl)) d_law_471 ⟨hcB, hsB⟩) hS (fun q h0 h => absurd h0 (Nat.not_lt.mpr h)) (fun q h => hA q (Nat.le_trans hS.1 h)) (fun r471 u t H locs ht hvm hpost hB hz1 hk1 hS => ?_)
      obtain ⟨e1, e2⟩ := hpost
      subst e1
      subst e2
      have hP := keepP hP hk1
      have hPm := keepP hPm hk1
      have hPo := keepP hPo hk1
      refine lv_pop hx hb d_law_474 rfl ?_
      refine lv_aload_n hx hb d_law_475 rfl (lv_at hl 2 rfl) ?_
      refine lv_aload_n hx hb d_law_476 rfl (lv_at hl 0 rfl) ?_
      refine lv_iload hx hb d_law_477 (lv_at hl 4 rfl) ?_
      refine lv_iconst (v := 1) hx hb d_law_479 (by decide) ?_
      refine lv_iadd hx hb d_law_480 ?_
      have hg481 := gd_c hM
      have hM := gd_v hM
      refine va_sld hx hb hX hbl (Nat.not_le.mpr hbl) hS (inb_in hg481) d_law_481 ?_
      have hF1 := free_all (D_left (D_right hD)) hS hA
      obtain ⟨x482, y482, hq482, hM⟩ := bI_some hM
      refine va_calli (va_runV (As := [.int (xs (i + 1).toNatClampNeg)]) (rest := []) ⟨hx, hb, hml, hown, hts⟩ (c_M_role l dC dI bd cs _ N μ (xs (i + 1).toNatClampNeg) hq482) (cwV 1 hts (goodVW k_854 k_855 k_856 k_8 k_857) rfl rfl rfl ⟨rfl, by decide, by decide, by decide +kernel⟩ ⟨Nat.le_of_ble_eq_true rfl, Nat.le_of_ble_eq_true rfl⟩) ⟨blindM, va_recv hK hPm rfl g_M, payM hPm hK (D_left (D_right hD)) hN⟩ rfl rfl hl.1 rfl (lv_room (Nat.le_of_ble_eq_true rfl)) d_law_482 ⟨hcB, hsB⟩) hS (fun q _ h => hF1 q h) hF1 (fun r482 σ482 t H locs ht hvm hpost hB hz1 hk1 hS => ?_)
      obtain ⟨e1, e2⟩ := hpost
      subst e1
      subst e2
      obtain ⟨hP1, hK1, hD1⟩ := hB
      rw [ht] at hP1
      have hP := fr (ap_mx hD) hk1 hP
      have hPo := fr (ap_mo hD) hk1 hPo
      have hPm := hP1
      have hD := D_3 hD (σ' := σ) (μ' := σ482) (f' := f)
      refine lv_pop hx hb d_law_485 rfl ?_
      refine lv_goto (tgt := 725) hx hb d_law_486 (by decide) ?_
      exact KF _ _ _ _ ⟨σ, σ482, f, i, rfl, hM, lv_sub hl [0, 1, 2, 3, 4] rfl, hP, hPm, hPo, hD, hS⟩
    rw [if_neg hw_12] at hM
    by_cases hw_13 : (xs i.toNatClampNeg &&& 31) = 13
    · rw [if_pos hw_13, m_case_13] at hM
      refine lv_tableIn (tgt := 489) (off := 440) hx hb d_law_49 (by rw [hw_13]; decide) (by rw [hw_13]; decide) (by rw [hw_13]; decide) (by decide) ?_
      refine W.widen (k := 600000 - n33) (n := 7290000 - 6 * n33) (by omega) (by omega) ?_
      refine lv_aload_n hx hb d_law_489 rfl (lv_at hl 1 rfl) ?_
      refine lv_aload_n hx hb d_law_490 rfl (lv_at hl 0 rfl) ?_
      refine lv_iload hx hb d_law_491 (lv_at hl 4 rfl) ?_
      refine lv_iconst (v := 1) hx hb d_law_493 (by decide) ?_
      refine lv_iadd hx hb d_law_494 ?_
      have hg495 := gd_c hM
      have hM := gd_v hM
      refine va_sld hx hb hX hbl (Nat.not_le.mpr hbl) hS (inb_in hg495) d_law_495 ?_
      refine lv_aload_n hx hb d_law_496 rfl (lv_at hl 0 rfl) ?_
      refine lv_iload hx hb d_law_497 (lv_at hl 4 rfl) ?_
      refine lv_iconst (v := 2) hx hb d_law_499 (by decide) ?_
      refine lv_iadd hx hb d_law_500 ?_
      have hg501 := gd_c hM
      have hM := gd_v hM
      refine va_sld hx hb hX hbl (Nat.not_le.mpr hbl) hS (inb_in hg501) d_law_501 ?_
      obtain ⟨x502, y502, hq502, hM⟩ := bI_some hM
      refine va_calli (va_runV (As := [.int (xs (i + 1).toNatClampNeg), .int (xs (i + 2).toNatClampNeg)]) (rest := []) ⟨hx, hb, hml, hown, hts⟩ (c_O_length l dC dI ad cs _ N σ (xs (i + 1).toNatClampNeg) (xs (i + 2).toNatClampNeg) hq502) (cwV 2 hts (goodVW k_264 k_265 k_266 k_1 k_267) rfl rfl rfl ⟨rfl, by decide, by decide, by decide +kernel⟩ ⟨Nat.le_of_ble_eq_true rfl, Nat.le_of_ble_eq_true rfl⟩) ⟨blindX, va_recv hK hP rfl g_O, payX hP hK (D_left hD) hN⟩ rfl rfl hl.1 rfl (lv_room (Nat.le_of_ble_eq_true rfl)) d_law_502 ⟨hcB, hsB⟩) hS (fun q h0 h => absurd h0 (Nat.not_lt.mpr h)) (fun q h => hA q (Nat.le_trans hS.1 h)) (fun r502 u t H locs ht hvm hpost hB hz1 hk1 hS => ?_)
      obtain ⟨e1, e2⟩ := hpost
      subst e1
      subst e2
      have hP := keepP hP hk1
      have hPm := keepP hPm hk1
      have hPo := keepP hPo hk1
      refine lv_pop hx hb d_law_505 rfl ?_
      refine lv_aload_n hx hb d_law_506 rfl (lv_at hl 2 rfl) ?_
      refine lv_aload_n hx hb d_law_507 rfl (lv_at hl 0 rfl) ?_
      refine lv_iload hx hb d_law_508 (lv_at hl 4 rfl) ?_
      refine lv_iconst (v := 1) hx hb d_law_510 (by decide) ?_
      refine lv_iadd hx hb d_law_511 ?_
      have hg512 := gd_c hM
      have hM := gd_v hM
      refine va_sld hx hb hX hbl (Nat.not_le.mpr hbl) hS (inb_in hg512) d_law_512 ?_
      refine lv_aload_n hx hb d_law_513 rfl (lv_at hl 0 rfl) ?_
      refine lv_iload hx hb d_law_514 (lv_at hl 4 rfl) ?_
      refine lv_iconst (v := 2) hx hb d_law_516 (by decide) ?_
      refine lv_iadd hx hb d_law_517 ?_
      have hg518 := gd_c hM
      have hM := gd_v hM
      refine va_sld hx hb hX hbl (Nat.not_le.mpr hbl) hS (inb_in hg518) d_law_518 ?_
      have hF1 := free_all (D_left (D_right hD)) hS hA
      obtain ⟨x519, y519, hq519, hM⟩ := bI_some hM
      refine va_calli (va_runV (As := [.int (xs (i + 1).toNatClampNeg), .int (xs (i + 2).toNatClampNeg)]) (rest := []) ⟨hx, hb, hml, hown, hts⟩ (c_M_length l dC dI bd cs _ N μ (xs (i + 1).toNatClampNeg) (xs (i + 2).toNatClampNeg) hq519) (cwV 2 hts (goodVW k_858 k_859 k_860 k_8 k_861) rfl rfl rfl ⟨rfl, by decide, by decide, by decide +kernel⟩ ⟨Nat.le_of_ble_eq_true rfl, Nat.le_of_ble_eq_true rfl⟩) ⟨blindM, va_recv hK hPm rfl g_M, payM hPm hK (D_left (D_right hD)) hN⟩ rfl rfl hl.1 rfl (lv_room (Nat.le_of_ble_eq_true rfl)) d_law_519 ⟨hcB, hsB⟩) hS (fun q _ h => hF1 q h) hF1 (fun r519 σ519 t H locs ht hvm hpost hB hz1 hk1 hS => ?_)
      obtain ⟨e1, e2⟩ := hpost
      subst e1
      subst e2
      obtain ⟨hP1, hK1, hD1⟩ := hB
      rw [ht] at hP1
      have hP := fr (ap_mx hD) hk1 hP
      have hPo := fr (ap_mo hD) hk1 hPo
      have hPm := hP1
      have hD := D_3 hD (σ' := σ) (μ' := σ519) (f' := f)
      refine lv_pop hx hb d_law_522 rfl ?_
      refine lv_goto (tgt := 725) hx hb d_law_523 (by decide) ?_
      exact KF _ _ _ _ ⟨σ, σ519, f, i, rfl, hM, lv_sub hl [0, 1, 2, 3, 4] rfl, hP, hPm, hPo, hD, hS⟩
    rw [if_neg hw_13] at hM
    by_cases hw_14 : (xs i.toNatClampNeg &&& 31) = 14
    · rw [if_pos hw_14, m_case_14] at hM
      refine lv_tableIn (tgt := 526) (off := 477) hx hb d_law_49 (by rw [hw_14]; decide) (by rw [hw_14]; decide) (by rw [hw_14]; decide) (by decide) ?_
      refine W.widen (k := 600000 - n33) (n := 7290000 - 6 * n33) (by omega) (by omega) ?_
      refine lv_aload_n hx hb d_law_526 rfl (lv_at hl 1 rfl) ?_
      refine lv_aload_n hx hb d_law_527 rfl (lv_at hl 0 rfl) ?_
      refine lv_iload hx hb d_law_528 (lv_at hl 4 rfl) ?_
      refine lv_iconst (v := 1) hx hb d_law_530 (by decide) ?_
      refine lv_iadd hx hb d_law_531 ?_
      have hg532 := gd_c hM
      have hM := gd_v hM
      refine va_sld hx hb hX hbl (Nat.not_le.mpr hbl) hS (inb_in hg532) d_law_532 ?_
      refine lv_aload_n hx hb d_law_533 rfl (lv_at hl 0 rfl) ?_
      refine lv_iload hx hb d_law_534 (lv_at hl 4 rfl) ?_
      refine lv_iconst (v := 2) hx hb d_law_536 (by decide) ?_
      refine lv_iadd hx hb d_law_537 ?_
      have hg538 := gd_c hM
      have hM := gd_v hM
      refine va_sld hx hb hX hbl (Nat.not_le.mpr hbl) hS (inb_in hg538) d_law_538 ?_
      refine lv_aload_n hx hb d_law_539 rfl (lv_at hl 0 rfl) ?_
      refine lv_iload hx hb d_law_540 (lv_at hl 4 rfl) ?_
      refine lv_iconst (v := 3) hx hb d_law_542 (by decide) ?_
      refine lv_iadd hx hb d_law_543 ?_
      have hg544 := gd_c hM
      have hM := gd_v hM
      refine va_sld hx hb hX hbl (Nat.not_le.mpr hbl) hS (inb_in hg544) d_law_544 ?_
      obtain ⟨x545, y545, hq545, hM⟩ := bI_some hM
      refine va_calli (va_runV (As := [.int (xs (i + 1).toNatClampNeg), .int (xs (i + 2).toNatClampNeg), .int (xs (i + 3).toNatClampNeg)]) (rest := []) ⟨hx, hb, hml, hown, hts⟩ (c_O_at l dC dI ad cs _ N σ (xs (i + 1).toNatClampNeg) (xs (i + 2).toNatClampNeg) (xs (i + 3).toNatClampNeg) hq545) (cwV 3 hts (goodVW k_272 k_273 k_274 k_1 k_275) rfl rfl rfl ⟨rfl, by decide, by decide, by decide +kernel⟩ ⟨Nat.le_of_ble_eq_true rfl, Nat.le_of_ble_eq_true rfl⟩) ⟨blindX, va_recv hK hP rfl g_O, payX hP hK (D_left hD) hN⟩ rfl rfl hl.1 rfl (lv_room (Nat.le_of_ble_eq_true rfl)) d_law_545 ⟨hcB, hsB⟩) hS (fun q h0 h => absurd h0 (Nat.not_lt.mpr h)) (fun q h => hA q (Nat.le_trans hS.1 h)) (fun r545 u t H locs ht hvm hpost hB hz1 hk1 hS => ?_)
      obtain ⟨e1, e2⟩ := hpost
      subst e1
      subst e2
      have hP := keepP hP hk1
      have hPm := keepP hPm hk1
      have hPo := keepP hPo hk1
      refine lv_pop hx hb d_law_548 rfl ?_
      refine lv_aload_n hx hb d_law_549 rfl (lv_at hl 2 rfl) ?_
      refine lv_aload_n hx hb d_law_550 rfl (lv_at hl 0 rfl) ?_
      refine lv_iload hx hb d_law_551 (lv_at hl 4 rfl) ?_
      refine lv_iconst (v := 1) hx hb d_law_553 (by decide) ?_
      refine lv_iadd hx hb d_law_554 ?_
      have hg555 := gd_c hM
      have hM := gd_v hM
      refine va_sld hx hb hX hbl (Nat.not_le.mpr hbl) hS (inb_in hg555) d_law_555 ?_
      refine lv_aload_n hx hb d_law_556 rfl (lv_at hl 0 rfl) ?_
      refine lv_iload hx hb d_law_557 (lv_at hl 4 rfl) ?_
      refine lv_iconst (v := 2) hx hb d_law_559 (by decide) ?_
      refine lv_iadd hx hb d_law_560 ?_
      have hg561 := gd_c hM
      have hM := gd_v hM
      refine va_sld hx hb hX hbl (Nat.not_le.mpr hbl) hS (inb_in hg561) d_law_561 ?_
      refine lv_aload_n hx hb d_law_562 rfl (lv_at hl 0 rfl) ?_
      refine lv_iload hx hb d_law_563 (lv_at hl 4 rfl) ?_
      refine lv_iconst (v := 3) hx hb d_law_565 (by decide) ?_
      refine lv_iadd hx hb d_law_566 ?_
      have hg567 := gd_c hM
      have hM := gd_v hM
      refine va_sld hx hb hX hbl (Nat.not_le.mpr hbl) hS (inb_in hg567) d_law_567 ?_
      have hF1 := free_all (D_left (D_right hD)) hS hA
      obtain ⟨x568, y568, hq568, hM⟩ := bI_some hM
      refine va_calli (va_runV (As := [.int (xs (i + 1).toNatClampNeg), .int (xs (i + 2).toNatClampNeg), .int (xs (i + 3).toNatClampNeg)]) (rest := []) ⟨hx, hb, hml, hown, hts⟩ (c_M_at l dC dI bd cs _ N μ (xs (i + 1).toNatClampNeg) (xs (i + 2).toNatClampNeg) (xs (i + 3).toNatClampNeg) hq568) (cwV 3 hts (goodVW k_862 k_863 k_864 k_8 k_865) rfl rfl rfl ⟨rfl, by decide, by decide, by decide +kernel⟩ ⟨Nat.le_of_ble_eq_true rfl, Nat.le_of_ble_eq_true rfl⟩) ⟨blindM, va_recv hK hPm rfl g_M, payM hPm hK (D_left (D_right hD)) hN⟩ rfl rfl hl.1 rfl (lv_room (Nat.le_of_ble_eq_true rfl)) d_law_568 ⟨hcB, hsB⟩) hS (fun q _ h => hF1 q h) hF1 (fun r568 σ568 t H locs ht hvm hpost hB hz1 hk1 hS => ?_)
      obtain ⟨e1, e2⟩ := hpost
      subst e1
      subst e2
      obtain ⟨hP1, hK1, hD1⟩ := hB
      rw [ht] at hP1
      have hP := fr (ap_mx hD) hk1 hP
      have hPo := fr (ap_mo hD) hk1 hPo
      have hPm := hP1
      have hD := D_3 hD (σ' := σ) (μ' := σ568) (f' := f)
      refine lv_pop hx hb d_law_571 rfl ?_
      refine lv_goto (tgt := 725) hx hb d_law_572 (by decide) ?_
      exact KF _ _ _ _ ⟨σ, σ568, f, i, rfl, hM, lv_sub hl [0, 1, 2, 3, 4] rfl, hP, hPm, hPo, hD, hS⟩
    rw [if_neg hw_14] at hM
    by_cases hw_15 : (xs i.toNatClampNeg &&& 31) = 15
    · rw [if_pos hw_15, m_case_15] at hM
      refine lv_tableIn (tgt := 575) (off := 526) hx hb d_law_49 (by rw [hw_15]; decide) (by rw [hw_15]; decide) (by rw [hw_15]; decide) (by decide) ?_
      refine W.widen (k := 600000 - n33) (n := 7290000 - 6 * n33) (by omega) (by omega) ?_
      refine lv_aload_n hx hb d_law_575 rfl (lv_at hl 1 rfl) ?_
      refine lv_aload_n hx hb d_law_576 rfl (lv_at hl 0 rfl) ?_
      refine lv_iload hx hb d_law_577 (lv_at hl 4 rfl) ?_
      refine lv_iconst (v := 1) hx hb d_law_579 (by decide) ?_
      refine lv_iadd hx hb d_law_580 ?_
      have hg581 := gd_c hM
      have hM := gd_v hM
      refine va_sld hx hb hX hbl (Nat.not_le.mpr hbl) hS (inb_in hg581) d_law_581 ?_
      obtain ⟨x582, y582, hq582, hM⟩ := bI_some hM
      refine va_calli (va_runV (As := [.int (xs (i + 1).toNatClampNeg)]) (rest := []) ⟨hx, hb, hml, hown, hts⟩ (c_O_memory l dC dI ad cs _ N σ (xs (i + 1).toNatClampNeg) hq582) (cwV 1 hts (goodVW k_281 k_282 k_283 k_1 k_284) rfl rfl rfl ⟨rfl, by decide, by decide, by decide +kernel⟩ ⟨Nat.le_of_ble_eq_true rfl, Nat.le_of_ble_eq_true rfl⟩) ⟨blindX, va_recv hK hP rfl g_O, payX hP hK (D_left hD) hN⟩ rfl rfl hl.1 rfl (lv_room (Nat.le_of_ble_eq_true rfl)) d_law_582 ⟨hcB, hsB⟩) hS (fun q h0 h => absurd h0 (Nat.not_lt.mpr h)) (fun q h => hA q (Nat.le_trans hS.1 h)) (fun r582 u t H locs ht hvm hpost hB hz1 hk1 hS => ?_)
      obtain ⟨e1, e2⟩ := hpost
      subst e1
      subst e2
      have hP := keepP hP hk1
      have hPm := keepP hPm hk1
      have hPo := keepP hPo hk1
      refine lv_pop hx hb d_law_585 rfl ?_
      refine lv_aload_n hx hb d_law_586 rfl (lv_at hl 2 rfl) ?_
      refine lv_aload_n hx hb d_law_587 rfl (lv_at hl 0 rfl) ?_
      refine lv_iload hx hb d_law_588 (lv_at hl 4 rfl) ?_
      refine lv_iconst (v := 1) hx hb d_law_590 (by decide) ?_
      refine lv_iadd hx hb d_law_591 ?_
      have hg592 := gd_c hM
      have hM := gd_v hM
      refine va_sld hx hb hX hbl (Nat.not_le.mpr hbl) hS (inb_in hg592) d_law_592 ?_
      have hF1 := free_all (D_left (D_right hD)) hS hA
      obtain ⟨x593, y593, hq593, hM⟩ := bI_some hM
      refine va_calli (va_runV (As := [.int (xs (i + 1).toNatClampNeg)]) (rest := []) ⟨hx, hb, hml, hown, hts⟩ (c_M_memory l dC dI bd cs _ N μ (xs (i + 1).toNatClampNeg) hq593) (cwV 1 hts (goodVW k_866 k_867 k_868 k_8 k_869) rfl rfl rfl ⟨rfl, by decide, by decide, by decide +kernel⟩ ⟨Nat.le_of_ble_eq_true rfl, Nat.le_of_ble_eq_true rfl⟩) ⟨blindM, va_recv hK hPm rfl g_M, payM hPm hK (D_left (D_right hD)) hN⟩ rfl rfl hl.1 rfl (lv_room (Nat.le_of_ble_eq_true rfl)) d_law_593 ⟨hcB, hsB⟩) hS (fun q _ h => hF1 q h) hF1 (fun r593 σ593 t H locs ht hvm hpost hB hz1 hk1 hS => ?_)
      obtain ⟨e1, e2⟩ := hpost
      subst e1
      subst e2
      obtain ⟨hP1, hK1, hD1⟩ := hB
      rw [ht] at hP1
      have hP := fr (ap_mx hD) hk1 hP
      have hPo := fr (ap_mo hD) hk1 hPo
      have hPm := hP1
      have hD := D_3 hD (σ' := σ) (μ' := σ593) (f' := f)
      refine lv_pop hx hb d_law_596 rfl ?_
      refine lv_goto (tgt := 725) hx hb d_law_597 (by decide) ?_
      exact KF _ _ _ _ ⟨σ, σ593, f, i, rfl, hM, lv_sub hl [0, 1, 2, 3, 4] rfl, hP, hPm, hPo, hD, hS⟩
    rw [if_neg hw_15] at hM
    by_cases hw_16 : (xs i.toNatClampNeg &&& 31) = 16
    · rw [if_pos hw_16, m_case_16] at hM
      refine lv_tableIn (tgt := 600) (off := 551) hx hb d_law_49 (by rw [hw_16]; decide) (by rw [hw_16]; decide) (by rw [hw_16]; decide) (by decide) ?_
      refine W.widen (k := 600000 - n33) (n := 7290000 - 6 * n33) (by omega) (by omega) ?_
      refine lv_aload_n hx hb d_law_600 rfl (lv_at hl 1 rfl) ?_
      obtain ⟨x601, y601, hq601, hM⟩ := bI_some hM
      refine va_calli (va_runV (As := []) (rest := []) ⟨hx, hb, hml, hown, hts⟩ (c_O_written l dC dI ad cs _ N σ hq601) (cwV 0 hts (goodVW k_289 k_290 k_291 k_1 k_292) rfl rfl rfl ⟨rfl, by decide, by decide, by decide +kernel⟩ ⟨Nat.le_of_ble_eq_true rfl, Nat.le_of_ble_eq_true rfl⟩) ⟨blindX, va_recv hK hP rfl g_O, payX hP hK (D_left hD) hN⟩ rfl rfl hl.1 rfl (lv_room (Nat.le_of_ble_eq_true rfl)) d_law_601 ⟨hcB, hsB⟩) hS (fun q h0 h => absurd h0 (Nat.not_lt.mpr h)) (fun q h => hA q (Nat.le_trans hS.1 h)) (fun r601 u t H locs ht hvm hpost hB hz1 hk1 hS => ?_)
      obtain ⟨e1, e2⟩ := hpost
      subst e1
      subst e2
      have hP := keepP hP hk1
      have hPm := keepP hPm hk1
      have hPo := keepP hPo hk1
      refine lv_pop hx hb d_law_604 rfl ?_
      refine lv_aload_n hx hb d_law_605 rfl (lv_at hl 2 rfl) ?_
      have hF1 := free_all (D_left (D_right hD)) hS hA
      obtain ⟨x606, y606, hq606, hM⟩ := bI_some hM
      refine va_calli (va_runV (As := []) (rest := []) ⟨hx, hb, hml, hown, hts⟩ (c_M_written l dC dI bd cs _ N μ hq606) (cwV 0 hts (goodVW k_870 k_871 k_872 k_8 k_873) rfl rfl rfl ⟨rfl, by decide, by decide, by decide +kernel⟩ ⟨Nat.le_of_ble_eq_true rfl, Nat.le_of_ble_eq_true rfl⟩) ⟨blindM, va_recv hK hPm rfl g_M, payM hPm hK (D_left (D_right hD)) hN⟩ rfl rfl hl.1 rfl (lv_room (Nat.le_of_ble_eq_true rfl)) d_law_606 ⟨hcB, hsB⟩) hS (fun q _ h => hF1 q h) hF1 (fun r606 σ606 t H locs ht hvm hpost hB hz1 hk1 hS => ?_)
      obtain ⟨e1, e2⟩ := hpost
      subst e1
      subst e2
      obtain ⟨hP1, hK1, hD1⟩ := hB
      rw [ht] at hP1
      have hP := fr (ap_mx hD) hk1 hP
      have hPo := fr (ap_mo hD) hk1 hPo
      have hPm := hP1
      have hD := D_3 hD (σ' := σ) (μ' := σ606) (f' := f)
      refine lv_pop hx hb d_law_609 rfl ?_
      refine lv_goto (tgt := 725) hx hb d_law_610 (by decide) ?_
      exact KF _ _ _ _ ⟨σ, σ606, f, i, rfl, hM, lv_sub hl [0, 1, 2, 3, 4] rfl, hP, hPm, hPo, hD, hS⟩
    rw [if_neg hw_16] at hM
    by_cases hw_17 : (xs i.toNatClampNeg &&& 31) = 17
    · rw [if_pos hw_17, m_case_17] at hM
      refine lv_tableIn (tgt := 613) (off := 564) hx hb d_law_49 (by rw [hw_17]; decide) (by rw [hw_17]; decide) (by rw [hw_17]; decide) (by decide) ?_
      refine W.widen (k := 600000 - n33) (n := 7290000 - 6 * n33) (by omega) (by omega) ?_
      refine lv_aload_n hx hb d_law_613 rfl (lv_at hl 1 rfl) ?_
      obtain ⟨x614, y614, hq614, hM⟩ := bI_some hM
      refine va_calli (va_runV (As := []) (rest := []) ⟨hx, hb, hml, hown, hts⟩ (c_O_broken l dC dI ad cs _ N σ hq614) (cwV 0 hts (goodVW k_297 k_298 k_299 k_1 k_300) rfl rfl rfl ⟨rfl, by decide, by decide, by decide +kernel⟩ ⟨Nat.le_of_ble_eq_true rfl, Nat.le_of_ble_eq_true rfl⟩) ⟨blindX, va_recv hK hP rfl g_O, payX hP hK (D_left hD) hN⟩ rfl rfl hl.1 rfl (lv_room (Nat.le_of_ble_eq_true rfl)) d_law_614 ⟨hcB, hsB⟩) hS (fun q h0 h => absurd h0 (Nat.not_lt.mpr h)) (fun q h => hA q (Nat.le_trans hS.1 h)) (fun r614 u t H locs ht hvm hpost hB hz1 hk1 hS => ?_)
      obtain ⟨e1, e2⟩ := hpost
      subst e1
      subst e2
      have hP := keepP hP hk1
      have hPm := keepP hPm hk1
      have hPo := keepP hPo hk1
      refine lv_pop hx hb d_law_617 rfl ?_
      refine lv_aload_n hx hb d_law_618 rfl (lv_at hl 2 rfl) ?_
      have hF1 := free_all (D_left (D_right hD)) hS hA
      obtain ⟨x619, y619, hq619, hM⟩ := bI_some hM
      refine va_calli (va_runV (As := []) (rest := []) ⟨hx, hb, hml, hown, hts⟩ (c_M_broken l dC dI bd cs _ N μ hq619) (cwV 0 hts (goodVW k_874 k_875 k_876 k_8 k_877) rfl rfl rfl ⟨rfl, by decide, by decide, by decide +kernel⟩ ⟨Nat.le_of_ble_eq_true rfl, Nat.le_of_ble_eq_true rfl⟩) ⟨blindM, va_recv hK hPm rfl g_M, payM hPm hK (D_left (D_right hD)) hN⟩ rfl rfl hl.1 rfl (lv_room (Nat.le_of_ble_eq_true rfl)) d_law_619 ⟨hcB, hsB⟩) hS (fun q _ h => hF1 q h) hF1 (fun r619 σ619 t H locs ht hvm hpost hB hz1 hk1 hS => ?_)
      obtain ⟨e1, e2⟩ := hpost
      subst e1
      subst e2
      obtain ⟨hP1, hK1, hD1⟩ := hB
      rw [ht] at hP1
      have hP := fr (ap_mx hD) hk1 hP
      have hPo := fr (ap_mo hD) hk1 hPo
      have hPm := hP1
      have hD := D_3 hD (σ' := σ) (μ' := σ619) (f' := f)
      refine lv_pop hx hb d_law_622 rfl ?_
      refine lv_goto (tgt := 725) hx hb d_law_623 (by decide) ?_
      exact KF _ _ _ _ ⟨σ, σ619, f, i, rfl, hM, lv_sub hl [0, 1, 2, 3, 4] rfl, hP, hPm, hPo, hD, hS⟩
    rw [if_neg hw_17] at hM
    by_cases hw_18 : (xs i.toNatClampNeg &&& 31) = 18
    · rw [if_pos hw_18, m_case_18] at hM
      refine lv_tableIn (tgt := 626) (off := 577) hx hb d_law_49 (by rw [hw_18]; decide) (by rw [hw_18]; decide) (by rw [hw_18]; decide) (by decide) ?_
      refine W.widen (k := 600000 - n33) (n := 7290000 - 6 * n33) (by omega) (by omega) ?_
      refine lv_aload_n hx hb d_law_626 rfl (lv_at hl 1 rfl) ?_
      refine lv_aload_n hx hb d_law_627 rfl (lv_at hl 0 rfl) ?_
      refine lv_iload hx hb d_law_628 (lv_at hl 4 rfl) ?_
      refine lv_iconst (v := 1) hx hb d_law_630 (by decide) ?_
      refine lv_iadd hx hb d_law_631 ?_
      have hg632 := gd_c hM
      have hM := gd_v hM
      refine va_sld hx hb hX hbl (Nat.not_le.mpr hbl) hS (inb_in hg632) d_law_632 ?_
      obtain ⟨x633, y633, hq633, hM⟩ := bI_some hM
      refine va_calli (va_runV (As := [.int (xs (i + 1).toNatClampNeg)]) (rest := []) ⟨hx, hb, hml, hown, hts⟩ (c_O_sorted l dC dI ad cs _ N σ (xs (i + 1).toNatClampNeg) hq633) (cwV 1 hts (goodVW k_301 k_302 k_303 k_1 k_304) rfl rfl rfl ⟨rfl, by decide, by decide, by decide +kernel⟩ ⟨Nat.le_of_ble_eq_true rfl, Nat.le_of_ble_eq_true rfl⟩) ⟨blindX, va_recv hK hP rfl g_O, payX hP hK (D_left hD) hN⟩ rfl rfl hl.1 rfl (lv_room (Nat.le_of_ble_eq_true rfl)) d_law_633 ⟨hcB, hsB⟩) hS (fun q h0 h => absurd h0 (Nat.not_lt.mpr h)) (fun q h => hA q (Nat.le_trans hS.1 h)) (fun r633 u t H locs ht hvm hpost hB hz1 hk1 hS => ?_)
      obtain ⟨e1, e2⟩ := hpost
      subst e1
      subst e2
      have hP := keepP hP hk1
      have hPm := keepP hPm hk1
      have hPo := keepP hPo hk1
      refine lv_pop hx hb d_law_636 rfl ?_
      refine lv_aload_n hx hb d_law_637 rfl (lv_at hl 2 rfl) ?_
      refine lv_aload_n hx hb d_law_638 rfl (lv_at hl 0 rfl) ?_
      refine lv_iload hx hb d_law_639 (lv_at hl 4 rfl) ?_
      refine lv_iconst (v := 1) hx hb d_law_641 (by decide) ?_
      refine lv_iadd hx hb d_law_642 ?_
      have hg643 := gd_c hM
      have hM := gd_v hM
      refine va_sld hx hb hX hbl (Nat.not_le.mpr hbl) hS (inb_in hg643) d_law_643 ?_
      have hF1 := free_all (D_left (D_right hD)) hS hA
      obtain ⟨x644, y644, hq644, hM⟩ := bI_some hM
      refine va_calli (va_runV (As := [.int (xs (i + 1).toNatClampNeg)]) (rest := []) ⟨hx, hb, hml, hown, hts⟩ (c_M_sorted l dC dI bd cs _ N μ (xs (i + 1).toNatClampNeg) hq644) (cwV 1 hts (goodVW k_878 k_879 k_880 k_8 k_881) rfl rfl rfl ⟨rfl, by decide, by decide, by decide +kernel⟩ ⟨Nat.le_of_ble_eq_true rfl, Nat.le_of_ble_eq_true rfl⟩) ⟨blindM, va_recv hK hPm rfl g_M, payM hPm hK (D_left (D_right hD)) hN⟩ rfl rfl hl.1 rfl (lv_room (Nat.le_of_ble_eq_true rfl)) d_law_644 ⟨hcB, hsB⟩) hS (fun q _ h => hF1 q h) hF1 (fun r644 σ644 t H locs ht hvm hpost hB hz1 hk1 hS => ?_)
      obtain ⟨e1, e2⟩ := hpost
      subst e1
      subst e2
      obtain ⟨hP1, hK1, hD1⟩ := hB
      rw [ht] at hP1
      have hP := fr (ap_mx hD) hk1 hP
      have hPo := fr (ap_mo hD) hk1 hPo
      have hPm := hP1
      have hD := D_3 hD (σ' := σ) (μ' := σ644) (f' := f)
      refine lv_pop hx hb d_law_647 rfl ?_
      refine lv_goto (tgt := 725) hx hb d_law_648 (by decide) ?_
      exact KF _ _ _ _ ⟨σ, σ644, f, i, rfl, hM, lv_sub hl [0, 1, 2, 3, 4] rfl, hP, hPm, hPo, hD, hS⟩
    rw [if_neg hw_18] at hM
    by_cases hw_19 : (xs i.toNatClampNeg &&& 31) = 19
    · rw [if_pos hw_19, m_case_19] at hM
      refine lv_tableIn (tgt := 651) (off := 602) hx hb d_law_49 (by rw [hw_19]; decide) (by rw [hw_19]; decide) (by rw [hw_19]; decide) (by decide) ?_
      refine W.widen (k := 600000 - n33) (n := 7290000 - 6 * n33) (by omega) (by omega) ?_
      refine lv_aload_n hx hb d_law_651 rfl (lv_at hl 1 rfl) ?_
      refine lv_aload_n hx hb d_law_652 rfl (lv_at hl 0 rfl) ?_
      refine lv_iload hx hb d_law_653 (lv_at hl 4 rfl) ?_
      refine lv_iconst (v := 1) hx hb d_law_655 (by decide) ?_
      refine lv_iadd hx hb d_law_656 ?_
      have hg657 := gd_c hM
      have hM := gd_v hM
      refine va_sld hx hb hX hbl (Nat.not_le.mpr hbl) hS (inb_in hg657) d_law_657 ?_
      refine lv_aload_n hx hb d_law_658 rfl (lv_at hl 0 rfl) ?_
      refine lv_iload hx hb d_law_659 (lv_at hl 4 rfl) ?_
      refine lv_iconst (v := 2) hx hb d_law_661 (by decide) ?_
      refine lv_iadd hx hb d_law_662 ?_
      have hg663 := gd_c hM
      have hM := gd_v hM
      refine va_sld hx hb hX hbl (Nat.not_le.mpr hbl) hS (inb_in hg663) d_law_663 ?_
      obtain ⟨x664, y664, hq664, hM⟩ := bI_some hM
      refine va_calli (va_runV (As := [.int (xs (i + 1).toNatClampNeg), .int (xs (i + 2).toNatClampNeg)]) (rest := []) ⟨hx, hb, hml, hown, hts⟩ (c_O_compare l dC dI ad cs _ N σ (xs (i + 1).toNatClampNeg) (xs (i + 2).toNatClampNeg) hq664) (cwV 2 hts (goodVW k_309 k_310 k_311 k_1 k_312) rfl rfl rfl ⟨rfl, by decide, by decide, by decide +kernel⟩ ⟨Nat.le_of_ble_eq_true rfl, Nat.le_of_ble_eq_true rfl⟩) ⟨blindX, va_recv hK hP rfl g_O, payX hP hK (D_left hD) hN⟩ rfl rfl hl.1 rfl (lv_room (Nat.le_of_ble_eq_true rfl)) d_law_664 ⟨hcB, hsB⟩) hS (fun q h0 h => absurd h0 (Nat.not_lt.mpr h)) (fun q h => hA q (Nat.le_trans hS.1 h)) (fun r664 u t H locs ht hvm hpost hB hz1 hk1 hS => ?_)
      obtain ⟨e1, e2⟩ := hpost
      subst e1
      subst e2
      have hP := keepP hP hk1
      have hPm := keepP hPm hk1
      have hPo := keepP hPo hk1
      refine lv_pop hx hb d_law_667 rfl ?_
      refine lv_aload_n hx hb d_law_668 rfl (lv_at hl 2 rfl) ?_
      refine lv_aload_n hx hb d_law_669 rfl (lv_at hl 0 rfl) ?_
      refine lv_iload hx hb d_law_670 (lv_at hl 4 rfl) ?_
      refine lv_iconst (v := 1) hx hb d_law_672 (by decide) ?_
      refine lv_iadd hx hb d_law_673 ?_
      have hg674 := gd_c hM
      have hM := gd_v hM
      refine va_sld hx hb hX hbl (Nat.not_le.mpr hbl) hS (inb_in hg674) d_law_674 ?_
      refine lv_aload_n hx hb d_law_675 rfl (lv_at hl 0 rfl) ?_
      refine lv_iload hx hb d_law_676 (lv_at hl 4 rfl) ?_
      refine lv_iconst (v := 2) hx hb d_law_678 (by decide) ?_
      refine lv_iadd hx hb d_law_679 ?_
      have hg680 := gd_c hM
      have hM := gd_v hM
      refine va_sld hx hb hX hbl (Nat.not_le.mpr hbl) hS (inb_in hg680) d_law_680 ?_
      have hF1 := free_all (D_left (D_right hD)) hS hA
      obtain ⟨x681, y681, hq681, hM⟩ := bI_some hM
      refine va_calli (va_runV (As := [.int (xs (i + 1).toNatClampNeg), .int (xs (i + 2).toNatClampNeg)]) (rest := []) ⟨hx, hb, hml, hown, hts⟩ (c_M_compare l dC dI bd cs _ N μ (xs (i + 1).toNatClampNeg) (xs (i + 2).toNatClampNeg) hq681) (cwV 2 hts (goodVW k_731 k_732 k_733 k_8 k_734) rfl rfl rfl ⟨rfl, by decide, by decide, by decide +kernel⟩ ⟨Nat.le_of_ble_eq_true rfl, Nat.le_of_ble_eq_true rfl⟩) ⟨blindM, va_recv hK hPm rfl g_M, payM hPm hK (D_left (D_right hD)) hN⟩ rfl rfl hl.1 rfl (lv_room (Nat.le_of_ble_eq_true rfl)) d_law_681 ⟨hcB, hsB⟩) hS (fun q _ h => hF1 q h) hF1 (fun r681 σ681 t H locs ht hvm hpost hB hz1 hk1 hS => ?_)
      obtain ⟨e1, e2⟩ := hpost
      subst e1
      subst e2
      obtain ⟨hP1, hK1, hD1⟩ := hB
      rw [ht] at hP1
      have hP := fr (ap_mx hD) hk1 hP
      have hPo := fr (ap_mo hD) hk1 hPo
      have hPm := hP1
      have hD := D_3 hD (σ' := σ) (μ' := σ681) (f' := f)
      refine lv_pop hx hb d_law_684 rfl ?_
      refine lv_goto (tgt := 725) hx hb d_law_685 (by decide) ?_
      exact KF _ _ _ _ ⟨σ, σ681, f, i, rfl, hM, lv_sub hl [0, 1, 2, 3, 4] rfl, hP, hPm, hPo, hD, hS⟩
    rw [if_neg hw_19] at hM
    by_cases hw_20 : (xs i.toNatClampNeg &&& 31) = 20
    · rw [if_pos hw_20, m_case_20] at hM
      refine lv_tableIn (tgt := 688) (off := 639) hx hb d_law_49 (by rw [hw_20]; decide) (by rw [hw_20]; decide) (by rw [hw_20]; decide) (by decide) ?_
      refine W.widen (k := 600000 - n33) (n := 7290000 - 6 * n33) (by omega) (by omega) ?_
      refine lv_aload_n hx hb d_law_688 rfl (lv_at hl 1 rfl) ?_
      refine lv_aload_n hx hb d_law_689 rfl (lv_at hl 0 rfl) ?_
      refine lv_iload hx hb d_law_690 (lv_at hl 4 rfl) ?_
      refine lv_iconst (v := 1) hx hb d_law_692 (by decide) ?_
      refine lv_iadd hx hb d_law_693 ?_
      have hg694 := gd_c hM
      have hM := gd_v hM
      refine va_sld hx hb hX hbl (Nat.not_le.mpr hbl) hS (inb_in hg694) d_law_694 ?_
      refine lv_aload_n hx hb d_law_695 rfl (lv_at hl 0 rfl) ?_
      refine lv_iload hx hb d_law_696 (lv_at hl 4 rfl) ?_
      refine lv_iconst (v := 2) hx hb d_law_698 (by decide) ?_
      refine lv_iadd hx hb d_law_699 ?_
      have hg700 := gd_c hM
      have hM := gd_v hM
      refine va_sld hx hb hX hbl (Nat.not_le.mpr hbl) hS (inb_in hg700) d_law_700 ?_
      obtain ⟨x701, y701, hq701, hM⟩ := bI_some hM
      refine va_calli (va_runV (As := [.int (xs (i + 1).toNatClampNeg), .int (xs (i + 2).toNatClampNeg)]) (rest := []) ⟨hx, hb, hml, hown, hts⟩ (c_O_field l dC dI ad cs _ N σ (xs (i + 1).toNatClampNeg) (xs (i + 2).toNatClampNeg) hq701) (cwV 2 hts (goodVW k_333 k_334 k_335 k_1 k_336) rfl rfl rfl ⟨rfl, by decide, by decide, by decide +kernel⟩ ⟨Nat.le_of_ble_eq_true rfl, Nat.le_of_ble_eq_true rfl⟩) ⟨blindX, va_recv hK hP rfl g_O, payX hP hK (D_left hD) hN⟩ rfl rfl hl.1 rfl (lv_room (Nat.le_of_ble_eq_true rfl)) d_law_701 ⟨hcB, hsB⟩) hS (fun q h0 h => absurd h0 (Nat.not_lt.mpr h)) (fun q h => hA q (Nat.le_trans hS.1 h)) (fun r701 u t H locs ht hvm hpost hB hz1 hk1 hS => ?_)
      obtain ⟨e1, e2⟩ := hpost
      subst e1
      subst e2
      have hP := keepP hP hk1
      have hPm := keepP hPm hk1
      have hPo := keepP hPo hk1
      refine lv_pop hx hb d_law_704 rfl ?_
      refine lv_aload_n hx hb d_law_705 rfl (lv_at hl 2 rfl) ?_
      refine lv_aload_n hx hb d_law_706 rfl (lv_at hl 0 rfl) ?_
      refine lv_iload hx hb d_law_707 (lv_at hl 4 rfl) ?_
      refine lv_iconst (v := 1) hx hb d_law_709 (by decide) ?_
      refine lv_iadd hx hb d_law_710 ?_
      have hg711 := gd_c hM
      have hM := gd_v hM
      refine va_sld hx hb hX hbl (Nat.not_le.mpr hbl) hS (inb_in hg711) d_law_711 ?_
      refine lv_aload_n hx hb d_law_712 rfl (lv_at hl 0 rfl) ?_
      refine lv_iload hx hb d_law_713 (lv_at hl 4 rfl) ?_
      refine lv_iconst (v := 2) hx hb d_law_715 (by decide) ?_
      refine lv_iadd hx hb d_law_716 ?_
      have hg717 := gd_c hM
      have hM := gd_v hM
      refine va_sld hx hb hX hbl (Nat.not_le.mpr hbl) hS (inb_in hg717) d_law_717 ?_
      have hF1 := free_all (D_left (D_right hD)) hS hA
      obtain ⟨x718, y718, hq718, hM⟩ := bI_some hM
      refine va_calli (va_runV (As := [.int (xs (i + 1).toNatClampNeg), .int (xs (i + 2).toNatClampNeg)]) (rest := []) ⟨hx, hb, hml, hown, hts⟩ (c_M_field l dC dI bd cs _ N μ (xs (i + 1).toNatClampNeg) (xs (i + 2).toNatClampNeg) hq718) (cwV 2 hts (goodVW k_747 k_748 k_749 k_8 k_750) rfl rfl rfl ⟨rfl, by decide, by decide, by decide +kernel⟩ ⟨Nat.le_of_ble_eq_true rfl, Nat.le_of_ble_eq_true rfl⟩) ⟨blindM, va_recv hK hPm rfl g_M, payM hPm hK (D_left (D_right hD)) hN⟩ rfl rfl hl.1 rfl (lv_room (Nat.le_of_ble_eq_true rfl)) d_law_718 ⟨hcB, hsB⟩) hS (fun q _ h => hF1 q h) hF1 (fun r718 σ718 t H locs ht hvm hpost hB hz1 hk1 hS => ?_)
      obtain ⟨e1, e2⟩ := hpost
      subst e1
      subst e2
      obtain ⟨hP1, hK1, hD1⟩ := hB
      rw [ht] at hP1
      have hP := fr (ap_mx hD) hk1 hP
      have hPo := fr (ap_mo hD) hk1 hPo
      have hPm := hP1
      have hD := D_3 hD (σ' := σ) (μ' := σ718) (f' := f)
      refine lv_pop hx hb d_law_721 rfl ?_
      refine lv_goto (tgt := 725) hx hb d_law_722 (by decide) ?_
      exact KF _ _ _ _ ⟨σ, σ718, f, i, rfl, hM, lv_sub hl [0, 1, 2, 3, 4] rfl, hP, hPm, hPo, hD, hS⟩
    rw [if_neg hw_20] at hM
    rw [m_case_default] at hM
    refine lv_tableOut (tgt := 725) hx hb d_law_49 (sw_outL hw_0 hw_1 hw_2 hw_3 hw_4 hw_5 hw_6 hw_7 hw_8 hw_9 hw_10 hw_11 hw_12 hw_13 hw_14 hw_15 hw_16 hw_17 hw_18 hw_19 hw_20) (by decide) ?_
    refine W.widen (k := 600000 - n33) (n := 7290000 - 6 * n33) (by omega) (by omega) ?_
    exact KF _ _ _ _ ⟨σ, μ, f, i, rfl, hM, lv_sub hl [0, 1, 2, 3, 4] rfl, hP, hPm, hPo, hD, hS⟩
