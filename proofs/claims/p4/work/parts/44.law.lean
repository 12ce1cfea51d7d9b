def m_case_0 (N : Nat) (xs : Nat → Int32) (L : Nat) (k33 : SX → SX → (Nat → Int64) → Int32 → Option Unit) (σ μ : SX) (f : Nat → Int64) (i : Int32) : Option Unit :=
  (if inb (i + 1) L = true then (if inb (i + 2) L = true then (bH (m_L_card N σ f (xs (i + 1).toNatClampNeg) (xs (i + 2).toNatClampNeg)) fun r162 y162 z162 => (if inb (i + 1) L = true then (if inb (i + 2) L = true then (bI (m_M_card N μ (xs (i + 1).toNatClampNeg) (xs (i + 2).toNatClampNeg)) fun r180 σ180 => k33 y162 σ180 z162 i) else none) else none)) else none) else none)

def m_case_1 (N : Nat) (xs : Nat → Int32) (L : Nat) (k33 : SX → SX → (Nat → Int64) → Int32 → Option Unit) (σ μ : SX) (f : Nat → Int64) (i : Int32) : Option Unit :=
  (if inb (i + 1) L = true then (if inb (i + 2) L = true then (bH (m_L_part N σ f (xs (i + 1).toNatClampNeg) (xs (i + 2).toNatClampNeg)) fun r202 y202 z202 => (if inb (i + 1) L = true then (if inb (i + 2) L = true then (bI (m_M_part N μ (xs (i + 1).toNatClampNeg) (xs (i + 2).toNatClampNeg)) fun r220 σ220 => k33 y202 σ220 z202 i) else none) else none)) else none) else none)

def m_case_2 (N : Nat) (xs : Nat → Int32) (L : Nat) (k33 : SX → SX → (Nat → Int64) → Int32 → Option Unit) (σ μ : SX) (f : Nat → Int64) (i : Int32) : Option Unit :=
  (bH (m_L_start N σ f) fun r229 y229 z229 => (bV (m_M_start N μ) fun σ235 => (bI (m_M_thrown N σ235) fun r239 _ => (if r239 = r229 then k33 y229 σ235 z229 i else none))))

def m_case_3 (N : Nat) (xs : Nat → Int32) (L : Nat) (k33 : SX → SX → (Nat → Int64) → Int32 → Option Unit) (σ μ : SX) (f : Nat → Int64) (i : Int32) : Option Unit :=
  (bI (m_O_clear N σ) fun r253 σ253 => (bI (m_M_clear N μ) fun r258 σ258 => k33 σ253 σ258 f i))

def m_case_4 (N : Nat) (xs : Nat → Int32) (L : Nat) (k33 : SX → SX → (Nat → Int64) → Int32 → Option Unit) (σ μ : SX) (f : Nat → Int64) (i : Int32) : Option Unit :=
  (if inb (i + 1) L = true then (bH (m_L_step N σ f (xs (i + 1).toNatClampNeg)) fun r273 y273 z273 => (if inb (i + 1) L = true then (bI (m_M_step N μ (xs (i + 1).toNatClampNeg)) fun r285 σ285 => k33 y273 σ285 z273 i) else none)) else none)

def m_case_5 (N : Nat) (xs : Nat → Int32) (L : Nat) (k33 : SX → SX → (Nat → Int64) → Int32 → Option Unit) (σ μ : SX) (f : Nat → Int64) (i : Int32) : Option Unit :=
  (if inb (i + 1) L = true then (if inb (i + 2) L = true then (bH (m_L_fault N σ f (xs (i + 1).toNatClampNeg) (xs (i + 2).toNatClampNeg)) fun r307 y307 z307 => (if inb (i + 1) L = true then (if inb (i + 2) L = true then (bI (m_M_fault N μ (xs (i + 1).toNatClampNeg) (xs (i + 2).toNatClampNeg)) fun r325 σ325 => k33 y307 σ325 z307 i) else none) else none)) else none) else none)

def m_case_6 (N : Nat) (xs : Nat → Int32) (L : Nat) (k33 : SX → SX → (Nat → Int64) → Int32 → Option Unit) (σ μ : SX) (f : Nat → Int64) (i : Int32) : Option Unit :=
  (if inb (i + 1) L = true then (bI (m_O_cutAfter N σ (xs (i + 1).toNatClampNeg)) fun r340 σ340 => (if inb (i + 1) L = true then (bI (m_M_cutAfter N μ (xs (i + 1).toNatClampNeg)) fun r351 σ351 => k33 σ340 σ351 f i) else none)) else none)

def m_case_7 (N : Nat) (xs : Nat → Int32) (L : Nat) (k33 : SX → SX → (Nat → Int64) → Int32 → Option Unit) (σ μ : SX) (f : Nat → Int64) (i : Int32) : Option Unit :=
  (bI (m_O_resume N σ) fun r359 σ359 => (bI (m_M_resume N μ) fun r364 σ364 => k33 σ359 σ364 f i))

def m_case_8 (N : Nat) (xs : Nat → Int32) (L : Nat) (k33 : SX → SX → (Nat → Int64) → Int32 → Option Unit) (σ μ : SX) (f : Nat → Int64) (i : Int32) : Option Unit :=
  (bI (m_O_phase N σ) fun r372 _ => (bI (m_M_phase N μ) fun r377 σ377 => k33 σ σ377 f i))

def m_case_9 (N : Nat) (xs : Nat → Int32) (L : Nat) (k33 : SX → SX → (Nat → Int64) → Int32 → Option Unit) (σ μ : SX) (f : Nat → Int64) (i : Int32) : Option Unit :=
  (bI (m_O_level N σ) fun r385 _ => (bI (m_M_level N μ) fun r390 σ390 => k33 σ σ390 f i))

def m_case_10 (N : Nat) (xs : Nat → Int32) (L : Nat) (k33 : SX → SX → (Nat → Int64) → Int32 → Option Unit) (σ μ : SX) (f : Nat → Int64) (i : Int32) : Option Unit :=
  (if inb (i + 1) L = true then (bI (m_O_runs N σ (xs (i + 1).toNatClampNeg)) fun r404 _ => (if inb (i + 1) L = true then (bI (m_M_runs N μ (xs (i + 1).toNatClampNeg)) fun r415 σ415 => k33 σ σ415 f i) else none)) else none)

def m_case_11 (N : Nat) (xs : Nat → Int32) (L : Nat) (k33 : SX → SX → (Nat → Int64) → Int32 → Option Unit) (σ μ : SX) (f : Nat → Int64) (i : Int32) : Option Unit :=
  (if inb (i + 1) L = true then (bI (m_O_dummies N σ (xs (i + 1).toNatClampNeg)) fun r429 _ => (if inb (i + 1) L = true then (bI (m_M_dummies N μ (xs (i + 1).toNatClampNeg)) fun r440 σ440 => k33 σ σ440 f i) else none)) else none)

def m_case_12 (N : Nat) (xs : Nat → Int32) (L : Nat) (k33 : SX → SX → (Nat → Int64) → Int32 → Option Unit) (σ μ : SX) (f : Nat → Int64) (i : Int32) : Option Unit :=
  (if inb (i + 1) L = true then (bI (m_O_role N σ (xs (i + 1).toNatClampNeg)) fun r454 _ => (if inb (i + 1) L = true then (bI (m_M_role N μ (xs (i + 1).toNatClampNeg)) fun r465 σ465 => k33 σ σ465 f i) else none)) else none)

def m_case_13 (N : Nat) (xs : Nat → Int32) (L : Nat) (k33 : SX → SX → (Nat → Int64) → Int32 → Option Unit) (σ μ : SX) (f : Nat → Int64) (i : Int32) : Option Unit :=
  (if inb (i + 1) L = true then (if inb (i + 2) L = true then (bI (m_O_length N σ (xs (i + 1).toNatClampNeg) (xs (i + 2).toNatClampNeg)) fun r485 _ => (if inb (i + 1) L = true then (if inb (i + 2) L = true then (bI (m_M_length N μ (xs (i + 1).toNatClampNeg) (xs (i + 2).toNatClampNeg)) fun r502 σ502 => k33 σ σ502 f i) else none) else none)) else none) else none)

def m_case_14 (N : Nat) (xs : Nat → Int32) (L : Nat) (k33 : SX → SX → (Nat → Int64) → Int32 → Option Unit) (σ μ : SX) (f : Nat → Int64) (i : Int32) : Option Unit :=
  (if inb (i + 1) L = true then (if inb (i + 2) L = true then (if inb (i + 3) L = true then (bI (m_O_at N σ (xs (i + 1).toNatClampNeg) (xs (i + 2).toNatClampNeg) (xs (i + 3).toNatClampNeg)) fun r528 _ => (if inb (i + 1) L = true then (if inb (i + 2) L = true then (if inb (i + 3) L = true then (bI (m_M_at N μ (xs (i + 1).toNatClampNeg) (xs (i + 2).toNatClampNeg) (xs (i + 3).toNatClampNeg)) fun r551 σ551 => k33 σ σ551 f i) else none) else none) else none)) else none) else none) else none)

def m_case_15 (N : Nat) (xs : Nat → Int32) (L : Nat) (k33 : SX → SX → (Nat → Int64) → Int32 → Option Unit) (σ μ : SX) (f : Nat → Int64) (i : Int32) : Option Unit :=
  (if inb (i + 1) L = true then (bI (m_O_memory N σ (xs (i + 1).toNatClampNeg)) fun r565 _ => (if inb (i + 1) L = true then (bI (m_M_memory N μ (xs (i + 1).toNatClampNeg)) fun r576 σ576 => k33 σ σ576 f i) else none)) else none)

def m_case_16 (N : Nat) (xs : Nat → Int32) (L : Nat) (k33 : SX → SX → (Nat → Int64) → Int32 → Option Unit) (σ μ : SX) (f : Nat → Int64) (i : Int32) : Option Unit :=
  (bI (m_O_written N σ) fun r584 _ => (bI (m_M_written N μ) fun r589 σ589 => k33 σ σ589 f i))

def m_case_17 (N : Nat) (xs : Nat → Int32) (L : Nat) (k33 : SX → SX → (Nat → Int64) → Int32 → Option Unit) (σ μ : SX) (f : Nat → Int64) (i : Int32) : Option Unit :=
  (bI (m_O_broken N σ) fun r597 _ => (bI (m_M_broken N μ) fun r602 σ602 => k33 σ σ602 f i))

def m_case_18 (N : Nat) (xs : Nat → Int32) (L : Nat) (k33 : SX → SX → (Nat → Int64) → Int32 → Option Unit) (σ μ : SX) (f : Nat → Int64) (i : Int32) : Option Unit :=
  (if inb (i + 1) L = true then (bI (m_O_sorted N σ (xs (i + 1).toNatClampNeg)) fun r616 _ => (if inb (i + 1) L = true then (bI (m_M_sorted N μ (xs (i + 1).toNatClampNeg)) fun r627 σ627 => k33 σ σ627 f i) else none)) else none)

def m_case_19 (N : Nat) (xs : Nat → Int32) (L : Nat) (k33 : SX → SX → (Nat → Int64) → Int32 → Option Unit) (σ μ : SX) (f : Nat → Int64) (i : Int32) : Option Unit :=
  (if inb (i + 1) L = true then (if inb (i + 2) L = true then (bI (m_O_compare N σ (xs (i + 1).toNatClampNeg) (xs (i + 2).toNatClampNeg)) fun r647 _ => (if inb (i + 1) L = true then (if inb (i + 2) L = true then (bI (m_M_compare N μ (xs (i + 1).toNatClampNeg) (xs (i + 2).toNatClampNeg)) fun r664 σ664 => k33 σ σ664 f i) else none) else none)) else none) else none)

def m_case_20 (N : Nat) (xs : Nat → Int32) (L : Nat) (k33 : SX → SX → (Nat → Int64) → Int32 → Option Unit) (σ μ : SX) (f : Nat → Int64) (i : Int32) : Option Unit :=
  (if inb (i + 1) L = true then (if inb (i + 2) L = true then (bI (m_O_field N σ (xs (i + 1).toNatClampNeg) (xs (i + 2).toNatClampNeg)) fun r684 _ => (if inb (i + 1) L = true then (if inb (i + 2) L = true then (bI (m_M_field N μ (xs (i + 1).toNatClampNeg) (xs (i + 2).toNatClampNeg)) fun r701 σ701 => k33 σ σ701 f i) else none) else none)) else none) else none)

def m_case_default (N : Nat) (xs : Nat → Int32) (L : Nat) (k33 : SX → SX → (Nat → Int64) → Int32 → Option Unit) (σ μ : SX) (f : Nat → Int64) (i : Int32) : Option Unit :=
  k33 σ μ f i

def m_turn (N : Nat) (xs : Nat → Int32) (L : Nat) (k33 : SX → SX → (Nat → Int64) → Int32 → Option Unit) (σ μ : SX) (f : Nat → Int64) (i : Int32) : Option Unit :=
  (if inb i L = true then (if (xs i.toNatClampNeg &&& 31) = 0 then m_case_0 N xs L k33 σ μ f i else (if (xs i.toNatClampNeg &&& 31) = 1 then m_case_1 N xs L k33 σ μ f i else (if (xs i.toNatClampNeg &&& 31) = 2 then m_case_2 N xs L k33 σ μ f i else (if (xs i.toNatClampNeg &&& 31) = 3 then m_case_3 N xs L k33 σ μ f i else (if (xs i.toNatClampNeg &&& 31) = 4 then m_case_4 N xs L k33 σ μ f i else (if (xs i.toNatClampNeg &&& 31) = 5 then m_case_5 N xs L k33 σ μ f i else (if (xs i.toNatClampNeg &&& 31) = 6 then m_case_6 N xs L k33 σ μ f i else (if (xs i.toNatClampNeg &&& 31) = 7 then m_case_7 N xs L k33 σ μ f i else (if (xs i.toNatClampNeg &&& 31) = 8 then m_case_8 N xs L k33 σ μ f i else (if (xs i.toNatClampNeg &&& 31) = 9 then m_case_9 N xs L k33 σ μ f i else (if (xs i.toNatClampNeg &&& 31) = 10 then m_case_10 N xs L k33 σ μ f i else (if (xs i.toNatClampNeg &&& 31) = 11 then m_case_11 N xs L k33 σ μ f i else (if (xs i.toNatClampNeg &&& 31) = 12 then m_case_12 N xs L k33 σ μ f i else (if (xs i.toNatClampNeg &&& 31) = 13 then m_case_13 N xs L k33 σ μ f i else (if (xs i.toNatClampNeg &&& 31) = 14 then m_case_14 N xs L k33 σ μ f i else (if (xs i.toNatClampNeg &&& 31) = 15 then m_case_15 N xs L k33 σ μ f i else (if (xs i.toNatClampNeg &&& 31) = 16 then m_case_16 N xs L k33 σ μ f i else (if (xs i.toNatClampNeg &&& 31) = 17 then m_case_17 N xs L k33 σ μ f i else (if (xs i.toNatClampNeg &&& 31) = 18 then m_case_18 N xs L k33 σ μ f i else (if (xs i.toNatClampNeg &&& 31) = 19 then m_case_19 N xs L k33 σ μ f i else (if (xs i.toNatClampNeg &&& 31) = 20 then m_case_20 N xs L k33 σ μ f i else m_case_default N xs L k33 σ μ f i))))))))))))))))))))) else none)

def m_law (N : Nat) (xs : Nat → Int32) (L : Nat) : Nat → SX → SX → (Nat → Int64) → Int32 → Option Unit
  | 0, _, _, _, _ => none
  | n + 1, σ, μ, f, i => if (Int32.ofNat L - 4) < i then some () else m_turn N xs L (fun σ μ f i => m_law N xs L n σ μ f (i + 4)) σ μ f i
theorem sw_outL {x : Int32} (h0 : ¬ x = 0) (h1 : ¬ x = 1) (h2 : ¬ x = 2) (h3 : ¬ x = 3) (h4 : ¬ x = 4) (h5 : ¬ x = 5) (h6 : ¬ x = 6) (h7 : ¬ x = 7) (h8 : ¬ x = 8) (h9 : ¬ x = 9) (h10 : ¬ x = 10) (h11 : ¬ x = 11) (h12 : ¬ x = 12) (h13 : ¬ x = 13) (h14 : ¬ x = 14) (h15 : ¬ x = 15) (h16 : ¬ x = 16) (h17 : ¬ x = 17) (h18 : ¬ x = 18) (h19 : ¬ x = 19) (h20 : ¬ x = 20) : x.toInt < 0 ∨ 20 < x.toInt := by
  have a0 : ¬ x.toInt = 0 := fun q => h0 (Int32.toInt_inj.mp (by rw [q]; rfl))
  have a1 : ¬ x.toInt = 1 := fun q => h1 (Int32.toInt_inj.mp (by rw [q]; rfl))
  have a2 : ¬ x.toInt = 2 := fun q => h2 (Int32.toInt_inj.mp (by rw [q]; rfl))
  have a3 : ¬ x.toInt = 3 := fun q => h3 (Int32.toInt_inj.mp (by rw [q]; rfl))
  have a4 : ¬ x.toInt = 4 := fun q => h4 (Int32.toInt_inj.mp (by rw [q]; rfl))
  have a5 : ¬ x.toInt = 5 := fun q => h5 (Int32.toInt_inj.mp (by rw [q]; rfl))
  have a6 : ¬ x.toInt = 6 := fun q => h6 (Int32.toInt_inj.mp (by rw [q]; rfl))
  have a7 : ¬ x.toInt = 7 := fun q => h7 (Int32.toInt_inj.mp (by rw [q]; rfl))
  have a8 : ¬ x.toInt = 8 := fun q => h8 (Int32.toInt_inj.mp (by rw [q]; rfl))
  have a9 : ¬ x.toInt = 9 := fun q => h9 (Int32.toInt_inj.mp (by rw [q]; rfl))
  have a10 : ¬ x.toInt = 10 := fun q => h10 (Int32.toInt_inj.mp (by rw [q]; rfl))
  have a11 : ¬ x.toInt = 11 := fun q => h11 (Int32.toInt_inj.mp (by rw [q]; rfl))
  have a12 : ¬ x.toInt = 12 := fun q => h12 (Int32.toInt_inj.mp (by rw [q]; rfl))
  have a13 : ¬ x.toInt = 13 := fun q => h13 (Int32.toInt_inj.mp (by rw [q]; rfl))
  have a14 : ¬ x.toInt = 14 := fun q => h14 (Int32.toInt_inj.mp (by rw [q]; rfl))
  have a15 : ¬ x.toInt = 15 := fun q => h15 (Int32.toInt_inj.mp (by rw [q]; rfl))
  have a16 : ¬ x.toInt = 16 := fun q => h16 (Int32.toInt_inj.mp (by rw [q]; rfl))
  have a17 : ¬ x.toInt = 17 := fun q => h17 (Int32.toInt_inj.mp (by rw [q]; rfl))
  have a18 : ¬ x.toInt = 18 := fun q => h18 (Int32.toInt_inj.mp (by rw [q]; rfl))
  have a19 : ¬ x.toInt = 19 := fun q => h19 (Int32.toInt_inj.mp (by rw [q]; rfl))
  have a20 : ¬ x.toInt = 20 := fun q => h20 (Int32.toInt_inj.mp (by rw [q]; rfl))
  omega
set_option maxHeartbeats 8000000 in
set_option maxRecDepth 100000 in
theorem law_loop {p : Program} {e : Env} {s : State} {m : MethodId} {below : List Frame} {meth : Method} {c : Code} (l : Launch) (htr : l.stackTraces = false) {b L : Nat} {xs : Nat → Int32} (dC : Nat → ClassId) (dI : Nat → Nat → Nat) (ad bd : Nat → Nat → Nat) (cs : Nat → ClassId) (cL : ClassId) (qo N : Nat)
    (hx : p.tables.exec = Jvm.exec) (hb : c.code = code) (hr : meth.sig.returnType = ret) (hml : c.maxLocals = 7) (hown : s.vm.findClass R_L = some m.cls) (hts : ∀ w ∈ (Cond.initialized R_L :: tb), w.before #[Value.ref b] s = true) (hX : va_X b L xs s s.heap) (hbl : b < s.heap.size) (hlocks : meth.locks = false)
    (hK : va_K (dC, dI) classes (tyW cs) s) (hKl : va_K (dC, dI) classes [(cL, .long)] s) (hN : nwW s) (hZ : stW s) : ∀ (n33 : Nat) (H : Heap) (locs : List Loc) (ls : Array Slot) (st : List Value), (fun n33 H locs ls st => ∃ (σ μ : SX) (f : Nat → Int64) (i : Int32), st = [] ∧ m_law N xs L n33 σ μ f i = some () ∧ n33 ≤ 1000 ∧ lv_has ls 7 [(0, .ref b), (1, .ref (ad 0 0)), (2, .ref (bd 0 0)), (3, .ref qo), (4, .int i)] ∧ va_P (dC, dI) classes (wX ad cs σ) H ∧ va_P (dC, dI) classes (wM bd cs μ) H ∧ va_P (dC, dI) classes [oC qo cL f] H ∧ va_D (fun q => s.heap.size ≤ q) (wL ad cs σ bd μ qo cL f) ∧ va_S (fun q => s.heap.size ≤ q) s.heap H locs) n33 H locs ls st → W p l e room_1 s m #[Value.ref b] below meth c H locs (600000 - n33) (7290000 - 6 * n33) (lw_Z below #[Value.ref b] s) (F0 m 33 ls st) := by
  have htb : ∀ w ∈ tb, w.before #[Value.ref b] s = true := fun w h => hts w (List.mem_cons_of_mem _ h)
  have hA : ∀ q : Nat, s.heap.size ≤ q → s.heap.size ≤ q := fun q h => h
  intro n33
  induction n33 with
  | zero =>
    rintro H locs ls st ⟨σ, μ, f, i, -, hM, -⟩
    rw [m_law] at hM; cases hM
  | succ n33 K33 =>
    rintro H locs ls st ⟨σ, μ, f, i, rfl, hM, hn, hl, hP, hPm, hPo, hD, hS⟩
    have hcA : (600000 - (n33 + 1)) + 1 ≤ room_1.cells := by show _ ≤ 601024; omega
    have hsA : (7290000 - 6 * (n33 + 1)) + 6 ≤ room_1.slots := by show _ ≤ 7293000; omega
    have hcB : (600000 - n33) + 0 ≤ room_1.cells := by show _ ≤ 601024; omega
    have hsB : (7290000 - 6 * n33) + 0 ≤ room_1.slots := by show _ ≤ 7293000; omega
    have KF : ∀ (H : Heap) (locs : List Loc) (ls : Array Slot) (st : List Value), (fun H locs ls st => ∃ (σ μ : SX) (f : Nat → Int64) (i : Int32), st = [] ∧ m_law N xs L n33 σ μ f (i + 4) = some () ∧ lv_has ls 7 [(0, .ref b), (1, .ref (ad 0 0)), (2, .ref (bd 0 0)), (3, .ref qo), (4, .int i)] ∧ va_P (dC, dI) classes (wX ad cs σ) H ∧ va_P (dC, dI) classes (wM bd cs μ) H ∧ va_P (dC, dI) classes [oC qo cL f] H ∧ va_D (fun q => s.heap.size ≤ q) (wL ad cs σ bd μ qo cL f) ∧ va_S (fun q => s.heap.size ≤ q) s.heap H locs) H locs ls st → W p l e room_1 s m #[Value.ref b] below meth c H locs (600000 - n33) (7290000 - 6 * n33) (lw_Z below #[Value.ref b] s) (F0 m 708 ls st) := by
      rintro H locs ls st ⟨σ, μ, f, i, rfl, hM, hl, hP, hPm, hPo, hD, hS⟩
      refine lv_iinc (k := 4) (v := (i + 4)) hx hb d_law_708 hl rfl rfl (by decide) (lv' := [(4, .int (i + 4)), (0, .ref b), (1, .ref (ad 0 0)), (2, .ref (bd 0 0)), (3, .ref qo)]) rfl (fun ls hl => ?_)
      refine lv_goto (tgt := 33) hx hb d_law_711 (by decide) ?_
      exact K33 _ _ _ _ ⟨σ, μ, f, (i + 4), rfl, hM, by omega, lv_sub hl [1, 2, 3, 4, 0] rfl, hP, hPm, hPo, hD, hS⟩
    rw [m_law] at hM
    refine lv_iload hx hb d_law_33 (lv_at hl 4 rfl) ?_
    refine lv_aload_n hx hb d_law_35 rfl (lv_at hl 0 rfl) ?_
    refine va_slen hx hb hX hbl (Nat.not_le.mpr hbl) hS d_law_36 ?_
    refine lv_iconst (v := 4) hx hb d_law_37 (by decide) ?_
    refine lv_isub hx hb d_law_38 ?_
    refine lv_icmp_gt (tgt := 714) hx hb d_law_39 (by decide) (fun h39 => ?_) (fun h39 => ?_)
    · rw [if_pos h39] at hM
      refine lv_iconst (v := 1) hx hb d_law_714 (by decide) ?_
      refine va_forget hS.2.2 ?_
      refine W.widen (k := 601024) (n := 7293000) (by omega) (by omega) ?_
      exact lw_ret hx hb hr hlocks d_law_715
    rw [if_neg h39, m_turn] at hM
    refine lv_aload_n hx hb d_law_42 rfl (lv_at hl 0 rfl) ?_
    refine lv_iload hx hb d_law_43 (lv_at hl 4 rfl) ?_
    have hg45 := gd_c hM
    have hM := gd_v hM
    refine va_sld hx hb hX hbl (Nat.not_le.mpr hbl) hS (inb_in hg45) d_law_45 ?_
    refine lv_bipush (v := 31) hx hb d_law_46 (by decide) ?_
    refine lv_iand hx hb d_law_48 ?_
    by_cases hw_0 : (xs i.toNatClampNeg &&& 31) = 0
    · rw [if_pos hw_0, m_case_0] at hM
      refine lv_tableIn (tgt := 148) (off := 99) hx hb d_law_49 (by rw [hw_0]; decide) (by rw [hw_0]; decide) (by rw [hw_0]; decide) (by decide) ?_
      refine lv_aload_n hx hb d_law_148 rfl (lv_at hl 1 rfl) ?_
      refine lv_aload_n hx hb d_law_149 rfl (lv_at hl 0 rfl) ?_
      refine lv_iload hx hb d_law_150 (lv_at hl 4 rfl) ?_
      refine lv_iconst (v := 1) hx hb d_law_152 (by decide) ?_
      refine lv_iadd hx hb d_law_153 ?_
      have hg154 := gd_c hM
      have hM := gd_v hM
      refine va_sld hx hb hX hbl (Nat.not_le.mpr hbl) hS (inb_in hg154) d_law_154 ?_
      refine lv_aload_n hx hb d_law_155 rfl (lv_at hl 0 rfl) ?_
      refine lv_iload hx hb d_law_156 (lv_at hl 4 rfl) ?_
      refine lv_iconst (v := 2) hx hb d_law_158 (by decide) ?_
      refine lv_iadd hx hb d_law_159 ?_
      have hg160 := gd_c hM
      have hM := gd_v hM
      refine va_sld hx hb hX hbl (Nat.not_le.mpr hbl) hS (inb_in hg160) d_law_160 ?_
      refine lv_aload_n hx hb d_law_161 rfl (lv_at hl 3 rfl) ?_
      obtain ⟨x162, hq162, hM⟩ := bH_some hM
      obtain ⟨x162, y162, z162⟩ := x162
      have hDo := D_xo hD
      have hF1 := free_all hDo hS hA
      refine va_calli (va_runSW (n := 4) (As := [.ref (ad 0 0), .int (xs (i + 1).toNatClampNeg), .int (xs (i + 2).toNatClampNeg), .ref qo]) (rest := []) ⟨hx, hb, hml, hown, hts⟩ (c_L_card l htr dC dI ad cs cL qo _ N σ f (xs (i + 1).toNatClampNeg) (xs (i + 2).toNatClampNeg) hq162) (goodX k_343) rfl rfl ⟨Nat.le_of_ble_eq_true rfl, Nat.le_of_ble_eq_true rfl⟩ (htb _ k_341) (htb _ k_342) (htb _ k_0) ⟨by decide, by decide, by decide +kernel⟩ ⟨blindL, payL (hP.app hPo) hK hKl hDo hN hZ (fun a ha => hS.2.1 a ha (Nat.not_le.mpr ha))⟩ rfl rfl hl.1 rfl (lv_room (Nat.le_of_ble_eq_true rfl)) d_law_162 ⟨hcA, hsA⟩) hS (fun q _ h => hF1 q h) hF1 (fun r162 u162 t H locs ht hvm hpost hB hz1 hk1 hS => ?_)
      obtain ⟨e1, e2⟩ := hpost
      subst e1
      subst e2
      rw [ht] at hB
      dsimp only at hB hM
      have hPm := fr (ap_om hD) hk1 hPm
      have hP := P_left hB
      have hPo := P_right hB
      have hD := D_3 hD (σ' := y162) (μ' := μ) (f' := z162)
      refine W.widen (k := 600000 - n33) (n := 7290000 - 6 * n33) (by omega) (by omega) ?_
      refine lv_istore hx hb d_law_165 hl (by decide) (lv' := [(5, .int r162), (0, .ref b), (1, .ref (ad 0 0)), (2, .ref (bd 0 0)), (3, .ref qo), (4, .int i)]) rfl (fun ls hl => ?_)
      refine lv_aload_n hx hb d_law_167 rfl (lv_at hl 3 rfl) ?_
      refine lv_aload_n hx hb d_law_168 rfl (lv_at hl 1 rfl) ?_
      refine lv_iload hx hb d_law_169 (lv_at hl 5 rfl) ?_
      refine lv_iconst (v := 1) hx hb d_law_171 (by decide) ?_
      refine lv_iadd hx hb d_law_172 ?_
      have hg173 := gd_c hM
      have hM := gd_v hM
      refine va_sld hx hb hX hbl (Nat.not_le.mpr hbl) hS (inb_in hg173) d_law_173 ?_
      refine lv_aload_n hx hb d_law_174 rfl (lv_at hl 1 rfl) ?_
      refine lv_iload hx hb d_law_175 (lv_at hl 5 rfl) ?_
      refine lv_iconst (v := 2) hx hb d_law_177 (by decide) ?_
      refine lv_iadd hx hb d_law_178 ?_
      have hg179 := gd_c hM
      have hM := gd_v hM
      refine va_sld hx hb hX hbl (Nat.not_le.mpr hbl) hS (inb_in hg179) d_law_179 ?_
      have hF1 := free_all (D_left (D_right hD)) hS hA
      obtain ⟨x180, y180, hq180, hM⟩ := bI_some hM
      refine va_calli (va_runV (As := [.int (xs (i + 1).toNatClampNeg), .int (xs (i + 2).toNatClampNeg)]) (rest := []) ⟨hx, hb, hml, hown, hts⟩ (c_M_card l dC dI bd cs _ N μ (xs (i + 1).toNatClampNeg) (xs (i + 2).toNatClampNeg) hq180) (cwV 2 hts (goodVW k_723 k_724 k_725 k_8 k_726) rfl rfl rfl ⟨rfl, by decide, by decide, by decide +kernel⟩ ⟨Nat.le_of_ble_eq_true rfl, Nat.le_of_ble_eq_true rfl⟩) ⟨blindM, va_recv hK hPm rfl g_M, payM hPm hK (D_left (D_right hD)) hN⟩ rfl rfl hl.1 rfl (lv_room (Nat.le_of_ble_eq_true rfl)) d_law_180 ⟨hcB, hsB⟩) hS (fun q _ h => hF1 q h) hF1 (fun r180 σ180 t H locs ht hvm hpost hB hz1 hk1 hS => ?_)
      obtain ⟨e1, e2⟩ := hpost
      subst e1
      subst e2
      obtain ⟨hP1, hK1, hD1⟩ := hB
      rw [ht] at hP1
      have hP := fr (ap_mx hD) hk1 hP
      have hPo := fr (ap_mo hD) hk1 hPo
      have hPm := hP1
      have hD := D_3 hD (σ' := y162) (μ' := σ180) (f' := z162)
      refine lv_istore hx hb d_law_183 hl (by decide) (lv' := [(6, .int r180), (5, .int r162), (0, .ref b), (1, .ref (ad 0 0)), (2, .ref (bd 0 0)), (3, .ref qo), (4, .int i)]) rfl (fun ls hl => ?_)
      refine lv_goto (tgt := 708) hx hb d_law_185 (by decide) ?_
      exact KF _ _ _ _ ⟨y162, σ180, z162, i, rfl, hM, lv_sub hl [2, 3, 4, 5, 6] rfl, hP, hPm, hPo, hD, hS⟩
    rw [if_neg hw_0] at hM
    by_cases hw_1 : (xs i.toNatClampNeg &&& 31) = 1
    · rw [if_pos hw_1, m_case_1] at hM
      refine lv_tableIn (tgt := 188) (off := 139) hx hb d_law_49 (by rw [hw_1]; decide) (by rw [hw_1]; decide) (by rw [hw_1]; decide) (by decide) ?_
      refine lv_aload_n hx hb d_law_188 rfl (lv_at hl 1 rfl) ?_
      refine lv_aload_n hx hb d_law_189 rfl (lv_at hl 0 rfl) ?_
      refine lv_iload hx hb d_law_190 (lv_at hl 4 rfl) ?_
      refine lv_iconst (v := 1) hx hb d_law_192 (by decide) ?_
      refine lv_iadd hx hb d_law_193 ?_
      have hg194 := gd_c hM
      have hM := gd_v hM
      refine va_sld hx hb hX hbl (Nat.not_le.mpr hbl) hS (inb_in hg194) d_law_194 ?_
      refine lv_aload_n hx hb d_law_195 rfl (lv_at hl 0 rfl) ?_
      refine lv_iload hx hb d_law_196 (lv_at hl 4 rfl) ?_
      refine lv_iconst (v := 2) hx hb d_law_198 (by decide) ?_
      refine lv_iadd hx hb d_law_199 ?_
      have hg200 := gd_c hM
      have hM := gd_v hM
      refine va_sld hx hb hX hbl (Nat.not_le.mpr hbl) hS (inb_in hg200) d_law_200 ?_
      refine lv_aload_n hx hb d_law_201 rfl (lv_at hl 3 rfl) ?_
      obtain ⟨x202, hq202, hM⟩ := bH_some hM
      obtain ⟨x202, y202, z202⟩ := x202
      have hDo := D_xo hD
      have hF1 := free_all hDo hS hA
      refine va_calli (va_runSW (n := 4) (As := [.ref (ad 0 0), .int (xs (i + 1).toNatClampNeg), .int (xs (i + 2).toNatClampNeg), .ref qo]) (rest := []) ⟨hx, hb, hml, hown, hts⟩ (c_L_part l htr dC dI ad cs cL qo _ N σ f (xs (i + 1).toNatClampNeg) (xs (i + 2).toNatClampNeg) hq202) (goodX k_422) rfl rfl ⟨Nat.le_of_ble_eq_true rfl, Nat.le_of_ble_eq_true rfl⟩ (htb _ k_420) (htb _ k_421) (htb _ k_0) ⟨by decide, by decide, by decide +kernel⟩ ⟨blindL, payL (hP.app hPo) hK hKl hDo hN hZ (fun a ha => hS.2.1 a ha (Nat.not_le.mpr ha))⟩ rfl rfl hl.1 rfl (lv_room (Nat.le_of_ble_eq_true rfl)) d_law_202 ⟨hcA, hsA⟩) hS (fun q _ h => hF1 q h) hF1 (fun r202 u202 t H locs ht hvm hpost hB hz1 hk1 hS => ?_)
      obtain ⟨e1, e2⟩ := hpost
      subst e1
      subst e2
      rw [ht] at hB
      dsimp only at hB hM
      have hPm := fr (ap_om hD) hk1 hPm
      have hP := P_left hB
      have hPo := P_right hB
      have hD := D_3 hD (σ' := y202) (μ' := μ) (f' := z202)
      refine W.widen (k := 600000 - n33) (n := 7290000 - 6 * n33) (by omega) (by omega) ?_
      refine lv_istore hx hb d_law_205 hl (by decide) (lv' := [(5, .int r202), (0, .ref b), (1, .ref (ad 0 0)), (2, .ref (bd 0 0)), (3, .ref qo), (4, .int i)]) rfl (fun ls hl => ?_)
      refine lv_aload_n hx hb d_law_207 rfl (lv_at hl 3 rfl) ?_
      refine lv_aload_n hx hb d_law_208 rfl (lv_at hl 1 rfl) ?_
      refine lv_iload hx hb d_law_209 (lv_at hl 5 rfl) ?_
      refine lv_iconst (v := 1) hx hb d_law_211 (by decide) ?_
      refine lv_iadd hx hb d_law_212 ?_
      have hg213 := gd_c hM
      have hM := gd_v hM
      refine va_sld hx hb hX hbl (Nat.not_le.mpr hbl) hS (inb_in hg213) d_law_213 ?_
      refine lv_aload_n hx hb d_law_214 rfl (lv_at hl 1 rfl) ?_
      refine lv_iload hx hb d_law_215 (lv_at hl 5 rfl) ?_
      refine lv_iconst (v := 2) hx hb d_law_217 (by decide) ?_
      refine lv_iadd hx hb d_law_218 ?_
      have hg219 := gd_c hM
      have hM := gd_v hM
      refine va_sld hx hb hX hbl (Nat.not_le.mpr hbl) hS (inb_in hg219) d_law_219 ?_
      have hF1 := free_all (D_left (D_right hD)) hS hA
      obtain ⟨x220, y220, hq220, hM⟩ := bI_some hM
      refine va_calli (va_runV (As := [.int (xs (i + 1).toNatClampNeg), .int (xs (i + 2).toNatClampNeg)]) (rest := []) ⟨hx, hb, hml, hown, hts⟩ (c_M_part l dC dI bd cs _ N μ (xs (i + 1).toNatClampNeg) (xs (i + 2).toNatClampNeg) hq220) (cwV 2 hts (goodVW k_727 k_728 k_729 k_8 k_730) rfl rfl rfl ⟨rfl, by decide, by decide, by decide +kernel⟩ ⟨Nat.le_of_ble_eq_true rfl, Nat.le_of_ble_eq_true rfl⟩) ⟨blindM, va_recv hK hPm rfl g_M, payM hPm hK (D_left (D_right hD)) hN⟩ rfl rfl hl.1 rfl (lv_room (Nat.le_of_ble_eq_true rfl)) d_law_220 ⟨hcB, hsB⟩) hS (fun q _ h => hF1 q h) hF1 (fun r220 σ220 t H locs ht hvm hpost hB hz1 hk1 hS => ?_)
      obtain ⟨e1, e2⟩ := hpost
      subst e1
      subst e2
      obtain ⟨hP1, hK1, hD1⟩ := hB
      rw [ht] at hP1
      have hP := fr (ap_mx hD) hk1 hP
      have hPo := fr (ap_mo hD) hk1 hPo
      have hPm := hP1
      have hD := D_3 hD (σ' := y202) (μ' := σ220) (f' := z202)
      refine lv_istore hx hb d_law_223 hl (by decide) (lv' := [(6, .int r220), (5, .int r202), (0, .ref b), (1, .ref (ad 0 0)), (2, .ref (bd 0 0)), (3, .ref qo), (4, .int i)]) rfl (fun ls hl => ?_)
      refine lv_goto (tgt := 708) hx hb d_law_225 (by decide) ?_
      exact KF _ _ _ _ ⟨y202, σ220, z202, i, rfl, hM, lv_sub hl [2, 3, 4, 5, 6] rfl, hP, hPm, hPo, hD, hS⟩
    rw [if_neg hw_1] at hM
    by_cases hw_2 : (xs i.toNatClampNeg &&& 31) = 2
    · rw [if_pos hw_2, m_case_2] at hM
      refine lv_tableIn (tgt := 228) (off := 179) hx hb d_law_49 (by rw [hw_2]; decide) (by rw [hw_2]; decide) (by rw [hw_2]; decide) (by decide) ?_
      refine lv_aload_n hx hb d_law_228 rfl (lv_at hl 1 rfl) ?_
      obtain ⟨x229, hq229, hM⟩ := bH_some hM
      obtain ⟨x229, y229, z229⟩ := x229
      have hDo := D_xo hD
      have hF1 := free_all hDo hS hA
      refine va_calli (va_runSW (n := 1) (As := [.ref (ad 0 0)]) (rest := []) ⟨hx, hb, hml, hown, hts⟩ (c_L_start l htr dC dI ad cs cL qo _ N σ f hq229) (goodX k_455) rfl rfl ⟨Nat.le_of_ble_eq_true rfl, Nat.le_of_ble_eq_true rfl⟩ (htb _ k_453) (htb _ k_454) (htb _ k_0) ⟨by decide, by decide, by decide +kernel⟩ ⟨blindL, payL (hP.app hPo) hK hKl hDo hN hZ (fun a ha => hS.2.1 a ha (Nat.not_le.mpr ha))⟩ rfl rfl hl.1 rfl (lv_room (Nat.le_of_ble_eq_true rfl)) d_law_229 ⟨hcA, hsA⟩) hS (fun q _ h => hF1 q h) hF1 (fun r229 u229 t H locs ht hvm hpost hB hz1 hk1 hS => ?_)
      obtain ⟨e1, e2⟩ := hpost
      subst e1
      subst e2
      rw [ht] at hB
      dsimp only at hB hM
      have hPm := fr (ap_om hD) hk1 hPm
      have hP := P_left hB
      have hPo := P_right hB
      have hD := D_3 hD (σ' := y229) (μ' := μ) (f' := z229)
      refine W.widen (k := 600000 - n33) (n := 7290000 - 6 * n33) (by omega) (by omega) ?_
      refine lv_istore hx hb d_law_232 hl (by decide) (lv' := [(5, .int r229), (0, .ref b), (1, .ref (ad 0 0)), (2, .ref (bd 0 0)), (3, .ref qo), (4, .int i)]) rfl (fun ls hl => ?_)
      refine lv_aload_n hx hb d_law_234 rfl (lv_at hl 3 rfl) ?_
      have hF1 := free_all (D_left (D_right hD)) hS hA
      obtain ⟨y235, hq235, hM⟩ := bV_some hM
      refine va_callv (va_runV (As := []) (rest := []) ⟨hx, hb, hml, hown, hts⟩ (c_M_start l dC dI bd cs _ N μ hq235) (cwV 0 hts (goodVW k_751 k_752 k_753 k_8 k_754) rfl rfl rfl ⟨rfl, by decide, by decide, by decide +kernel⟩ ⟨Nat.le_of_ble_eq_true rfl, Nat.le_of_ble_eq_true rfl⟩) ⟨blindM, va_recv hK hPm rfl g_M, payM hPm hK (D_left (D_right hD)) hN⟩ rfl rfl hl.1 rfl (lv_room (Nat.le_of_ble_eq_true rfl)) d_law_235 ⟨hcB, hsB⟩) hS (fun q _ h => hF1 q h) hF1 (fun σ235 t H locs ht hvm hpost hB hz1 hk1 hS => ?_)
      subst hpost
      obtain ⟨hP1, hK1, hD1⟩ := hB
      rw [ht] at hP1
      have hP := fr (ap_mx hD) hk1 hP
      have hPo := fr (ap_mo hD) hk1 hPo
      have hPm := hP1
      have hD := D_3 hD (σ' := y229) (μ' := σ235) (f' := z229)
      refine lv_aload_n hx hb d_law_238 rfl (lv_at hl 3 rfl) ?_
      obtain ⟨x239, y239, hq239, hM⟩ := bI_some hM
      refine va_calli (va_runV (As := []) (rest := []) ⟨hx, hb, hml, hown, hts⟩ (c_M_thrown l dC dI bd cs _ N σ235 hq239) (cwV 0 hts (goodVW k_719 k_720 k_721 k_8 k_722) rfl rfl rfl ⟨rfl, by decide, by decide, by decide +kernel⟩ ⟨Nat.le_of_ble_eq_true rfl, Nat.le_of_ble_eq_true rfl⟩) ⟨blindM, va_recv hK hPm rfl g_M, payM hPm hK (D_left (D_right hD)) hN⟩ rfl rfl hl.1 rfl (lv_room (Nat.le_of_ble_eq_true rfl)) d_law_239 ⟨hcB, hsB⟩) hS (fun q h0 h => absurd h0 (Nat.not_lt.mpr h)) (fun q h => hA q (Nat.le_trans hS.1 h)) (fun r239 u t H locs ht hvm hpost hB hz1 hk1 hS => ?_)
      obtain ⟨e1, e2⟩ := hpost
      subst e1
      subst e2
      have hP := keepP hP hk1
      have hPm := keepP hPm hk1
      have hPo := keepP hPo hk1
      refine lv_iload hx hb d_law_242 (lv_at hl 0 rfl) ?_
      refine lv_icmp_eq (tgt := 249) hx hb d_law_244 (by decide) (fun h244 => ?_) (fun h244 => ?_)
      · rw [if_pos h244] at hM
        refine lv_goto (tgt := 708) hx hb d_law_249 (by decide) ?_
        exact KF _ _ _ _ ⟨y229, σ235, z229, i, rfl, hM, lv_sub hl [1, 2, 3, 4, 5] rfl, hP, hPm, hPo, hD, hS⟩
      · rw [if_neg h244] at hM
        refine lv_iconst (v := 0) hx hb d_law_247 (by decide) ?_
        cases hM
    rw [if_neg hw_2] at hM
    by_cases hw_3 : (xs i.toNatClampNeg &&& 31) = 3
    · rw [if_pos hw_3, m_case_3] at hM
      refine lv_tableIn (tgt := 252) (off := 203) hx hb d_law_49 (by rw [hw_3]; decide) (by rw [hw_3]; decide) (by rw [hw_3]; decide) (by decide) ?_
      refine W.widen (k := 600000 - n33) (n := 7290000 - 6 * n33) (by omega) (by omega) ?_
      refine lv_aload_n hx hb d_law_252 rfl (lv_at hl 1 rfl) ?_
      have hF1 := free_all (D_left hD) hS hA
      obtain ⟨x253, y253, hq253, hM⟩ := bI_some hM
      refine va_calli (va_runV (As := []) (rest := []) ⟨hx, hb, hml, hown, hts⟩ (c_O_clear l dC dI ad cs _ N σ hq253) (cwV 0 hts (goodVW k_185 k_186 k_187 k_1 k_188) rfl rfl rfl ⟨rfl, by decide, by decide, by decide +kernel⟩ ⟨Nat.le_of_ble_eq_true rfl, Nat.le_of_ble_eq_true rfl⟩) ⟨blindX, va_recv hK hP rfl g_O, payX hP hK (D_left hD) hN⟩ rfl rfl hl.1 rfl (lv_room (Nat.le_of_ble_eq_true rfl)) d_law_253 ⟨hcB, hsB⟩) hS (fun q _ h => hF1 q h) hF1 (fun r253 σ253 t H locs ht hvm hpost hB hz1 hk1 hS => ?_)
      obtain ⟨e1, e2⟩ := hpost
      subst e1
      subst e2
      obtain ⟨hP1, hK1, hD1⟩ := hB
      rw [ht] at hP1
      have hPm := fr (ap_xm hD) hk1 hPm
      have hPo := fr (ap_xo hD) hk1 hPo
      have hP := hP1
      have hD := D_3 hD (σ' := σ253) (μ' := μ) (f' := f)
      refine lv_pop hx hb d_law_256 rfl ?_
      refine lv_aload_n hx hb d_law_257 rfl (lv_at hl 2 rfl) ?_
      have hF1 := free_all (D_left (D_right hD)) hS hA
      obtain ⟨x258, y258, hq258, hM⟩ := bI_some hM
      refine va_calli (va_runV (As := []) (rest := []) ⟨hx, hb, hml, hown, hts⟩ (c_M_clear l dC dI bd cs _ N μ hq258) (cwV 0 hts (goodVW k_759 k_760 k_761 k_8 k_762) rfl rfl rfl ⟨rfl, by decide, by decide, by decide +kernel⟩ ⟨Nat.le_of_ble_eq_true rfl, Nat.le_of_ble_eq_true rfl⟩) ⟨blindM, va_recv hK hPm rfl g_M, payM hPm hK (D_left (D_right hD)) hN⟩ rfl rfl hl.1 rfl (lv_room (Nat.le_of_ble_eq_true rfl)) d_law_258 ⟨hcB, hsB⟩) hS (fun q _ h => hF1 q h) hF1 (fun r258 σ258 t H locs ht hvm hpost hB hz1 hk1 hS => ?_)
      obtain ⟨e1, e2⟩ := hpost
      subst e1
      subst e2
      obtain ⟨hP1, hK1, hD1⟩ := hB
      rw [ht] at hP1
      have hP := fr (ap_mx hD) hk1 hP
      have hPo := fr (ap_mo hD) hk1 hPo
      have hPm := hP1
      have hD := D_3 hD (σ' := σ253) (μ' := σ258) (f' := f)
      refine lv_pop hx hb d_law_261 rfl ?_
      refine lv_goto (tgt := 708) hx hb d_law_262 (by decide) ?_
      exact KF _ _ _ _ ⟨σ253, σ258, f, i, rfl, hM, lv_sub hl [0, 1, 2, 3, 4] rfl, hP, hPm, hPo, hD, hS⟩
    rw [if_neg hw_3] at hM
    by_cases hw_4 : (xs i.toNatClampNeg &&& 31) = 4
    · rw [if_pos hw_4, m_case_4] at hM
      refine lv_tableIn (tgt := 265) (off := 216) hx hb d_law_49 (by rw [hw_4]; decide) (by rw [hw_4]; decide) (by rw [hw_4]; decide) (by decide) ?_
      refine lv_aload_n hx hb d_law_265 rfl (lv_at hl 1 rfl) ?_
      refine lv_aload_n hx hb d_law_266 rfl (lv_at hl 0 rfl) ?_
      refine lv_iload hx hb d_law_267 (lv_at hl 4 rfl) ?_
      refine lv_iconst (v := 1) hx hb d_law_269 (by decide) ?_
      refine lv_iadd hx hb d_law_270 ?_
      have hg271 := gd_c hM
      have hM := gd_v hM
      refine va_sld hx hb hX hbl (Nat.not_le.mpr hbl) hS (inb_in hg271) d_law_271 ?_
      refine lv_aload_n hx hb d_law_272 rfl (lv_at hl 3 rfl) ?_
      obtain ⟨x273, hq273, hM⟩ := bH_some hM
      obtain ⟨x273, y273, z273⟩ := x273
      have hDo := D_xo hD
      have hF1 := free_all hDo hS hA
      refine va_calli (va_runSW (n := 3) (As := [.ref (ad 0 0), .int (xs (i + 1).toNatClampNeg), .ref qo]) (rest := []) ⟨hx, hb, hml, hown, hts⟩ (c_L_step l htr dC dI ad cs cL qo _ N σ f (xs (i + 1).toNatClampNeg) hq273) (goodX k_482) rfl rfl ⟨Nat.le_of_ble_eq_true rfl, Nat.le_of_ble_eq_true rfl⟩ (htb _ k_480) (htb _ k_481) (htb _ k_0) ⟨by decide, by decide, by decide +kernel⟩ ⟨blindL, payL (hP.app hPo) hK hKl hDo hN hZ (fun a ha => hS.2.1 a ha (Nat.not_le.mpr ha))⟩ rfl rfl hl.1 rfl (lv_room (Nat.le_of_ble_eq_true rfl)) d_law_273 ⟨hcA, hsA⟩) hS (fun q _ h => hF1 q h) hF1 (fun r273 u273 t H locs ht hvm hpost hB hz1 hk1 hS => ?_)
      obtain ⟨e1, e2⟩ := hpost
      subst e1
      subst e2
      rw [ht] at hB
      dsimp only at hB hM
      have hPm := fr (ap_om hD) hk1 hPm
      have hP := P_left hB
      have hPo := P_right hB
      have hD := D_3 hD (σ' := y273) (μ' := μ) (f' := z273)
      refine W.widen (k := 600000 - n33) (n := 7290000 - 6 * n33) (by omega) (by omega) ?_
      refine lv_istore hx hb d_law_276 hl (by decide) (lv' := [(5, .int r273), (0, .ref b), (1, .ref (ad 0 0)), (2, .ref (bd 0 0)), (3, .ref qo), (4, .int i)]) rfl (fun ls hl => ?_)
      refine lv_aload_n hx hb d_law_278 rfl (lv_at hl 3 rfl) ?_
      refine lv_aload_n hx hb d_law_279 rfl (lv_at hl 1 rfl) ?_
      refine lv_iload hx hb d_law_280 (lv_at hl 5 rfl) ?_
      refine lv_iconst (v := 1) hx hb d_law_282 (by decide) ?_
      refine lv_iadd hx hb d_law_283 ?_
      have hg284 := gd_c hM
      have hM := gd_v hM
      refine va_sld hx hb hX hbl (Nat.not_le.mpr hbl) hS (inb_in hg284) d_law_284 ?_
      have hF1 := free_all (D_left (D_right hD)) hS hA
      obtain ⟨x285, y285, hq285, hM⟩ := bI_some hM
      refine va_calli (va_runV (As := [.int (xs (i + 1).toNatClampNeg)]) (rest := []) ⟨hx, hb, hml, hown, hts⟩ (c_M_step l dC dI bd cs _ N μ (xs (i + 1).toNatClampNeg) hq285) (cwV 1 hts (goodVW k_763 k_764 k_765 k_8 k_766) rfl rfl rfl ⟨rfl, by decide, by decide, by decide +kernel⟩ ⟨Nat.le_of_ble_eq_true rfl, Nat.le_of_ble_eq_true rfl⟩) ⟨blindM, va_recv hK hPm rfl g_M, payM hPm hK (D_left (D_right hD)) hN⟩ rfl rfl hl.1 rfl (lv_room (Nat.le_of_ble_eq_true rfl)) d_law_285 ⟨hcB, hsB⟩) hS (fun q _ h => hF1 q h) hF1 (fun r285 σ285 t H locs ht hvm hpost hB hz1 hk1 hS => ?_)
      obtain ⟨e1, e2⟩ := hpost
      subst e1
      subst e2
      obtain ⟨hP1, hK1, hD1⟩ := hB
      rw [ht] at hP1
      have hP := fr (ap_mx hD) hk1 hP
      have hPo := fr (ap_mo hD) hk1 hPo
      have hPm := hP1
      have hD := D_3 hD (σ' := y273) (μ' := σ285) (f' := z273)
      refine lv_istore hx hb d_law_288 hl (by decide) (lv' := [(6, .int r285), (5, .int r273), (0, .ref b), (1, .ref (ad 0 0)), (2, .ref (bd 0 0)), (3, .ref qo), (4, .int i)]) rfl (fun ls hl => ?_)
      refine lv_goto (tgt := 708) hx hb d_law_290 (by decide) ?_
      exact KF _ _ _ _ ⟨y273, σ285, z273, i, rfl, hM, lv_sub hl [2, 3, 4, 5, 6] rfl, hP, hPm, hPo, hD, hS⟩
    rw [if_neg hw_4] at hM
    by_cases hw_5 : (xs i.toNatClampNeg &&& 31) = 5
    · rw [if_pos hw_5, m_case_5] at hM
      refine lv_tableIn (tgt := 293) (off := 244) hx hb d_law_49 (by rw [hw_5]; decide) (by rw [hw_5]; decide) (by rw [hw_5]; decide) (by decide) ?_
      refine lv_aload_n hx hb d_law_293 rfl (lv_at hl 1 rfl) ?_
      refine lv_aload_n hx hb d_law_294 rfl (lv_at hl 0 rfl) ?_
      refine lv_iload hx hb d_law_295 (lv_at hl 4 rfl) ?_
      refine lv_iconst (v := 1) hx hb d_law_297 (by decide) ?_
      refine lv_iadd hx hb d_law_298 ?_
      have hg299 := gd_c hM
      have hM := gd_v hM
      refine va_sld hx hb hX hbl (Nat.not_le.mpr hbl) hS (inb_in hg299) d_law_299 ?_
      refine lv_aload_n hx hb d_law_300 rfl (lv_at hl 0 rfl) ?_
      refine lv_iload hx hb d_law_301 (lv_at hl 4 rfl) ?_
      refine lv_iconst (v := 2) hx hb d_law_303 (by decide) ?_
      refine lv_iadd hx hb d_law_304 ?_
      have hg305 := gd_c hM
      have hM := gd_v hM
      refine va_sld hx hb hX hbl (Nat.not_le.mpr hbl) hS (inb_in hg305) d_law_305 ?_
      refine lv_aload_n hx hb d_law_306 rfl (lv_at hl 3 rfl) ?_
      obtain ⟨x307, hq307, hM⟩ := bH_some hM
      obtain ⟨x307, y307, z307⟩ := x307
      have hDo := D_xo hD
      have hF1 := free_all hDo hS hA
      refine va_calli (va_runSW (n := 4) (As := [.ref (ad 0 0), .int (xs (i + 1).toNatClampNeg), .int (xs (i + 2).toNatClampNeg), .ref qo]) (rest := []) ⟨hx, hb, hml, hown, hts⟩ (c_L_fault l htr dC dI ad cs cL qo _ N σ f (xs (i + 1).toNatClampNeg) (xs (i + 2).toNatClampNeg) hq307) (goodX k_604) rfl rfl ⟨Nat.le_of_ble_eq_true rfl, Nat.le_of_ble_eq_true rfl⟩ (htb _ k_602) (htb _ k_603) (htb _ k_0) ⟨by decide, by decide, by decide +kernel⟩ ⟨blindL, payL (hP.app hPo) hK hKl hDo hN hZ (fun a ha => hS.2.1 a ha (Nat.not_le.mpr ha))⟩ rfl rfl hl.1 rfl (lv_room (Nat.le_of_ble_eq_true rfl)) d_law_307 ⟨hcA, hsA⟩) hS (fun q _ h => hF1 q h) hF1 (fun r307 u307 t H locs ht hvm hpost hB hz1 hk1 hS => ?_)
      obtain ⟨e1, e2⟩ := hpost
      subst e1
      subst e2
      rw [ht] at hB
      dsimp only at hB hM
      have hPm := fr (ap_om hD) hk1 hPm
      have hP := P_left hB
      have hPo := P_right hB
      have hD := D_3 hD (σ' := y307) (μ' := μ) (f' := z307)
      refine W.widen (k := 600000 - n33) (n := 7290000 - 6 * n33) (by omega) (by omega) ?_
      refine lv_istore hx hb d_law_310 hl (by decide) (lv' := [(5, .int r307), (0, .ref b), (1, .ref (ad 0 0)), (2, .ref (bd 0 0)), (3, .ref qo), (4, .int i)]) rfl (fun ls hl => ?_)
      refine lv_aload_n hx hb d_law_312 rfl (lv_at hl 3 rfl) ?_
      refine lv_aload_n hx hb d_law_313 rfl (lv_at hl 1 rfl) ?_
      refine lv_iload hx hb d_law_314 (lv_at hl 5 rfl) ?_
      refine lv_iconst (v := 1) hx hb d_law_316 (by decide) ?_
      refine lv_iadd hx hb d_law_317 ?_
      have hg318 := gd_c hM
      have hM := gd_v hM
      refine va_sld hx hb hX hbl (Nat.not_le.mpr hbl) hS (inb_in hg318) d_law_318 ?_
      refine lv_aload_n hx hb d_law_319 rfl (lv_at hl 1 rfl) ?_
      refine lv_iload hx hb d_law_320 (lv_at hl 5 rfl) ?_
      refine lv_iconst (v := 2) hx hb d_law_322 (by decide) ?_
      refine lv_iadd hx hb d_law_323 ?_
      have hg324 := gd_c hM
      have hM := gd_v hM
      refine va_sld hx hb hX hbl (Nat.not_le.mpr hbl) hS (inb_in hg324) d_law_324 ?_
      have hF1 := free_all (D_left (D_right hD)) hS hA
      obtain ⟨x325, y325, hq325, hM⟩ := bI_some hM
      refine va_calli (va_runV (As := [.int (xs (i + 1).toNatClampNeg), .int (xs (i + 2).toNatClampNeg)]) (rest := []) ⟨hx, hb, hml, hown, hts⟩ (c_M_fault l dC dI bd cs _ N μ (xs (i + 1).toNatClampNeg) (xs (i + 2).toNatClampNeg) hq325) (cwV 2 hts (goodVW k_823 k_824 k_825 k_8 k_826) rfl rfl rfl ⟨rfl, by decide, by decide, by decide +kernel⟩ ⟨Nat.le_of_ble_eq_true rfl, Nat.le_of_ble_eq_true rfl⟩) ⟨blindM, va_recv hK hPm rfl g_M, payM hPm hK (D_left (D_right hD)) hN⟩ rfl rfl hl.1 rfl (lv_room (Nat.le_of_ble_eq_true rfl)) d_law_325 ⟨hcB, hsB⟩) hS (fun q _ h => hF1 q h) hF1 (fun r325 σ325 t H locs ht hvm hpost hB hz1 hk1 hS => ?_)
      obtain ⟨e1, e2⟩ := hpost
      subst e1
      subst e2
      obtain ⟨hP1, hK1, hD1⟩ := hB
      rw [ht] at hP1
      have hP := fr (ap_mx hD) hk1 hP
      have hPo := fr (ap_mo hD) hk1 hPo
      have hPm := hP1
      have hD := D_3 hD (σ' := y307) (μ' := σ325) (f' := z307)
      refine lv_istore hx hb d_law_328 hl (by decide) (lv' := [(6, .int r325), (5, .int r307), (0, .ref b), (1, .ref (ad 0 0)), (2, .ref (bd 0 0)), (3, .ref qo), (4, .int i)]) rfl (fun ls hl => ?_)
      refine lv_goto (tgt := 708) hx hb d_law_330 (by decide) ?_
      exact KF _ _ _ _ ⟨y307, σ325, z307, i, rfl, hM, lv_sub hl [2, 3, 4, 5, 6] rfl, hP, hPm, hPo, hD, hS⟩
    rw [if_neg hw_5] at hM
    by_cases hw_6 : (xs i.toNatClampNeg &&& 31) = 6
    · rw [if_pos hw_6, m_case_6] at hM
      refine lv_tableIn (tgt := 333) (off := 284) hx hb d_law_49 (by rw [hw_6]; decide) (by rw [hw_6]; decide) (by rw [hw_6]; decide) (by decide) ?_
      refine W.widen (k := 600000 - n33) (n := 7290000 - 6 * n33) (by omega) (by omega) ?_
      refine lv_aload_n hx hb d_law_333 rfl (lv_at hl 1 rfl) ?_
      refine lv_aload_n hx hb d_law_334 rfl (lv_at hl 0 rfl) ?_
      refine lv_iload hx hb d_law_335 (lv_at hl 4 rfl) ?_
      refine lv_iconst (v := 1) hx hb d_law_337 (by decide) ?_
      refine lv_iadd hx hb d_law_338 ?_
      have hg339 := gd_c hM
      have hM := gd_v hM
      refine va_sld hx hb hX hbl (Nat.not_le.mpr hbl) hS (inb_in hg339) d_law_339 ?_
      have hF1 := free_all (D_left hD) hS hA
      obtain ⟨x340, y340, hq340, hM⟩ := bI_some hM
      refine va_calli (va_runV (As := [.int (xs (i + 1).toNatClampNeg)]) (rest := []) ⟨hx, hb, hml, hown, hts⟩ (c_O_cutAfter l dC dI ad cs _ N σ (xs (i + 1).toNatClampNeg) hq340) (cwV 1 hts (goodVW k_209 k_210 k_211 k_1 k_212) rfl rfl rfl ⟨rfl, by decide, by decide, by decide +kernel⟩ ⟨Nat.le_of_ble_eq_true rfl, Nat.le_of_ble_eq_true rfl⟩) ⟨blindX, va_recv hK hP rfl g_O, payX hP hK (D_left hD) hN⟩ rfl rfl hl.1 rfl (lv_room (Nat.le_of_ble_eq_true rfl)) d_law_340 ⟨hcB, hsB⟩) hS (fun q _ h => hF1 q h) hF1 (fun r340 σ340 t H locs ht hvm hpost hB hz1 hk1 hS => ?_)
      obtain ⟨e1, e2⟩ := hpost
      subst e1
      subst e2
      obtain ⟨hP1, hK1, hD1⟩ := hB
      rw [ht] at hP1
      have hPm := fr (ap_xm hD) hk1 hPm
      have hPo := fr (ap_xo hD) hk1 hPo
      have hP := hP1
      have hD := D_3 hD (σ' := σ340) (μ' := μ) (f' := f)
      refine lv_pop hx hb d_law_343 rfl ?_
      refine lv_aload_n hx hb d_law_344 rfl (lv_at hl 2 rfl) ?_
      refine lv_aload_n hx hb d_law_345 rfl (lv_at hl 0 rfl) ?_
      refine lv_iload hx hb d_law_346 (lv_at hl 4 rfl) ?_
      refine lv_iconst (v := 1) hx hb d_law_348 (by decide) ?_
      refine lv_iadd hx hb d_law_349 ?_
      have hg350 := gd_c hM
      have hM := gd_v hM
      refine va_sld hx hb hX hbl (Nat.not_le.mpr hbl) hS (inb_in hg350) d_law_350 ?_
      have hF1 := free_all (D_left (D_right hD)) hS hA
      obtain ⟨x351, y351, hq351, hM⟩ := bI_some hM
      refine va_calli (va_runV (As := [.int (xs (i + 1).toNatClampNeg)]) (rest := []) ⟨hx, hb, hml, hown, hts⟩ (c_M_cutAfter l dC dI bd cs _ N μ (xs (i + 1).toNatClampNeg) hq351) (cwV 1 hts (goodVW k_830 k_831 k_832 k_8 k_833) rfl rfl rfl ⟨rfl, by decide, by decide, by decide +kernel⟩ ⟨Nat.le_of_ble_eq_true rfl, Nat.le_of_ble_eq_true rfl⟩) ⟨blindM, va_recv hK hPm rfl g_M, payM hPm hK (D_left (D_right hD)) hN⟩ rfl rfl hl.1 rfl (lv_room (Nat.le_of_ble_eq_true rfl)) d_law_351 ⟨hcB, hsB⟩) hS (fun q _ h => hF1 q h) hF1 (fun r351 σ351 t H locs ht hvm hpost hB hz1 hk1 hS => ?_)
      obtain ⟨e1, e2⟩ := hpost
      subst e1
      subst e2
      obtain ⟨hP1, hK1, hD1⟩ := hB
      rw [ht] at hP1
      have hP := fr (ap_mx hD) hk1 hP
      have hPo := fr (ap_mo hD) hk1 hPo
      have hPm := hP1
      have hD := D_3 hD (σ' := σ340) (μ' := σ351) (f' := f)
      refine lv_pop hx hb d_law_354 rfl ?_
      refine lv_goto (tgt := 708) hx hb d_law_355 (by decide) ?_
      exact KF _ _ _ _ ⟨σ340, σ351, f, i, rfl, hM, lv_sub hl [0, 1, 2, 3, 4] rfl, hP, hPm, hPo, hD, hS⟩
    rw [if_neg hw_6] at hM
    by_cases hw_7 : (xs i.toNatClampNeg &&& 31) = 7
    · rw [if_pos hw_7, m_case_7] at hM
      refine lv_tableIn (tgt := 358) (off := 309) hx hb d_law_49 (by rw [hw_7]; decide) (by rw [hw_7]; decide) (by rw [hw_7]; decide) (by decide) ?_
      refine W.widen (k := 600000 - n33) (n := 7290000 - 6 * n33) (by omega) (by omega) ?_
      refine lv_aload_n hx hb d_law_358 rfl (lv_at hl 1 rfl) ?_
      have hF1 := free_all (D_left hD) hS hA
      obtain ⟨x359, y359, hq359, hM⟩ := bI_some hM
      refine va_calli (va_runV (As := []) (rest := []) ⟨hx, hb, hml, hown, hts⟩ (c_O_resume l dC dI ad cs _ N σ hq359) (cwV 0 hts (goodVW k_221 k_222 k_223 k_1 k_224) rfl rfl rfl ⟨rfl, by decide, by decide, by decide +kernel⟩ ⟨Nat.le_of_ble_eq_true rfl, Nat.le_of_ble_eq_true rfl⟩) ⟨blindX, va_recv hK hP rfl g_O, payX hP hK (D_left hD) hN⟩ rfl rfl hl.1 rfl (lv_room (Nat.le_of_ble_eq_true rfl)) d_law_359 ⟨hcB, hsB⟩) hS (fun q _ h => hF1 q h) hF1 (fun r359 σ359 t H locs ht hvm hpost hB hz1 hk1 hS => ?_)
      obtain ⟨e1, e2⟩ := hpost
      subst e1
      subst e2
      obtain ⟨hP1, hK1, hD1⟩ := hB
      rw [ht] at hP1
      have hPm := fr (ap_xm hD) hk1 hPm
      have hPo := fr (ap_xo hD) hk1 hPo
      have hP := hP1
      have hD := D_3 hD (σ' := σ359) (μ' := μ) (f' := f)
      refine lv_pop hx hb d_law_362 rfl ?_
      refine lv_aload_n hx hb d_law_363 rfl (lv_at hl 2 rfl) ?_
      have hF1 := free_all (D_left (D_right hD)) hS hA
      obtain ⟨x364, y364, hq364, hM⟩ := bI_some hM
      refine va_calli (va_runV (As := []) (rest := []) ⟨hx, hb, hml, hown, hts⟩ (c_M_resume l dC dI bd cs _ N μ hq364) (cwV 0 hts (goodVW k_834 k_835 k_836 k_8 k_837) rfl rfl rfl ⟨rfl, by decide, by decide, by decide +kernel⟩ ⟨Nat.le_of_ble_eq_true rfl, Nat.le_of_ble_eq_true rfl⟩) ⟨blindM, va_recv hK hPm rfl g_M, payM hPm hK (D_left (D_right hD)) hN⟩ rfl rfl hl.1 rfl (lv_room (Nat.le_of_ble_eq_true rfl)) d_law_364 ⟨hcB, hsB⟩) hS (fun q _ h => hF1 q h) hF1 (fun r364 σ364 t H locs ht hvm hpost hB hz1 hk1 hS => ?_)
      obtain ⟨e1, e2⟩ := hpost
      subst e1
      subst e2
      obtain ⟨hP1, hK1, hD1⟩ := hB
      rw [ht] at hP1
      have hP := fr (ap_mx hD) hk1 hP
      have hPo := fr (ap_mo hD) hk1 hPo
      have hPm := hP1
      have hD := D_3 hD (σ' := σ359) (μ' := σ364) (f' := f)
      refine lv_pop hx hb d_law_367 rfl ?_
      refine lv_goto (tgt := 708) hx hb d_law_368 (by decide) ?_
      exact KF _ _ _ _ ⟨σ359, σ364, f, i, rfl, hM, lv_sub hl [0, 1, 2, 3, 4] rfl, hP, hPm, hPo, hD, hS⟩
    rw [if_neg hw_7] at hM
    by_cases hw_8 : (xs i.toNatClampNeg &&& 31) = 8
    · rw [if_pos hw_8, m_case_8] at hM
      refine lv_tableIn (tgt := 371) (off := 322) hx hb d_law_49 (by rw [hw_8]; decide) (by rw [hw_8]; decide) (by rw [hw_8]; decide) (by decide) ?_
      refine W.widen (k := 600000 - n33) (n := 7290000 - 6 * n33) (by omega) (by omega) ?_
      refine lv_aload_n hx hb d_law_371 rfl (lv_at hl 1 rfl) ?_
      obtain ⟨x372, y372, hq372, hM⟩ := bI_some hM
      refine va_calli (va_runV (As := []) (rest := []) ⟨hx, hb, hml, hown, hts⟩ (c_O_phase l dC dI ad cs _ N σ hq372) (cwV 0 hts (goodVW k_229 k_230 k_231 k_1 k_232) rfl rfl rfl ⟨rfl, by decide, by decide, by decide +kernel⟩ ⟨Nat.le_of_ble_eq_true rfl, Nat.le_of_ble_eq_true rfl⟩) ⟨blindX, va_recv hK hP rfl g_O, payX hP hK (D_left hD) hN⟩ rfl rfl hl.1 rfl (lv_room (Nat.le_of_ble_eq_true rfl)) d_law_372 ⟨hcB, hsB⟩) hS (fun q h0 h => absurd h0 (Nat.not_lt.mpr h)) (fun q h => hA q (Nat.le_trans hS.1 h)) (fun r372 u t H locs ht hvm hpost hB hz1 hk1 hS => ?_)
      obtain ⟨e1, e2⟩ := hpost
      subst e1
      subst e2
      have hP := keepP hP hk1
      have hPm := keepP hPm hk1
      have hPo := keepP hPo hk1
      refine lv_pop hx hb d_law_375 rfl ?_
      refine lv_aload_n hx hb d_law_376 rfl (lv_at hl 2 rfl) ?_
      have hF1 := free_all (D_left (D_right hD)) hS hA
      obtain ⟨x377, y377, hq377, hM⟩ := bI_some hM
      refine va_calli (va_runV (As := []) (rest := []) ⟨hx, hb, hml, hown, hts⟩ (c_M_phase l dC dI bd cs _ N μ hq377) (cwV 0 hts (goodVW k_838 k_839 k_840 k_8 k_841) rfl rfl rfl ⟨rfl, by decide, by decide, by decide +kernel⟩ ⟨Nat.le_of_ble_eq_true rfl, Nat.le_of_ble_eq_true rfl⟩) ⟨blindM, va_recv hK hPm rfl g_M, payM hPm hK (D_left (D_right hD)) hN⟩ rfl rfl hl.1 rfl (lv_room (Nat.le_of_ble_eq_true rfl)) d_law_377 ⟨hcB, hsB⟩) hS (fun q _ h => hF1 q h) hF1 (fun r377 σ377 t H locs ht hvm hpost hB hz1 hk1 hS => ?_)
      obtain ⟨e1, e2⟩ := hpost
      subst e1
      subst e2
      obtain ⟨hP1, hK1, hD1⟩ := hB
      rw [ht] at hP1
      have hP := fr (ap_mx hD) hk1 hP
      have hPo := fr (ap_mo hD) hk1 hPo
      have hPm := hP1
      have hD := D_3 hD (σ' := σ) (μ' := σ377) (f' := f)
      refine lv_pop hx hb d_law_380 rfl ?_
      refine lv_goto (tgt := 708) hx hb d_law_381 (by decide) ?_
      exact KF _ _ _ _ ⟨σ, σ377, f, i, rfl, hM, lv_sub hl [0, 1, 2, 3, 4] rfl, hP, hPm, hPo, hD, hS⟩
    rw [if_neg hw_8] at hM
    by_cases hw_9 : (xs i.toNatClampNeg &&& 31) = 9
    · rw [if_pos hw_9, m_case_9] at hM
      refine lv_tableIn (tgt := 384) (off := 335) hx hb d_law_49 (by rw [hw_9]; decide) (by rw [hw_9]; decide) (by rw [hw_9]; decide) (by decide) ?_
      refine W.widen (k := 600000 - n33) (n := 7290000 - 6 * n33) (by omega) (by omega) ?_
      refine lv_aload_n hx hb d_law_384 rfl (lv_at hl 1 rfl) ?_
      obtain ⟨x385, y385, hq385, hM⟩ := bI_some hM
      refine va_calli (va_runV (As := []) (rest := []) ⟨hx, hb, hml, hown, hts⟩ (c_O_level l dC dI ad cs _ N σ hq385) (cwV 0 hts (goodVW k_233 k_234 k_235 k_1 k_236) rfl rfl rfl ⟨rfl, by decide, by decide, by decide +kernel⟩ ⟨Nat.le_of_ble_eq_true rfl, Nat.le_of_ble_eq_true rfl⟩) ⟨blindX, va_recv hK hP rfl g_O, payX hP hK (D_left hD) hN⟩ rfl rfl hl.1 rfl (lv_room (Nat.le_of_ble_eq_true rfl)) d_law_385 ⟨hcB, hsB⟩) hS (fun q h0 h => absurd h0 (Nat.not_lt.mpr h)) (fun q h => hA q (Nat.le_trans hS.1 h)) (fun r385 u t H locs ht hvm hpost hB hz1 hk1 hS => ?_)
      obtain ⟨e1, e2⟩ := hpost
      subst e1
      subst e2
      have hP := keepP hP hk1
      have hPm := keepP hPm hk1
      have hPo := keepP hPo hk1
      refine lv_pop hx hb d_law_388 rfl ?_
      refine lv_aload_n hx hb d_law_389 rfl (lv_at hl 2 rfl) ?_
      have hF1 := free_all (D_left (D_right hD)) hS hA
      obtain ⟨x390, y390, hq390, hM⟩ := bI_some hM
      refine va_calli (va_runV (As := []) (rest := []) ⟨hx, hb, hml, hown, hts⟩ (c_M_level l dC dI bd cs _ N μ hq390) (cwV 0 hts (goodVW k_842 k_843 k_844 k_8 k_845) rfl rfl rfl ⟨rfl, by decide, by decide, by decide +kernel⟩ ⟨Nat.le_of_ble_eq_true rfl, Nat.le_of_ble_eq_true rfl⟩) ⟨blindM, va_recv hK hPm rfl g_M, payM hPm hK (D_left (D_right hD)) hN⟩ rfl rfl hl.1 rfl (lv_room (Nat.le_of_ble_eq_true rfl)) d_law_390 ⟨hcB, hsB⟩) hS (fun q _ h => hF1 q h) hF1 (fun r390 σ390 t H locs ht hvm hpost hB hz1 hk1 hS => ?_)
      obtain ⟨e1, e2⟩ := hpost
      subst e1
      subst e2
      obtain ⟨hP1, hK1, hD1⟩ := hB
      rw [ht] at hP1
      have hP := fr (ap_mx hD) hk1 hP
      have hPo := fr (ap_mo hD) hk1 hPo
      have hPm := hP1
      have hD := D_3 hD (σ' := σ) (μ' := σ390) (f' := f)
      refine lv_pop hx hb d_law_393 rfl ?_
      refine lv_goto (tgt := 708) hx hb d_law_394 (by decide) ?_
      exact KF _ _ _ _ ⟨σ, σ390, f, i, rfl, hM, lv_sub hl [0, 1, 2, 3, 4] rfl, hP, hPm, hPo, hD, hS⟩
    rw [if_neg hw_9] at hM
    by_cases hw_10 : (xs i.toNatClampNeg &&& 31) = 10
    · rw [if_pos hw_10, m_case_10] at hM
      refine lv_tableIn (tgt := 397) (off := 348) hx hb d_law_49 (by rw [hw_10]; decide) (by rw [hw_10]; decide) (by rw [hw_10]; decide) (by decide) ?_
      refine W.widen (k := 600000 - n33) (n := 7290000 - 6 * n33) (by omega) (by omega) ?_
      refine lv_aload_n hx hb d_law_397 rfl (lv_at hl 1 rfl) ?_
      refine lv_aload_n hx hb d_law_398 rfl (lv_at hl 0 rfl) ?_
      refine lv_iload hx hb d_law_399 (lv_at hl 4 rfl) ?_
      refine lv_iconst (v := 1) hx hb d_law_401 (by decide) ?_
      refine lv_iadd hx hb d_law_402 ?_
      have hg403 := gd_c hM
      have hM := gd_v hM
      refine va_sld hx hb hX hbl (Nat.not_le.mpr hbl) hS (inb_in hg403) d_law_403 ?_
      obtain ⟨x404, y404, hq404, hM⟩ := bI_some hM
      refine va_calli (va_runV (As := [.int (xs (i + 1).toNatClampNeg)]) (rest := []) ⟨hx, hb, hml, hown, hts⟩ (c_O_runs l dC dI ad cs _ N σ (xs (i + 1).toNatClampNeg) hq404) (cwV 1 hts (goodVW k_241 k_242 k_243 k_1 k_244) rfl rfl rfl ⟨rfl, by decide, by decide, by decide +kernel⟩ ⟨Nat.le_of_ble_eq_true rfl, Nat.le_of_ble_eq_true rfl⟩) ⟨blindX, va_recv hK hP rfl g_O, payX hP hK (D_left hD) hN⟩ rfl rfl hl.1 rfl (lv_room (Nat.le_of_ble_eq_true rfl)) d_law_404 ⟨hcB, hsB⟩) hS (fun q h0 h => absurd h0 (Nat.not_lt.mpr h)) (fun q h => hA q (Nat.le_trans hS.1 h)) (fun r404 u t H locs ht hvm hpost hB hz1 hk1 hS => ?_)
      obtain ⟨e1, e2⟩ := hpost
      subst e1
      subst e2
      have hP := keepP hP hk1
      have hPm := keepP hPm hk1
      have hPo := keepP hPo hk1
      refine lv_pop hx hb d_law_407 rfl ?_
      refine lv_aload_n hx hb d_law_408 rfl (lv_at hl 2 rfl) ?_
      refine lv_aload_n hx hb d_law_409 rfl (lv_at hl 0 rfl) ?_
      refine lv_iload hx hb d_law_410 (lv_at hl 4 rfl) ?_
      refine lv_iconst (v := 1) hx hb d_law_412 (by decide) ?_
      refine lv_iadd hx hb d_law_413 ?_
      have hg414 := gd_c hM
      have hM := gd_v hM
      refine va_sld hx hb hX hbl (Nat.not_le.mpr hbl) hS (inb_in hg414) d_law_414 ?_
      have hF1 := free_all (D_left (D_right hD)) hS hA
      obtain ⟨x415, y415, hq415, hM⟩ := bI_some hM
      refine va_calli (va_runV (As := [.int (xs (i + 1).toNatClampNeg)]) (rest := []) ⟨hx, hb, hml, hown, hts⟩ (c_M_runs l dC dI bd cs _ N μ (xs (i + 1).toNatClampNeg) hq415) (cwV 1 hts (goodVW k_846 k_847 k_848 k_8 k_849) rfl rfl rfl ⟨rfl, by decide, by decide, by decide +kernel⟩ ⟨Nat.le_of_ble_eq_true rfl, Nat.le_of_ble_eq_true rfl⟩) ⟨blindM, va_recv hK hPm rfl g_M, payM hPm hK (D_left (D_right hD)) hN⟩ rfl rfl hl.1 rfl (lv_room (Nat.le_of_ble_eq_true rfl)) d_law_415 ⟨hcB, hsB⟩) hS (fun q _ h => hF1 q h) hF1 (fun r415 σ415 t H locs ht hvm hpost hB hz1 hk1 hS => ?_)
      obtain ⟨e1, e2⟩ := hpost
      subst e1
      subst e2
      obtain ⟨hP1, hK1, hD1⟩ := hB
      rw [ht] at hP1
      have hP := fr (ap_mx hD) hk1 hP
      have hPo := fr (ap_mo hD) hk1 hPo
      have hPm := hP1
      have hD := D_3 hD (σ' := σ) (μ' := σ415) (f' := f)
      refine lv_pop hx hb d_law_418 rfl ?_
      refine lv_goto (tgt := 708) hx hb d_law_419 (by decide) ?_
      exact KF _ _ _ _ ⟨σ, σ415, f, i, rfl, hM, lv_sub hl [0, 1, 2, 3, 4] rfl, hP, hPm, hPo, hD, hS⟩
    rw [if_neg hw_10] at hM
    by_cases hw_11 : (xs i.toNatClampNeg &&& 31) = 11
    · rw [if_pos hw_11, m_case_11] at hM
      refine lv_tableIn (tgt := 422) (off := 373) hx hb d_law_49 (by rw [hw_11]; decide) (by rw [hw_11]; decide) (by rw [hw_11]; decide) (by decide) ?_
      refine W.widen (k := 600000 - n33) (n := 7290000 - 6 * n33) (by omega) (by omega) ?_
      refine lv_aload_n hx hb d_law_422 rfl (lv_at hl 1 rfl) ?_
      refine lv_aload_n hx hb d_law_423 rfl (lv_at hl 0 rfl) ?_
      refine lv_iload hx hb d_law_424 (lv_at hl 4 rfl) ?_
      refine lv_iconst (v := 1) hx hb d_law_426 (by decide) ?_
      refine lv_iadd hx hb d_law_427 ?_
      have hg428 := gd_c hM
      have hM := gd_v hM
      refine va_sld hx hb hX hbl (Nat.not_le.mpr hbl) hS (inb_in hg428) d_law_428 ?_
      obtain ⟨x429, y429, hq429, hM⟩ := bI_some hM
      refine va_calli (va_runV (As := [.int (xs (i + 1).toNatClampNeg)]) (rest := []) ⟨hx, hb, hml, hown, hts⟩ (c_O_dummies l dC dI ad cs _ N σ (xs (i + 1).toNatClampNeg) hq429) (cwV 1 hts (goodVW k_252 k_253 k_254 k_1 k_255) rfl rfl rfl ⟨rfl, by decide, by decide, by decide +kernel⟩ ⟨Nat.le_of_ble_eq_true rfl, Nat.le_of_ble_eq_true rfl⟩) ⟨blindX, va_recv hK hP rfl g_O, payX hP hK (D_left hD) hN⟩ rfl rfl hl.1 rfl (lv_room (Nat.le_of_ble_eq_true rfl)) d_law_429 ⟨hcB, hsB⟩) hS (fun q h0 h => absurd h0 (Nat.not_lt.mpr h)) (fun q h => hA q (Nat.le_trans hS.1 h)) (fun r429 u t H locs ht hvm hpost hB hz1 hk1 hS => ?_)
      obtain ⟨e1, e2⟩ := hpost
      subst e1
      subst e2
      have hP := keepP hP hk1
      have hPm := keepP hPm hk1
      have hPo := keepP hPo hk1
      refine lv_pop hx hb d_law_432 rfl ?_
      refine lv_aload_n hx hb d_law_433 rfl (lv_at hl 2 rfl) ?_
      refine lv_aload_n hx hb d_law_434 rfl (lv_at hl 0 rfl) ?_
      refine lv_iload hx hb d_law_435 (lv_at hl 4 rfl) ?_
      refine lv_iconst (v := 1) hx hb d_law_437 (by decide) ?_
      refine lv_iadd hx hb d_law_438 ?_
      have hg439 := gd_c hM
      have hM := gd_v hM
      refine va_sld hx hb hX hbl (Nat.not_le.mpr hbl) hS (inb_in hg439) d_law_439 ?_
      have hF1 := free_all (D_left (D_right hD)) hS hA
      obtain ⟨x440, y440, hq440, hM⟩ := bI_some hM
      refine va_calli (va_runV (As := [.int (xs (i + 1).toNatClampNeg)]) (rest := []) ⟨hx, hb, hml, hown, hts⟩ (c_M_dummies l dC dI bd cs _ N μ (xs (i + 1).toNatClampNeg) hq440) (cwV 1 hts (goodVW k_850 k_851 k_852 k_8 k_853) rfl rfl rfl ⟨rfl, by decide, by decide, by decide +kernel⟩ ⟨Nat.le_of_ble_eq_true rfl, Nat.le_of_ble_eq_true rfl⟩) ⟨blindM, va_recv hK hPm rfl g_M, payM hPm hK (D_left (D_right hD)) hN⟩ rfl rfl hl.1 rfl (lv_room (Nat.le_of_ble_eq_true rfl)) d_law_440 ⟨hcB, hsB⟩) hS (fun q _ h => hF1 q h) hF1 (fun r440 σ440 t H locs ht hvm hpost hB hz1 hk1 hS => ?_)
      obtain ⟨e1, e2⟩ := hpost
      subst e1
      subst e2
      obtain ⟨hP1, hK1, hD1⟩ := hB
      rw [ht] at hP1
      have hP := fr (ap_mx hD) hk1 hP
      have hPo := fr (ap_mo hD) hk1 hPo
      have hPm := hP1
      have hD := D_3 hD (σ' := σ) (μ' := σ440) (f' := f)
      refine lv_pop hx hb d_law_443 rfl ?_
      refine lv_goto (tgt := 708) hx hb d_law_444 (by decide) ?_
      exact KF _ _ _ _ ⟨σ, σ440, f, i, rfl, hM, lv_sub hl [0, 1, 2, 3, 4] rfl, hP, hPm, hPo, hD, hS⟩
    rw [if_neg hw_11] at hM
    by_cases hw_12 : (xs i.toNatClampNeg &&& 31) = 12
    · rw [if_pos hw_12, m_case_12] at hM
      refine lv_tableIn (tgt := 447) (off := 398) hx hb d_law_49 (by rw [hw_12]; decide) (by rw [hw_12]; decide) (by rw [hw_12]; decide) (by decide) ?_
      refine W.widen (k := 600000 - n33) (n := 7290000 - 6 * n33) (by omega) (by omega) ?_
      refine lv_aload_n hx hb d_law_447 rfl (lv_at hl 1 rfl) ?_
      refine lv_aload_n hx hb d_law_448 rfl (lv_at hl 0 rfl) ?_
      refine lv_iload hx hb d_law_449 (lv_at hl 4 rfl) ?_
      refine lv_iconst (v := 1) hx hb d_law_451 (by decide) ?_
      refine lv_iadd hx hb d_law_452 ?_
      have hg453 := gd_c hM
      have hM := gd_v hM
      refine va_sld hx hb hX hbl (Nat.not_le.mpr hbl) hS (inb_in hg453) d_law_453 ?_
      obtain ⟨x454, y454, hq454, hM⟩ := bI_some hM
      refine va_calli (va_runV (As := [.int (xs (i + 1).toNatClampNeg)]) (rest := []) ⟨hx, hb, hml, hown, hts⟩ (c_O_role l dC dI ad cs _ N σ (xs (i + 1).toNatClampNeg) hq454) (cwV 1 hts (goodVW k_260 k_261 k_262 k_1 k_263) rfl rfl rfl ⟨rfl, by decide, by decide, by decide +kernel⟩ ⟨Nat.le_of_ble_eq_true rfl, Nat.le_of_ble_eq_true rfl⟩) ⟨blindX, va_recv hK hP rfl g_O, payX hP hK (D_left hD) hN⟩ rfl rfl hl.1 rfl (lv_room (Nat.le_of_ble_eq_true rfl)) d_law_454 ⟨hcB, hsB⟩) hS (fun q h0 h => absurd h0 (Nat.not_lt.mpr h)) (fun q h => hA q (Nat.le_trans hS.1 h)) (fun r454 u t H locs ht hvm hpost hB hz1 hk1 hS => ?_)
      obtain ⟨e1, e2⟩ := hpost
      subst e1
      subst e2
      have hP := keepP hP hk1
      have hPm := keepP hPm hk1
      have hPo := keepP hPo hk1
      refine lv_pop hx hb d_law_457 rfl ?_
      refine lv_aload_n hx hb d_law_458 rfl (lv_at hl 2 rfl) ?_
      refine lv_aload_n hx hb d_law_459 rfl (lv_at hl 0 rfl) ?_
      refine lv_iload hx hb d_law_460 (lv_at hl 4 rfl) ?_
      refine lv_iconst (v := 1) hx hb d_law_462 (by decide) ?_
      refine lv_iadd hx hb d_law_463 ?_
      have hg464 := gd_c hM
      have hM := gd_v hM
      refine va_sld hx hb hX hbl (Nat.not_le.mpr hbl) hS (inb_in hg464) d_law_464 ?_
      have hF1 := free_all (D_left (D_right hD)) hS hA
      obtain ⟨x465, y465, hq465, hM⟩ := bI_some hM
      refine va_calli (va_runV (As := [.int (xs (i + 1).toNatClampNeg)]) (rest := []) ⟨hx, hb, hml, hown, hts⟩ (c_M_role l dC dI bd cs _ N μ (xs (i + 1).toNatClampNeg) hq465) (cwV 1 hts (goodVW k_854 k_855 k_856 k_8 k_857) rfl rfl rfl ⟨rfl, by decide, by decide, by decide +kernel⟩ ⟨Nat.le_of_ble_eq_true rfl, Nat.le_of_ble_eq_true rfl⟩) ⟨blindM, va_recv hK hPm rfl g_M, payM hPm hK (D_left (D_right hD)) hN⟩ rfl rfl hl.1 rfl (lv_room (Nat.le_of_ble_eq_true rfl)) d_law_465 ⟨hcB, hsB⟩) hS (fun q _ h => hF1 q h) hF1 (fun r465 σ465 t H locs ht hvm hpost hB hz1 hk1 hS => ?_)
      obtain ⟨e1, e2⟩ := hpost
      subst e1
      subst e2
      obtain ⟨hP1, hK1, hD1⟩ := hB
      rw [ht] at hP1
      have hP := fr (ap_mx hD) hk1 hP
      have hPo := fr (ap_mo hD) hk1 hPo
      have hPm := hP1
      have hD := D_3 hD (σ' := σ) (μ' := σ465) (f' := f)
      refine lv_pop hx hb d_law_468 rfl ?_
      refine lv_goto (tgt := 708) hx hb d_law_469 (by decide) ?_
      exact KF _ _ _ _ ⟨σ, σ465, f, i, rfl, hM, lv_sub hl [0, 1, 2, 3, 4] rfl, hP, hPm, hPo, hD, hS⟩
    rw [if_neg hw_12] at hM
    by_cases hw_13 : (xs i.toNatClampNeg &&& 31) = 13
    · rw [if_pos hw_13, m_case_13] at hM
      refine lv_tableIn (tgt := 472) (off := 423) hx hb d_law_49 (by rw [hw_13]; decide) (by rw [hw_13]; decide) (by rw [hw_13]; decide) (by decide) ?_
      refine W.widen (k := 600000 - n33) (n := 7290000 - 6 * n33) (by omega) (by omega) ?_
      refine lv_aload_n hx hb d_law_472 rfl (lv_at hl 1 rfl) ?_
      refine lv_aload_n hx hb d_law_473 rfl (lv_at hl 0 rfl) ?_
      refine lv_iload hx hb d_law_474 (lv_at hl 4 rfl) ?_
      refine lv_iconst (v := 1) hx hb d_law_476 (by decide) ?_
      refine lv_iadd hx hb d_law_477 ?_
      have hg478 := gd_c hM
      have hM := gd_v hM
      refine va_sld hx hb hX hbl (Nat.not_le.mpr hbl) hS (inb_in hg478) d_law_478 ?_
      refine lv_aload_n hx hb d_law_479 rfl (lv_at hl 0 rfl) ?_
      refine lv_iload hx hb d_law_480 (lv_at hl 4 rfl) ?_
      refine lv_iconst (v := 2) hx hb d_law_482 (by decide) ?_
      refine lv_iadd hx hb d_law_483 ?_
      have hg484 := gd_c hM
      have hM := gd_v hM
      refine va_sld hx hb hX hbl (Nat.not_le.mpr hbl) hS (inb_in hg484) d_law_484 ?_
      obtain ⟨x485, y485, hq485, hM⟩ := bI_some hM
      refine va_calli (va_runV (As := [.int (xs (i + 1).toNatClampNeg), .int (xs (i + 2).toNatClampNeg)]) (rest := []) ⟨hx, hb, hml, hown, hts⟩ (c_O_length l dC dI ad cs _ N σ (xs (i + 1).toNatClampNeg) (xs (i + 2).toNatClampNeg) hq485) (cwV 2 hts (goodVW k_264 k_265 k_266 k_1 k_267) rfl rfl rfl ⟨rfl, by decide, by decide, by decide +kernel⟩ ⟨Nat.le_of_ble_eq_true rfl, Nat.le_of_ble_eq_true rfl⟩) ⟨blindX, va_recv hK hP rfl g_O, payX hP hK (D_left hD) hN⟩ rfl rfl hl.1 rfl (lv_room (Nat.le_of_ble_eq_true rfl)) d_law_485 ⟨hcB, hsB⟩) hS (fun q h0 h => absurd h0 (Nat.not_lt.mpr h)) (fun q h => hA q (Nat.le_trans hS.1 h)) (fun r485 u t H locs ht hvm hpost hB hz1 hk1 hS => ?_)
      obtain ⟨e1, e2⟩ := hpost
      subst e1
      subst e2
      have hP := keepP hP hk1
      have hPm := keepP hPm hk1
      have hPo := keepP hPo hk1
      refine lv_pop hx hb d_law_488 rfl ?_
      refine lv_aload_n hx hb d_law_489 rfl (lv_at hl 2 rfl) ?_
      refine lv_aload_n hx hb d_law_490 rfl (lv_at hl 0 rfl) ?_
      refine lv_iload hx hb d_law_491 (lv_at hl 4 rfl) ?_
      refine lv_iconst (v := 1) hx hb d_law_493 (by decide) ?_
      refine lv_iadd hx hb d_law_494 ?_
      have hg495 := gd_c hM
      have hM := gd_v hM
      refine va_sld hx hb hX hbl (Nat.not_le.mpr hbl) hS (inb_in hg495) d_law_495 ?_
      refine lv_aload_n hx hb d_law_496 rfl (lv_at hl 0 rfl) ?_
      refine lv_iload hx hb d_law_497 (lv_at hl 4 rfl) ?_
      refine lv_iconst (v := 2) hx hb d_law_499 (by decide) ?_
      refine lv_iadd hx hb d_law_500 ?_
      have hg501 := gd_c hM
      have hM := gd_v hM
      refine va_sld hx hb hX hbl (Nat.not_le.mpr hbl) hS (inb_in hg501) d_law_501 ?_
      have hF1 := free_all (D_left (D_right hD)) hS hA
      obtain ⟨x502, y502, hq502, hM⟩ := bI_some hM
      refine va_calli (va_runV (As := [.int (xs (i + 1).toNatClampNeg), .int (xs (i + 2).toNatClampNeg)]) (rest := []) ⟨hx, hb, hml, hown, hts⟩ (c_M_length l dC dI bd cs _ N μ (xs (i + 1).toNatClampNeg) (xs (i + 2).toNatClampNeg) hq502) (cwV 2 hts (goodVW k_858 k_859 k_860 k_8 k_861) rfl rfl rfl ⟨rfl, by decide, by decide, by decide +kernel⟩ ⟨Nat.le_of_ble_eq_true rfl, Nat.le_of_ble_eq_true rfl⟩) ⟨blindM, va_recv hK hPm rfl g_M, payM hPm hK (D_left (D_right hD)) hN⟩ rfl rfl hl.1 rfl (lv_room (Nat.le_of_ble_eq_true rfl)) d_law_502 ⟨hcB, hsB⟩) hS (fun q _ h => hF1 q h) hF1 (fun r502 σ502 t H locs ht hvm hpost hB hz1 hk1 hS => ?_)
      obtain ⟨e1, e2⟩ := hpost
      subst e1
      subst e2
      obtain ⟨hP1, hK1, hD1⟩ := hB
      rw [ht] at hP1
      have hP := fr (ap_mx hD) hk1 hP
      have hPo := fr (ap_mo hD) hk1 hPo
      have hPm := hP1
      have hD := D_3 hD (σ' := σ) (μ' := σ502) (f' := f)
      refine lv_pop hx hb d_law_505 rfl ?_
      refine lv_goto (tgt := 708) hx hb d_law_506 (by decide) ?_
      exact KF _ _ _ _ ⟨σ, σ502, f, i, rfl, hM, lv_sub hl [0, 1, 2, 3, 4] rfl, hP, hPm, hPo, hD, hS⟩
    rw [if_neg hw_13] at hM
    by_cases hw_14 : (xs i.toNatClampNeg &&& 31) = 14
    · rw [if_pos hw_14, m_case_14] at hM
      refine lv_tableIn (tgt := 509) (off := 460) hx hb d_law_49 (by rw [hw_14]; decide) (by rw [hw_14]; decide) (by rw [hw_14]; decide) (by decide) ?_
      refine W.widen (k := 600000 - n33) (n := 7290000 - 6 * n33) (by omega) (by omega) ?_
      refine lv_aload_n hx hb d_law_509 rfl (lv_at hl 1 rfl) ?_
      refine lv_aload_n hx hb d_law_510 rfl (lv_at hl 0 rfl) ?_
      refine lv_iload hx hb d_law_511 (lv_at hl 4 rfl) ?_
      refine lv_iconst (v := 1) hx hb d_law_513 (by decide) ?_
      refine lv_iadd hx hb d_law_514 ?_
      have hg515 := gd_c hM
      have hM := gd_v hM
      refine va_sld hx hb hX hbl (Nat.not_le.mpr hbl) hS (inb_in hg515) d_law_515 ?_
      refine lv_aload_n hx hb d_law_516 rfl (lv_at hl 0 rfl) ?_
      refine lv_iload hx hb d_law_517 (lv_at hl 4 rfl) ?_
      refine lv_iconst (v := 2) hx hb d_law_519 (by decide) ?_
      refine lv_iadd hx hb d_law_520 ?_
      have hg521 := gd_c hM
      have hM := gd_v hM
      refine va_sld hx hb hX hbl (Nat.not_le.mpr hbl) hS (inb_in hg521) d_law_521 ?_
      refine lv_aload_n hx hb d_law_522 rfl (lv_at hl 0 rfl) ?_
      refine lv_iload hx hb d_law_523 (lv_at hl 4 rfl) ?_
      refine lv_iconst (v := 3) hx hb d_law_525 (by decide) ?_
      refine lv_iadd hx hb d_law_526 ?_
      have hg527 := gd_c hM
      have hM := gd_v hM
      refine va_sld hx hb hX hbl (Nat.not_le.mpr hbl) hS (inb_in hg527) d_law_527 ?_
      obtain ⟨x528, y528, hq528, hM⟩ := bI_some hM
      refine va_calli (va_runV (As := [.int (xs (i + 1).toNatClampNeg), .int (xs (i + 2).toNatClampNeg), .int (xs (i + 3).toNatClampNeg)]) (rest := []) ⟨hx, hb, hml, hown, hts⟩ (c_O_at l dC dI ad cs _ N σ (xs (i + 1).toNatClampNeg) (xs (i + 2).toNatClampNeg) (xs (i + 3).toNatClampNeg) hq528) (cwV 3 hts (goodVW k_272 k_273 k_274 k_1 k_275) rfl rfl rfl ⟨rfl, by decide, by decide, by decide +kernel⟩ ⟨Nat.le_of_ble_eq_true rfl, Nat.le_of_ble_eq_true rfl⟩) ⟨blindX, va_recv hK hP rfl g_O, payX hP hK (D_left hD) hN⟩ rfl rfl hl.1 rfl (lv_room (Nat.le_of_ble_eq_true rfl)) d_law_528 ⟨hcB, hsB⟩) hS (fun q h0 h => absurd h0 (Nat.not_lt.mpr h)) (fun q h => hA q (Nat.le_trans hS.1 h)) (fun r528 u t H locs ht hvm hpost hB hz1 hk1 hS => ?_)
      obtain ⟨e1, e2⟩ := hpost
      subst e1
      subst e2
      have hP := keepP hP hk1
      have hPm := keepP hPm hk1
      have hPo := keepP hPo hk1
      refine lv_pop hx hb d_law_531 rfl ?_
      refine lv_aload_n hx hb d_law_532 rfl (lv_at hl 2 rfl) ?_
      refine lv_aload_n hx hb d_law_533 rfl (lv_at hl 0 rfl) ?_
      refine lv_iload hx hb d_law_534 (lv_at hl 4 rfl) ?_
      refine lv_iconst (v := 1) hx hb d_law_536 (by decide) ?_
      refine lv_iadd hx hb d_law_537 ?_
      have hg538 := gd_c hM
      have hM := gd_v hM
      refine va_sld hx hb hX hbl (Nat.not_le.mpr hbl) hS (inb_in hg538) d_law_538 ?_
      refine lv_aload_n hx hb d_law_539 rfl (lv_at hl 0 rfl) ?_
      refine lv_iload hx hb d_law_540 (lv_at hl 4 rfl) ?_
      refine lv_iconst (v := 2) hx hb d_law_542 (by decide) ?_
      refine lv_iadd hx hb d_law_543 ?_
      have hg544 := gd_c hM
      have hM := gd_v hM
      refine va_sld hx hb hX hbl (Nat.not_le.mpr hbl) hS (inb_in hg544) d_law_544 ?_
      refine lv_aload_n hx hb d_law_545 rfl (lv_at hl 0 rfl) ?_
      refine lv_iload hx hb d_law_546 (lv_at hl 4 rfl) ?_
      refine lv_iconst (v := 3) hx hb d_law_548 (by decide) ?_
      refine lv_iadd hx hb d_law_549 ?_
      have hg550 := gd_c hM
      have hM := gd_v hM
      refine va_sld hx hb hX hbl (Nat.not_le.mpr hbl) hS (inb_in hg550) d_law_550 ?_
      have hF1 := free_all (D_left (D_right hD)) hS hA
      obtain ⟨x551, y551, hq551, hM⟩ := bI_some hM
      refine va_calli (va_runV (As := [.int (xs (i + 1).toNatClampNeg), .int (xs (i + 2).toNatClampNeg), .int (xs (i + 3).toNatClampNeg)]) (rest := []) ⟨hx, hb, hml, hown, hts⟩ (c_M_at l dC dI bd cs _ N μ (xs (i + 1).toNatClampNeg) (xs (i + 2).toNatClampNeg) (xs (i + 3).toNatClampNeg) hq551) (cwV 3 hts (goodVW k_862 k_863 k_864 k_8 k_865) rfl rfl rfl ⟨rfl, by decide, by decide, by decide +kernel⟩ ⟨Nat.le_of_ble_eq_true rfl, Nat.le_of_ble_eq_true rfl⟩) ⟨blindM, va_recv hK hPm rfl g_M, payM hPm hK (D_left (D_right hD)) hN⟩ rfl rfl hl.1 rfl (lv_room (Nat.le_of_ble_eq_true rfl)) d_law_551 ⟨hcB, hsB⟩) hS (fun q _ h => hF1 q h) hF1 (fun r551 σ551 t H locs ht hvm hpost hB hz1 hk1 hS => ?_)
      obtain ⟨e1, e2⟩ := hpost
      subst e1
      subst e2
      obtain ⟨hP1, hK1, hD1⟩ := hB
      rw [ht] at hP1
      have hP := fr (ap_mx hD) hk1 hP
      have hPo := fr (ap_mo hD) hk1 hPo
      have hPm := hP1
      have hD := D_3 hD (σ' := σ) (μ' := σ551) (f' := f)
      refine lv_pop hx hb d_law_554 rfl ?_
      refine lv_goto (tgt := 708) hx hb d_law_555 (by decide) ?_
      exact KF _ _ _ _ ⟨σ, σ551, f, i, rfl, hM, lv_sub hl [0, 1, 2, 3, 4] rfl, hP, hPm, hPo, hD, hS⟩
    rw [if_neg hw_14] at hM
    by_cases hw_15 : (xs i.toNatClampNeg &&& 31) = 15
    · rw [if_pos hw_15, m_case_15] at hM
      refine lv_tableIn (tgt := 558) (off := 509) hx hb d_law_49 (by rw [hw_15]; decide) (by rw [hw_15]; decide) (by rw [hw_15]; decide) (by decide) ?_
      refine W.widen (k := 600000 - n33) (n := 7290000 - 6 * n33) (by omega) (by omega) ?_
      refine lv_aload_n hx hb d_law_558 rfl (lv_at hl 1 rfl) ?_
      refine lv_aload_n hx hb d_law_559 rfl (lv_at hl 0 rfl) ?_
      refine lv_iload hx hb d_law_560 (lv_at hl 4 rfl) ?_
      refine lv_iconst (v := 1) hx hb d_law_562 (by decide) ?_
      refine lv_iadd hx hb d_law_563 ?_
      have hg564 := gd_c hM
      have hM := gd_v hM
      refine va_sld hx hb hX hbl (Nat.not_le.mpr hbl) hS (inb_in hg564) d_law_564 ?_
      obtain ⟨x565, y565, hq565, hM⟩ := bI_some hM
      refine va_calli (va_runV (As := [.int (xs (i + 1).toNatClampNeg)]) (rest := []) ⟨hx, hb, hml, hown, hts⟩ (c_O_memory l dC dI ad cs _ N σ (xs (i + 1).toNatClampNeg) hq565) (cwV 1 hts (goodVW k_281 k_282 k_283 k_1 k_284) rfl rfl rfl ⟨rfl, by decide, by decide, by decide +kernel⟩ ⟨Nat.le_of_ble_eq_true rfl, Nat.le_of_ble_eq_true rfl⟩) ⟨blindX, va_recv hK hP rfl g_O, payX hP hK (D_left hD) hN⟩ rfl rfl hl.1 rfl (lv_room (Nat.le_of_ble_eq_true rfl)) d_law_565 ⟨hcB, hsB⟩) hS (fun q h0 h => absurd h0 (Nat.not_lt.mpr h)) (fun q h => hA q (Nat.le_trans hS.1 h)) (fun r565 u t H locs ht hvm hpost hB hz1 hk1 hS => ?_)
      obtain ⟨e1, e2⟩ := hpost
      subst e1
      subst e2
      have hP := keepP hP hk1
      have hPm := keepP hPm hk1
      have hPo := keepP hPo hk1
      refine lv_pop hx hb d_law_568 rfl ?_
      refine lv_aload_n hx hb d_law_569 rfl (lv_at hl 2 rfl) ?_
      refine lv_aload_n hx hb d_law_570 rfl (lv_at hl 0 rfl) ?_
      refine lv_iload hx hb d_law_571 (lv_at hl 4 rfl) ?_
      refine lv_iconst (v := 1) hx hb d_law_573 (by decide) ?_
      refine lv_iadd hx hb d_law_574 ?_
      have hg575 := gd_c hM
      have hM := gd_v hM
      refine va_sld hx hb hX hbl (Nat.not_le.mpr hbl) hS (inb_in hg575) d_law_575 ?_
      have hF1 := free_all (D_left (D_right hD)) hS hA
      obtain ⟨x576, y576, hq576, hM⟩ := bI_some hM
      refine va_calli (va_runV (As := [.int (xs (i + 1).toNatClampNeg)]) (rest := []) ⟨hx, hb, hml, hown, hts⟩ (c_M_memory l dC dI bd cs _ N μ (xs (i + 1).toNatClampNeg) hq576) (cwV 1 hts (goodVW k_866 k_867 k_868 k_8 k_869) rfl rfl rfl ⟨rfl, by decide, by decide, by decide +kernel⟩ ⟨Nat.le_of_ble_eq_true rfl, Nat.le_of_ble_eq_true rfl⟩) ⟨blindM, va_recv hK hPm rfl g_M, payM hPm hK (D_left (D_right hD)) hN⟩ rfl rfl hl.1 rfl (lv_room (Nat.le_of_ble_eq_true rfl)) d_law_576 ⟨hcB, hsB⟩) hS (fun q _ h => hF1 q h) hF1 (fun r576 σ576 t H locs ht hvm hpost hB hz1 hk1 hS => ?_)
      obtain ⟨e1, e2⟩ := hpost
      subst e1
      subst e2
      obtain ⟨hP1, hK1, hD1⟩ := hB
      rw [ht] at hP1
      have hP := fr (ap_mx hD) hk1 hP
      have hPo := fr (ap_mo hD) hk1 hPo
      have hPm := hP1
      have hD := D_3 hD (σ' := σ) (μ' := σ576) (f' := f)
      refine lv_pop hx hb d_law_579 rfl ?_
      refine lv_goto (tgt := 708) hx hb d_law_580 (by decide) ?_
      exact KF _ _ _ _ ⟨σ, σ576, f, i, rfl, hM, lv_sub hl [0, 1, 2, 3, 4] rfl, hP, hPm, hPo, hD, hS⟩
    rw [if_neg hw_15] at hM
    by_cases hw_16 : (xs i.toNatClampNeg &&& 31) = 16
    · rw [if_pos hw_16, m_case_16] at hM
      refine lv_tableIn (tgt := 583) (off := 534) hx hb d_law_49 (by rw [hw_16]; decide) (by rw [hw_16]; decide) (by rw [hw_16]; decide) (by decide) ?_
      refine W.widen (k := 600000 - n33) (n := 7290000 - 6 * n33) (by omega) (by omega) ?_
      refine lv_aload_n hx hb d_law_583 rfl (lv_at hl 1 rfl) ?_
      obtain ⟨x584, y584, hq584, hM⟩ := bI_some hM
      refine va_calli (va_runV (As := []) (rest := []) ⟨hx, hb, hml, hown, hts⟩ (c_O_written l dC dI ad cs _ N σ hq584) (cwV 0 hts (goodVW k_289 k_290 k_291 k_1 k_292) rfl rfl rfl ⟨rfl, by decide, by decide, by decide +kernel⟩ ⟨Nat.le_of_ble_eq_true rfl, Nat.le_of_ble_eq_true rfl⟩) ⟨blindX, va_recv hK hP rfl g_O, payX hP hK (D_left hD) hN⟩ rfl rfl hl.1 rfl (lv_room (Nat.le_of_ble_eq_true rfl)) d_law_584 ⟨hcB, hsB⟩) hS (fun q h0 h => absurd h0 (Nat.not_lt.mpr h)) (fun q h => hA q (Nat.le_trans hS.1 h)) (fun r584 u t H locs ht hvm hpost hB hz1 hk1 hS => ?_)
      obtain ⟨e1, e2⟩ := hpost
      subst e1
      subst e2
      have hP := keepP hP hk1
      have hPm := keepP hPm hk1
      have hPo := keepP hPo hk1
      refine lv_pop hx hb d_law_587 rfl ?_
      refine lv_aload_n hx hb d_law_588 rfl (lv_at hl 2 rfl) ?_
      have hF1 := free_all (D_left (D_right hD)) hS hA
      obtain ⟨x589, y589, hq589, hM⟩ := bI_some hM
      refine va_calli (va_runV (As := []) (rest := []) ⟨hx, hb, hml, hown, hts⟩ (c_M_written l dC dI bd cs _ N μ hq589) (cwV 0 hts (goodVW k_870 k_871 k_872 k_8 k_873) rfl rfl rfl ⟨rfl, by decide, by decide, by decide +kernel⟩ ⟨Nat.le_of_ble_eq_true rfl, Nat.le_of_ble_eq_true rfl⟩) ⟨blindM, va_recv hK hPm rfl g_M, payM hPm hK (D_left (D_right hD)) hN⟩ rfl rfl hl.1 rfl (lv_room (Nat.le_of_ble_eq_true rfl)) d_law_589 ⟨hcB, hsB⟩) hS (fun q _ h => hF1 q h) hF1 (fun r589 σ589 t H locs ht hvm hpost hB hz1 hk1 hS => ?_)
      obtain ⟨e1, e2⟩ := hpost
      subst e1
      subst e2
      obtain ⟨hP1, hK1, hD1⟩ := hB
      rw [ht] at hP1
      have hP := fr (ap_mx hD) hk1 hP
      have hPo := fr (ap_mo hD) hk1 hPo
      have hPm := hP1
      have hD := D_3 hD (σ' := σ) (μ' := σ589) (f' := f)
      refine lv_pop hx hb d_law_592 rfl ?_
      refine lv_goto (tgt := 708) hx hb d_law_593 (by decide) ?_
      exact KF _ _ _ _ ⟨σ, σ589, f, i, rfl, hM, lv_sub hl [0, 1, 2, 3, 4] rfl, hP, hPm, hPo, hD, hS⟩
    rw [if_neg hw_16] at hM
    by_cases hw_17 : (xs i.toNatClampNeg &&& 31) = 17
    · rw [if_pos hw_17, m_case_17] at hM
      refine lv_tableIn (tgt := 596) (off := 547) hx hb d_law_49 (by rw [hw_17]; decide) (by rw [hw_17]; decide) (by rw [hw_17]; decide) (by decide) ?_
      refine W.widen (k := 600000 - n33) (n := 7290000 - 6 * n33) (by omega) (by omega) ?_
      refine lv_aload_n hx hb d_law_596 rfl (lv_at hl 1 rfl) ?_
      obtain ⟨x597, y597, hq597, hM⟩ := bI_some hM
      refine va_calli (va_runV (As := []) (rest := []) ⟨hx, hb, hml, hown, hts⟩ (c_O_broken l dC dI ad cs _ N σ hq597) (cwV 0 hts (goodVW k_297 k_298 k_299 k_1 k_300) rfl rfl rfl ⟨rfl, by decide, by decide, by decide +kernel⟩ ⟨Nat.le_of_ble_eq_true rfl, Nat.le_of_ble_eq_true rfl⟩) ⟨blindX, va_recv hK hP rfl g_O, payX hP hK (D_left hD) hN⟩ rfl rfl hl.1 rfl (lv_room (Nat.le_of_ble_eq_true rfl)) d_law_597 ⟨hcB, hsB⟩) hS (fun q h0 h => absurd h0 (Nat.not_lt.mpr h)) (fun q h => hA q (Nat.le_trans hS.1 h)) (fun r597 u t H locs ht hvm hpost hB hz1 hk1 hS => ?_)
      obtain ⟨e1, e2⟩ := hpost
      subst e1
      subst e2
      have hP := keepP hP hk1
      have hPm := keepP hPm hk1
      have hPo := keepP hPo hk1
      refine lv_pop hx hb d_law_600 rfl ?_
      refine lv_aload_n hx hb d_law_601 rfl (lv_at hl 2 rfl) ?_
      have hF1 := free_all (D_left (D_right hD)) hS hA
      obtain ⟨x602, y602, hq602, hM⟩ := bI_some hM
      refine va_calli (va_runV (As := []) (rest := []) ⟨hx, hb, hml, hown, hts⟩ (c_M_broken l dC dI bd cs _ N μ hq602) (cwV 0 hts (goodVW k_874 k_875 k_876 k_8 k_877) rfl rfl rfl ⟨rfl, by decide, by decide, by decide +kernel⟩ ⟨Nat.le_of_ble_eq_true rfl, Nat.le_of_ble_eq_true rfl⟩) ⟨blindM, va_recv hK hPm rfl g_M, payM hPm hK (D_left (D_right hD)) hN⟩ rfl rfl hl.1 rfl (lv_room (Nat.le_of_ble_eq_true rfl)) d_law_602 ⟨hcB, hsB⟩) hS (fun q _ h => hF1 q h) hF1 (fun r602 σ602 t H locs ht hvm hpost hB hz1 hk1 hS => ?_)
      obtain ⟨e1, e2⟩ := hpost
      subst e1
      subst e2
      obtain ⟨hP1, hK1, hD1⟩ := hB
      rw [ht] at hP1
      have hP := fr (ap_mx hD) hk1 hP
      have hPo := fr (ap_mo hD) hk1 hPo
      have hPm := hP1
      have hD := D_3 hD (σ' := σ) (μ' := σ602) (f' := f)
      refine lv_pop hx hb d_law_605 rfl ?_
      refine lv_goto (tgt := 708) hx hb d_law_606 (by decide) ?_
      exact KF _ _ _ _ ⟨σ, σ602, f, i, rfl, hM, lv_sub hl [0, 1, 2, 3, 4] rfl, hP, hPm, hPo, hD, hS⟩
    rw [if_neg hw_17] at hM
    by_cases hw_18 : (xs i.toNatClampNeg &&& 31) = 18
    · rw [if_pos hw_18, m_case_18] at hM
      refine lv_tableIn (tgt := 609) (off := 560) hx hb d_law_49 (by rw [hw_18]; decide) (by rw [hw_18]; decide) (by rw [hw_18]; decide) (by decide) ?_
      refine W.widen (k := 600000 - n33) (n := 7290000 - 6 * n33) (by omega) (by omega) ?_
      refine lv_aload_n hx hb d_law_609 rfl (lv_at hl 1 rfl) ?_
      refine lv_aload_n hx hb d_law_610 rfl (lv_at hl 0 rfl) ?_
      refine lv_iload hx hb d_law_611 (lv_at hl 4 rfl) ?_
      refine lv_iconst (v := 1) hx hb d_law_613 (by decide) ?_
      refine lv_iadd hx hb d_law_614 ?_
      have hg615 := gd_c hM
      have hM := gd_v hM
      refine va_sld hx hb hX hbl (Nat.not_le.mpr hbl) hS (inb_in hg615) d_law_615 ?_
      obtain ⟨x616, y616, hq616, hM⟩ := bI_some hM
      refine va_calli (va_runV (As := [.int (xs (i + 1).toNatClampNeg)]) (rest := []) ⟨hx, hb, hml, hown, hts⟩ (c_O_sorted l dC dI ad cs _ N σ (xs (i + 1).toNatClampNeg) hq616) (cwV 1 hts (goodVW k_301 k_302 k_303 k_1 k_304) rfl rfl rfl ⟨rfl, by decide, by decide, by decide +kernel⟩ ⟨Nat.le_of_ble_eq_true rfl, Nat.le_of_ble_eq_true rfl⟩) ⟨blindX, va_recv hK hP rfl g_O, payX hP hK (D_left hD) hN⟩ rfl rfl hl.1 rfl (lv_room (Nat.le_of_ble_eq_true rfl)) d_law_616 ⟨hcB, hsB⟩) hS (fun q h0 h => absurd h0 (Nat.not_lt.mpr h)) (fun q h => hA q (Nat.le_trans hS.1 h)) (fun r616 u t H locs ht hvm hpost hB hz1 hk1 hS => ?_)
      obtain ⟨e1, e2⟩ := hpost
      subst e1
      subst e2
      have hP := keepP hP hk1
      have hPm := keepP hPm hk1
      have hPo := keepP hPo hk1
      refine lv_pop hx hb d_law_619 rfl ?_
      refine lv_aload_n hx hb d_law_620 rfl (lv_at hl 2 rfl) ?_
      refine lv_aload_n hx hb d_law_621 rfl (lv_at hl 0 rfl) ?_
      refine lv_iload hx hb d_law_622 (lv_at hl 4 rfl) ?_
      refine lv_iconst (v := 1) hx hb d_law_624 (by decide) ?_
      refine lv_iadd hx hb d_law_625 ?_
      have hg626 := gd_c hM
      have hM := gd_v hM
      refine va_sld hx hb hX hbl (Nat.not_le.mpr hbl) hS (inb_in hg626) d_law_626 ?_
      have hF1 := free_all (D_left (D_right hD)) hS hA
      obtain ⟨x627, y627, hq627, hM⟩ := bI_some hM
      refine va_calli (va_runV (As := [.int (xs (i + 1).toNatClampNeg)]) (rest := []) ⟨hx, hb, hml, hown, hts⟩ (c_M_sorted l dC dI bd cs _ N μ (xs (i + 1).toNatClampNeg) hq627) (cwV 1 hts (goodVW k_878 k_879 k_880 k_8 k_881) rfl rfl rfl ⟨rfl, by decide, by decide, by decide +kernel⟩ ⟨Nat.le_of_ble_eq_true rfl, Nat.le_of_ble_eq_true rfl⟩) ⟨blindM, va_recv hK hPm rfl g_M, payM hPm hK (D_left (D_right hD)) hN⟩ rfl rfl hl.1 rfl (lv_room (Nat.le_of_ble_eq_true rfl)) d_law_627 ⟨hcB, hsB⟩) hS (fun q _ h => hF1 q h) hF1 (fun r627 σ627 t H locs ht hvm hpost hB hz1 hk1 hS => ?_)
      obtain ⟨e1, e2⟩ := hpost
      subst e1
      subst e2
      obtain ⟨hP1, hK1, hD1⟩ := hB
      rw [ht] at hP1
      have hP := fr (ap_mx hD) hk1 hP
      have hPo := fr (ap_mo hD) hk1 hPo
      have hPm := hP1
      have hD := D_3 hD (σ' := σ) (μ' := σ627) (f' := f)
      refine lv_pop hx hb d_law_630 rfl ?_
      refine lv_goto (tgt := 708) hx hb d_law_631 (by decide) ?_
      exact KF _ _ _ _ ⟨σ, σ627, f, i, rfl, hM, lv_sub hl [0, 1, 2, 3, 4] rfl, hP, hPm, hPo, hD, hS⟩
    rw [if_neg hw_18] at hM
    by_cases hw_19 : (xs i.toNatClampNeg &&& 31) = 19
    · rw [if_pos hw_19, m_case_19] at hM
      refine lv_tableIn (tgt := 634) (off := 585) hx hb d_law_49 (by rw [hw_19]; decide) (by rw [hw_19]; decide) (by rw [hw_19]; decide) (by decide) ?_
      refine W.widen (k := 600000 - n33) (n := 7290000 - 6 * n33) (by omega) (by omega) ?_
      refine lv_aload_n hx hb d_law_634 rfl (lv_at hl 1 rfl) ?_
      refine lv_aload_n hx hb d_law_635 rfl (lv_at hl 0 rfl) ?_
      refine lv_iload hx hb d_law_636 (lv_at hl 4 rfl) ?_
      refine lv_iconst (v := 1) hx hb d_law_638 (by decide) ?_
      refine lv_iadd hx hb d_law_639 ?_
      have hg640 := gd_c hM
      have hM := gd_v hM
      refine va_sld hx hb hX hbl (Nat.not_le.mpr hbl) hS (inb_in hg640) d_law_640 ?_
      refine lv_aload_n hx hb d_law_641 rfl (lv_at hl 0 rfl) ?_
      refine lv_iload hx hb d_law_642 (lv_at hl 4 rfl) ?_
      refine lv_iconst (v := 2) hx hb d_law_644 (by decide) ?_
      refine lv_iadd hx hb d_law_645 ?_
      have hg646 := gd_c hM
      have hM := gd_v hM
      refine va_sld hx hb hX hbl (Nat.not_le.mpr hbl) hS (inb_in hg646) d_law_646 ?_
      obtain ⟨x647, y647, hq647, hM⟩ := bI_some hM
      refine va_calli (va_runV (As := [.int (xs (i + 1).toNatClampNeg), .int (xs (i + 2).toNatClampNeg)]) (rest := []) ⟨hx, hb, hml, hown, hts⟩ (c_O_compare l dC dI ad cs _ N σ (xs (i + 1).toNatClampNeg) (xs (i + 2).toNatClampNeg) hq647) (cwV 2 hts (goodVW k_309 k_310 k_311 k_1 k_312) rfl rfl rfl ⟨rfl, by decide, by decide, by decide +kernel⟩ ⟨Nat.le_of_ble_eq_true rfl, Nat.le_of_ble_eq_true rfl⟩) ⟨blindX, va_recv hK hP rfl g_O, payX hP hK (D_left hD) hN⟩ rfl rfl hl.1 rfl (lv_room (Nat.le_of_ble_eq_true rfl)) d_law_647 ⟨hcB, hsB⟩) hS (fun q h0 h => absurd h0 (Nat.not_lt.mpr h)) (fun q h => hA q (Nat.le_trans hS.1 h)) (fun r647 u t H locs ht hvm hpost hB hz1 hk1 hS => ?_)
      obtain ⟨e1, e2⟩ := hpost
      subst e1
      subst e2
      have hP := keepP hP hk1
      have hPm := keepP hPm hk1
      have hPo := keepP hPo hk1
      refine lv_pop hx hb d_law_650 rfl ?_
      refine lv_aload_n hx hb d_law_651 rfl (lv_at hl 2 rfl) ?_
      refine lv_aload_n hx hb d_law_652 rfl (lv_at hl 0 rfl) ?_
      refine lv_iload hx hb d_law_653 (lv_at hl 4 rfl) ?_
      refine lv_iconst (v := 1) hx hb d_law_655 (by decide) ?_
      refine lv_iadd hx hb d_law_656 ?_
      have hg657 := gd_c hM
      have hM := gd_v hM
      refine va_sld hx hb hX hbl (Nat.not_le.mpr hbl) hS (inb_in hg657) d_law_657 ?_
      refine lv_aload_n hx hb d_law_658 rfl (lv_at hl 0 rfl) ?_
      refine lv_iload hx hb d_law_659 (lv_at hl 4 rfl) ?_
      refine lv_iconst (v := 2) hx hb d_law_661 (by decide) ?_
      refine lv_iadd hx hb d_law_662 ?_
      have hg663 := gd_c hM
      have hM := gd_v hM
      refine va_sld hx hb hX hbl (Nat.not_le.mpr hbl) hS (inb_in hg663) d_law_663 ?_
      have hF1 := free_all (D_left (D_right hD)) hS hA
      obtain ⟨x664, y664, hq664, hM⟩ := bI_some hM
      refine va_calli (va_runV (As := [.int (xs (i + 1).toNatClampNeg), .int (xs (i + 2).toNatClampNeg)]) (rest := []) ⟨hx, hb, hml, hown, hts⟩ (c_M_compare l dC dI bd cs _ N μ (xs (i + 1).toNatClampNeg) (xs (i + 2).toNatClampNeg) hq664) (cwV 2 hts (goodVW k_731 k_732 k_733 k_8 k_734) rfl rfl rfl ⟨rfl, by decide, by decide, by decide +kernel⟩ ⟨Nat.le_of_ble_eq_true rfl, Nat.le_of_ble_eq_true rfl⟩) ⟨blindM, va_recv hK hPm rfl g_M, payM hPm hK (D_left (D_right hD)) hN⟩ rfl rfl hl.1 rfl (lv_room (Nat.le_of_ble_eq_true rfl)) d_law_664 ⟨hcB, hsB⟩) hS (fun q _ h => hF1 q h) hF1 (fun r664 σ664 t H locs ht hvm hpost hB hz1 hk1 hS => ?_)
      obtain ⟨e1, e2⟩ := hpost
      subst e1
      subst e2
      obtain ⟨hP1, hK1, hD1⟩ := hB
      rw [ht] at hP1
      have hP := fr (ap_mx hD) hk1 hP
      have hPo := fr (ap_mo hD) hk1 hPo
      have hPm := hP1
      have hD := D_3 hD (σ' := σ) (μ' := σ664) (f' := f)
      refine lv_pop hx hb d_law_667 rfl ?_
      refine lv_goto (tgt := 708) hx hb d_law_668 (by decide) ?_
      exact KF _ _ _ _ ⟨σ, σ664, f, i, rfl, hM, lv_sub hl [0, 1, 2, 3, 4] rfl, hP, hPm, hPo, hD, hS⟩
    rw [if_neg hw_19] at hM
    by_cases hw_20 : (xs i.toNatClampNeg &&& 31) = 20
    · rw [if_pos hw_20, m_case_20] at hM
      refine lv_tableIn (tgt := 671) (off := 622) hx hb d_law_49 (by rw [hw_20]; decide) (by rw [hw_20]; decide) (by rw [hw_20]; decide) (by decide) ?_
      refine W.widen (k := 600000 - n33) (n := 7290000 - 6 * n33) (by omega) (by omega) ?_
      refine lv_aload_n hx hb d_law_671 rfl (lv_at hl 1 rfl) ?_
      refine lv_aload_n hx hb d_law_672 rfl (lv_at hl 0 rfl) ?_
      refine lv_iload hx hb d_law_673 (lv_at hl 4 rfl) ?_
      refine lv_iconst (v := 1) hx hb d_law_675 (by decide) ?_
      refine lv_iadd hx hb d_law_676 ?_
      have hg677 := gd_c hM
      have hM := gd_v hM
      refine va_sld hx hb hX hbl (Nat.not_le.mpr hbl) hS (inb_in hg677) d_law_677 ?_
      refine lv_aload_n hx hb d_law_678 rfl (lv_at hl 0 rfl) ?_
      refine lv_iload hx hb d_law_679 (lv_at hl 4 rfl) ?_
      refine lv_iconst (v := 2) hx hb d_law_681 (by decide) ?_
      refine lv_iadd hx hb d_law_682 ?_
      have hg683 := gd_c hM
      have hM := gd_v hM
      refine va_sld hx hb hX hbl (Nat.not_le.mpr hbl) hS (inb_in hg683) d_law_683 ?_
      obtain ⟨x684, y684, hq684, hM⟩ := bI_some hM
      refine va_calli (va_runV (As := [.int (xs (i + 1).toNatClampNeg), .int (xs (i + 2).toNatClampNeg)]) (rest := []) ⟨hx, hb, hml, hown, hts⟩ (c_O_field l dC dI ad cs _ N σ (xs (i + 1).toNatClampNeg) (xs (i + 2).toNatClampNeg) hq684) (cwV 2 hts (goodVW k_333 k_334 k_335 k_1 k_336) rfl rfl rfl ⟨rfl, by decide, by decide, by decide +kernel⟩ ⟨Nat.le_of_ble_eq_true rfl, Nat.le_of_ble_eq_true rfl⟩) ⟨blindX, va_recv hK hP rfl g_O, payX hP hK (D_left hD) hN⟩ rfl rfl hl.1 rfl (lv_room (Nat.le_of_ble_eq_true rfl)) d_law_684 ⟨hcB, hsB⟩) hS (fun q h0 h => absurd h0 (Nat.not_lt.mpr h)) (fun q h => hA q (Nat.le_trans hS.1 h)) (fun r684 u t H locs ht hvm hpost hB hz1 hk1 hS => ?_)
      obtain ⟨e1, e2⟩ := hpost
      subst e1
      subst e2
      have hP := keepP hP hk1
      have hPm := keepP hPm hk1
      have hPo := keepP hPo hk1
      refine lv_pop hx hb d_law_687 rfl ?_
      refine lv_aload_n hx hb d_law_688 rfl (lv_at hl 2 rfl) ?_
      refine lv_aload_n hx hb d_law_689 rfl (lv_at hl 0 rfl) ?_
      refine lv_iload hx hb d_law_690 (lv_at hl 4 rfl) ?_
      refine lv_iconst (v := 1) hx hb d_law_692 (by decide) ?_
      refine lv_iadd hx hb d_law_693 ?_
      have hg694 := gd_c hM
      have hM := gd_v hM
      refine va_sld hx hb hX hbl (Nat.not_le.mpr hbl) hS (inb_in hg694) d_law_694 ?_
      refine lv_aload_n hx hb d_law_695 rfl (lv_at hl 0 rfl) ?_
      refine lv_iload hx hb d_law_696 (lv_at hl 4 rfl) ?_
      refine lv_iconst (v := 2) hx hb d_law_698 (by decide) ?_
      refine lv_iadd hx hb d_law_699 ?_
      have hg700 := gd_c hM
      have hM := gd_v hM
      refine va_sld hx hb hX hbl (Nat.not_le.mpr hbl) hS (inb_in hg700) d_law_700 ?_
      have hF1 := free_all (D_left (D_right hD)) hS hA
      obtain ⟨x701, y701, hq701, hM⟩ := bI_some hM
      refine va_calli (va_runV (As := [.int (xs (i + 1).toNatClampNeg), .int (xs (i + 2).toNatClampNeg)]) (rest := []) ⟨hx, hb, hml, hown, hts⟩ (c_M_field l dC dI bd cs _ N μ (xs (i + 1).toNatClampNeg) (xs (i + 2).toNatClampNeg) hq701) (cwV 2 hts (goodVW k_747 k_748 k_749 k_8 k_750) rfl rfl rfl ⟨rfl, by decide, by decide, by decide +kernel⟩ ⟨Nat.le_of_ble_eq_true rfl, Nat.le_of_ble_eq_true rfl⟩) ⟨blindM, va_recv hK hPm rfl g_M, payM hPm hK (D_left (D_right hD)) hN⟩ rfl rfl hl.1 rfl (lv_room (Nat.le_of_ble_eq_true rfl)) d_law_701 ⟨hcB, hsB⟩) hS (fun q _ h => hF1 q h) hF1 (fun r701 σ701 t H locs ht hvm hpost hB hz1 hk1 hS => ?_)
      obtain ⟨e1, e2⟩ := hpost
      subst e1
      subst e2
      obtain ⟨hP1, hK1, hD1⟩ := hB
      rw [ht] at hP1
      have hP := fr (ap_mx hD) hk1 hP
      have hPo := fr (ap_mo hD) hk1 hPo
      have hPm := hP1
      have hD := D_3 hD (σ' := σ) (μ' := σ701) (f' := f)
      refine lv_pop hx hb d_law_704 rfl ?_
      refine lv_goto (tgt := 708) hx hb d_law_705 (by decide) ?_
      exact KF _ _ _ _ ⟨σ, σ701, f, i, rfl, hM, lv_sub hl [0, 1, 2, 3, 4] rfl, hP, hPm, hPo, hD, hS⟩
    rw [if_neg hw_20] at hM
    rw [m_case_default] at hM
    refine lv_tableOut (tgt := 708) hx hb d_law_49 (sw_outL hw_0 hw_1 hw_2 hw_3 hw_4 hw_5 hw_6 hw_7 hw_8 hw_9 hw_10 hw_11 hw_12 hw_13 hw_14 hw_15 hw_16 hw_17 hw_18 hw_19 hw_20) (by decide) ?_
    refine W.widen (k := 600000 - n33) (n := 7290000 - 6 * n33) (by omega) (by omega) ?_
    exact KF _ _ _ _ ⟨σ, μ, f, i, rfl, hM, lv_sub hl [0, 1, 2, 3, 4] rfl, hP, hPm, hPo, hD, hS⟩
