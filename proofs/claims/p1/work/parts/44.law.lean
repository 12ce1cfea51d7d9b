def m_case_0 (N : Nat) (xs : Nat → Int32) (L : Nat) (k33 : SX → SX → (Nat → Int64) → Int32 → Option Unit) (σ μ : SX) (f : Nat → Int64) (i : Int32) : Option Unit :=
  (if inb (i + 1) L = true then (if inb (i + 2) L = true then (bH (m_L_card N σ f (xs (i + 1).toNatClampNeg) (xs (i + 2).toNatClampNeg)) fun r162 y162 z162 => (if inb (i + 1) L = true then (if inb (i + 2) L = true then (bI (m_M_card N μ (xs (i + 1).toNatClampNeg) (xs (i + 2).toNatClampNeg)) fun r180 σ180 => (bI (m_M_thrown N σ180) fun r186 _ => (if r186 = r162 then (if r162 = 0 then (if (lg_cmp (z162 (0 : Int32).toNatClampNeg) r180.toInt64) = 0 then k33 y162 σ180 z162 i else none) else k33 y162 σ180 z162 i) else none))) else none) else none)) else none) else none)

def m_case_1 (N : Nat) (xs : Nat → Int32) (L : Nat) (k33 : SX → SX → (Nat → Int64) → Int32 → Option Unit) (σ μ : SX) (f : Nat → Int64) (i : Int32) : Option Unit :=
  (if inb (i + 1) L = true then (if inb (i + 2) L = true then (bH (m_L_part N σ f (xs (i + 1).toNatClampNeg) (xs (i + 2).toNatClampNeg)) fun r230 y230 z230 => (if inb (i + 1) L = true then (if inb (i + 2) L = true then (bI (m_M_part N μ (xs (i + 1).toNatClampNeg) (xs (i + 2).toNatClampNeg)) fun r248 σ248 => (bI (m_M_thrown N σ248) fun r254 _ => (if r254 = r230 then (if r230 = 0 then (if (lg_cmp (z230 (0 : Int32).toNatClampNeg) r248.toInt64) = 0 then k33 y230 σ248 z230 i else none) else k33 y230 σ248 z230 i) else none))) else none) else none)) else none) else none)

def m_case_2 (N : Nat) (xs : Nat → Int32) (L : Nat) (k33 : SX → SX → (Nat → Int64) → Int32 → Option Unit) (σ μ : SX) (f : Nat → Int64) (i : Int32) : Option Unit :=
  (bH (m_L_start N σ f) fun r285 y285 z285 => (bV (m_M_start N μ) fun σ291 => (bI (m_M_thrown N σ291) fun r295 _ => (if r295 = r285 then k33 y285 σ291 z285 i else none))))

def m_case_3 (N : Nat) (xs : Nat → Int32) (L : Nat) (k33 : SX → SX → (Nat → Int64) → Int32 → Option Unit) (σ μ : SX) (f : Nat → Int64) (i : Int32) : Option Unit :=
  (bI (m_O_clear N σ) fun r309 σ309 => (bI (m_M_clear N μ) fun r313 σ313 => (if r309 = r313 then k33 σ309 σ313 f i else none)))

def m_case_4 (N : Nat) (xs : Nat → Int32) (L : Nat) (k33 : SX → SX → (Nat → Int64) → Int32 → Option Unit) (σ μ : SX) (f : Nat → Int64) (i : Int32) : Option Unit :=
  (if inb (i + 1) L = true then (bH (m_L_step N σ f (xs (i + 1).toNatClampNeg)) fun r329 y329 z329 => (if inb (i + 1) L = true then (bI (m_M_step N μ (xs (i + 1).toNatClampNeg)) fun r341 σ341 => (bI (m_M_thrown N σ341) fun r347 _ => (if r347 = r329 then (if r329 = 0 then (if (lg_cmp (z329 (0 : Int32).toNatClampNeg) r341.toInt64) = 0 then k33 y329 σ341 z329 i else none) else k33 y329 σ341 z329 i) else none))) else none)) else none)

def m_case_5 (N : Nat) (xs : Nat → Int32) (L : Nat) (k33 : SX → SX → (Nat → Int64) → Int32 → Option Unit) (σ μ : SX) (f : Nat → Int64) (i : Int32) : Option Unit :=
  (if inb (i + 1) L = true then (if inb (i + 2) L = true then (bH (m_L_fault N σ f (xs (i + 1).toNatClampNeg) (xs (i + 2).toNatClampNeg)) fun r391 y391 z391 => (if inb (i + 1) L = true then (if inb (i + 2) L = true then (bI (m_M_fault N μ (xs (i + 1).toNatClampNeg) (xs (i + 2).toNatClampNeg)) fun r409 σ409 => (bI (m_M_thrown N σ409) fun r415 _ => (if r415 = r391 then (if r391 = 0 then (if (lg_cmp (z391 (0 : Int32).toNatClampNeg) r409.toInt64) = 0 then k33 y391 σ409 z391 i else none) else k33 y391 σ409 z391 i) else none))) else none) else none)) else none) else none)

def m_case_6 (N : Nat) (xs : Nat → Int32) (L : Nat) (k33 : SX → SX → (Nat → Int64) → Int32 → Option Unit) (σ μ : SX) (f : Nat → Int64) (i : Int32) : Option Unit :=
  (if inb (i + 1) L = true then (bI (m_O_cutAfter N σ (xs (i + 1).toNatClampNeg)) fun r452 σ452 => (if inb (i + 1) L = true then (bI (m_M_cutAfter N μ (xs (i + 1).toNatClampNeg)) fun r462 σ462 => (if r452 = r462 then k33 σ452 σ462 f i else none)) else none)) else none)

def m_case_7 (N : Nat) (xs : Nat → Int32) (L : Nat) (k33 : SX → SX → (Nat → Int64) → Int32 → Option Unit) (σ μ : SX) (f : Nat → Int64) (i : Int32) : Option Unit :=
  (bI (m_O_resume N σ) fun r471 σ471 => (bI (m_M_resume N μ) fun r475 σ475 => (if r471 = r475 then k33 σ471 σ475 f i else none)))

def m_case_8 (N : Nat) (xs : Nat → Int32) (L : Nat) (k33 : SX → SX → (Nat → Int64) → Int32 → Option Unit) (σ μ : SX) (f : Nat → Int64) (i : Int32) : Option Unit :=
  (bI (m_O_phase N σ) fun r484 _ => (bI (m_M_phase N μ) fun r488 σ488 => (if r484 = r488 then k33 σ σ488 f i else none)))

def m_case_9 (N : Nat) (xs : Nat → Int32) (L : Nat) (k33 : SX → SX → (Nat → Int64) → Int32 → Option Unit) (σ μ : SX) (f : Nat → Int64) (i : Int32) : Option Unit :=
  (bI (m_O_level N σ) fun r497 _ => (bI (m_M_level N μ) fun r501 σ501 => (if r497 = r501 then k33 σ σ501 f i else none)))

def m_case_10 (N : Nat) (xs : Nat → Int32) (L : Nat) (k33 : SX → SX → (Nat → Int64) → Int32 → Option Unit) (σ μ : SX) (f : Nat → Int64) (i : Int32) : Option Unit :=
  (if inb (i + 1) L = true then (bI (m_O_runs N σ (xs (i + 1).toNatClampNeg)) fun r516 _ => (if inb (i + 1) L = true then (bI (m_M_runs N μ (xs (i + 1).toNatClampNeg)) fun r526 σ526 => (if r516 = r526 then k33 σ σ526 f i else none)) else none)) else none)

def m_case_11 (N : Nat) (xs : Nat → Int32) (L : Nat) (k33 : SX → SX → (Nat → Int64) → Int32 → Option Unit) (σ μ : SX) (f : Nat → Int64) (i : Int32) : Option Unit :=
  (if inb (i + 1) L = true then (bI (m_O_dummies N σ (xs (i + 1).toNatClampNeg)) fun r541 _ => (if inb (i + 1) L = true then (bI (m_M_dummies N μ (xs (i + 1).toNatClampNeg)) fun r551 σ551 => (if r541 = r551 then k33 σ σ551 f i else none)) else none)) else none)

def m_case_12 (N : Nat) (xs : Nat → Int32) (L : Nat) (k33 : SX → SX → (Nat → Int64) → Int32 → Option Unit) (σ μ : SX) (f : Nat → Int64) (i : Int32) : Option Unit :=
  (if inb (i + 1) L = true then (bI (m_O_role N σ (xs (i + 1).toNatClampNeg)) fun r566 _ => (if inb (i + 1) L = true then (bI (m_M_role N μ (xs (i + 1).toNatClampNeg)) fun r576 σ576 => (if r566 = r576 then k33 σ σ576 f i else none)) else none)) else none)

def m_case_13 (N : Nat) (xs : Nat → Int32) (L : Nat) (k33 : SX → SX → (Nat → Int64) → Int32 → Option Unit) (σ μ : SX) (f : Nat → Int64) (i : Int32) : Option Unit :=
  (if inb (i + 1) L = true then (if inb (i + 2) L = true then (bI (m_O_length N σ (xs (i + 1).toNatClampNeg) (xs (i + 2).toNatClampNeg)) fun r597 _ => (if inb (i + 1) L = true then (if inb (i + 2) L = true then (bI (m_M_length N μ (xs (i + 1).toNatClampNeg) (xs (i + 2).toNatClampNeg)) fun r613 σ613 => (if r597 = r613 then k33 σ σ613 f i else none)) else none) else none)) else none) else none)

def m_case_14 (N : Nat) (xs : Nat → Int32) (L : Nat) (k33 : SX → SX → (Nat → Int64) → Int32 → Option Unit) (σ μ : SX) (f : Nat → Int64) (i : Int32) : Option Unit :=
  (if inb (i + 1) L = true then (if inb (i + 2) L = true then (if inb (i + 3) L = true then (bI (m_O_at N σ (xs (i + 1).toNatClampNeg) (xs (i + 2).toNatClampNeg) (xs (i + 3).toNatClampNeg)) fun r640 _ => (if inb (i + 1) L = true then (if inb (i + 2) L = true then (if inb (i + 3) L = true then (bI (m_M_at N μ (xs (i + 1).toNatClampNeg) (xs (i + 2).toNatClampNeg) (xs (i + 3).toNatClampNeg)) fun r662 σ662 => (if r640 = r662 then k33 σ σ662 f i else none)) else none) else none) else none)) else none) else none) else none)

def m_case_15 (N : Nat) (xs : Nat → Int32) (L : Nat) (k33 : SX → SX → (Nat → Int64) → Int32 → Option Unit) (σ μ : SX) (f : Nat → Int64) (i : Int32) : Option Unit :=
  (if inb (i + 1) L = true then (bI (m_O_memory N σ (xs (i + 1).toNatClampNeg)) fun r677 _ => (if inb (i + 1) L = true then (bI (m_M_memory N μ (xs (i + 1).toNatClampNeg)) fun r687 σ687 => (if r677 = r687 then k33 σ σ687 f i else none)) else none)) else none)

def m_case_16 (N : Nat) (xs : Nat → Int32) (L : Nat) (k33 : SX → SX → (Nat → Int64) → Int32 → Option Unit) (σ μ : SX) (f : Nat → Int64) (i : Int32) : Option Unit :=
  (bI (m_O_written N σ) fun r696 _ => (bI (m_M_written N μ) fun r700 σ700 => (if r696 = r700 then k33 σ σ700 f i else none)))

def m_case_17 (N : Nat) (xs : Nat → Int32) (L : Nat) (k33 : SX → SX → (Nat → Int64) → Int32 → Option Unit) (σ μ : SX) (f : Nat → Int64) (i : Int32) : Option Unit :=
  (bI (m_O_broken N σ) fun r709 _ => (bI (m_M_broken N μ) fun r713 σ713 => (if r709 = r713 then k33 σ σ713 f i else none)))

def m_case_18 (N : Nat) (xs : Nat → Int32) (L : Nat) (k33 : SX → SX → (Nat → Int64) → Int32 → Option Unit) (σ μ : SX) (f : Nat → Int64) (i : Int32) : Option Unit :=
  (if inb (i + 1) L = true then (bI (m_O_sorted N σ (xs (i + 1).toNatClampNeg)) fun r728 _ => (if inb (i + 1) L = true then (bI (m_M_sorted N μ (xs (i + 1).toNatClampNeg)) fun r738 σ738 => (if r728 = r738 then k33 σ σ738 f i else none)) else none)) else none)

def m_case_19 (N : Nat) (xs : Nat → Int32) (L : Nat) (k33 : SX → SX → (Nat → Int64) → Int32 → Option Unit) (σ μ : SX) (f : Nat → Int64) (i : Int32) : Option Unit :=
  (if inb (i + 1) L = true then (if inb (i + 2) L = true then (bI (m_O_compare N σ (xs (i + 1).toNatClampNeg) (xs (i + 2).toNatClampNeg)) fun r759 _ => (if inb (i + 1) L = true then (if inb (i + 2) L = true then (bI (m_M_compare N μ (xs (i + 1).toNatClampNeg) (xs (i + 2).toNatClampNeg)) fun r775 σ775 => (if r759 = r775 then k33 σ σ775 f i else none)) else none) else none)) else none) else none)

def m_case_20 (N : Nat) (xs : Nat → Int32) (L : Nat) (k33 : SX → SX → (Nat → Int64) → Int32 → Option Unit) (σ μ : SX) (f : Nat → Int64) (i : Int32) : Option Unit :=
  (if inb (i + 1) L = true then (if inb (i + 2) L = true then (bI (m_O_field N σ (xs (i + 1).toNatClampNeg) (xs (i + 2).toNatClampNeg)) fun r796 _ => (if inb (i + 1) L = true then (if inb (i + 2) L = true then (bI (m_M_field N μ (xs (i + 1).toNatClampNeg) (xs (i + 2).toNatClampNeg)) fun r812 σ812 => (if r796 = r812 then k33 σ σ812 f i else none)) else none) else none)) else none) else none)

def m_case_default (N : Nat) (xs : Nat → Int32) (L : Nat) (k33 : SX → SX → (Nat → Int64) → Int32 → Option Unit) (σ μ : SX) (f : Nat → Int64) (i : Int32) : Option Unit :=
  k33 σ μ f i

def m_turn (N : Nat) (xs : Nat → Int32) (L : Nat) (k33 : SX → SX → (Nat → Int64) → Int32 → Option Unit) (σ μ : SX) (f : Nat → Int64) (i : Int32) : Option Unit :=
  (if inb i L = true then (if (xs i.toNatClampNeg &&& 31) = 0 then m_case_0 N xs L k33 σ μ f i else (if (xs i.toNatClampNeg &&& 31) = 1 then m_case_1 N xs L k33 σ μ f i else (if (xs i.toNatClampNeg &&& 31) = 2 then m_case_2 N xs L k33 σ μ f i else (if (xs i.toNatClampNeg &&& 31) = 3 then m_case_3 N xs L k33 σ μ f i else (if (xs i.toNatClampNeg &&& 31) = 4 then m_case_4 N xs L k33 σ μ f i else (if (xs i.toNatClampNeg &&& 31) = 5 then m_case_5 N xs L k33 σ μ f i else (if (xs i.toNatClampNeg &&& 31) = 6 then m_case_6 N xs L k33 σ μ f i else (if (xs i.toNatClampNeg &&& 31) = 7 then m_case_7 N xs L k33 σ μ f i else (if (xs i.toNatClampNeg &&& 31) = 8 then m_case_8 N xs L k33 σ μ f i else (if (xs i.toNatClampNeg &&& 31) = 9 then m_case_9 N xs L k33 σ μ f i else (if (xs i.toNatClampNeg &&& 31) = 10 then m_case_10 N xs L k33 σ μ f i else (if (xs i.toNatClampNeg &&& 31) = 11 then m_case_11 N xs L k33 σ μ f i else (if (xs i.toNatClampNeg &&& 31) = 12 then m_case_12 N xs L k33 σ μ f i else (if (xs i.toNatClampNeg &&& 31) = 13 then m_case_13 N xs L k33 σ μ f i else (if (xs i.toNatClampNeg &&& 31) = 14 then m_case_14 N xs L k33 σ μ f i else (if (xs i.toNatClampNeg &&& 31) = 15 then m_case_15 N xs L k33 σ μ f i else (if (xs i.toNatClampNeg &&& 31) = 16 then m_case_16 N xs L k33 σ μ f i else (if (xs i.toNatClampNeg &&& 31) = 17 then m_case_17 N xs L k33 σ μ f i else (if (xs i.toNatClampNeg &&& 31) = 18 then m_case_18 N xs L k33 σ μ f i else (if (xs i.toNatClampNeg &&& 31) = 19 then m_case_19 N xs L k33 σ μ f i else (if (xs i.toNatClampNeg &&& 31) = 20 then m_case_20 N xs L k33 σ μ f i else m_case_default N xs L k33 σ μ f i))))))))))))))))))))) else none)

def m_law (N : Nat) (xs : Nat → Int32) (L : Nat) : Nat → SX → SX → (Nat → Int64) → Int32 → Option Unit
  | 0, _, _, _, _ => none
  | n + 1, σ, μ, f, i => if (Int32.ofNat L - 4) < i then some () else m_turn N xs L (fun σ μ f i => m_law N xs L n σ μ f (i + 4)) σ μ f i
theorem sw_outL {x : Int32} (h0 : ¬ x = 0) (h1 : ¬ x = 1) (h2 : ¬ x = 2) (h3 : ¬ x = 3) (h4 : ¬ x = 4) (h5 : ¬ x = 5) (h6 : ¬ x = 6) (h7 : ¬ x = 7) (h8 : ¬ x = 8) (h9 : ¬ x = 9) (h10 : ¬ x = 10) (h11 : ¬ x = 11) (h12 : ¬ x = 12) (h13 : ¬ x = 13) (h14 : ¬ x = 14) (h15 : ¬ x = 15) (h16 : ¬ x = 16) (h17 : ¬ x = 17) (h18 : ¬ x = 18) (h19 : ¬ x = 19) (h20 : ¬ x = 20) : x.toInt < 0 ∨ 20 < x.toInt := by
  have a0 : ¬ x.toInt = 0 := fun q => h0 (Int32.toInt_inj.mp (by rw [q]; rfl))
  have a1 : ¬ x.toInt = 1 := fun q => h1 (Int32.toInt_inj.mp (by rw [q]; rfl))
  have a2 : ¬ x.toInt = 2 := fun q => h2 (Int32.toInt_inj.mp (by rw [q]; rfl))
  have a3 : ¬ x.toInt = 3 := fun q => h3 (Int32.toInt_inj.mp (by rw [q]; rfl))
  have a4 : ¬ x.toInt = 4 := fun q => h4 (Int32.toInt_inj.mp (by rw [q]; rfl))
  have a5 : ¬ x.toInt = 5 := fun q => h5 (Int32.toInt_inj.mp (by rw [q]; rfl))
  have a6 : ¬ x.toInt = 6 := fun q => h6 (Int32.toInt_inj.mp (by rw [q]; rfl))
  have a7 : ¬ x.toInt = 7 := fun q => h7 (Int32.toInt_inj.mp (by rw [q]; rfl))
  have a8 : ¬ x.toInt = 8 := fun q => h8 (Int32.toInt_inj.mp (by rw [q]; rfl))
  have a9 : ¬ x.toInt = 9 := fun q => h9 (Int32.toInt_inj.mp (by rw [q]; rfl))
  have a10 : ¬ x.toInt = 10 := fun q => h10 (Int32.toInt_inj.mp (by rw [q]; rfl))
  have a11 : ¬ x.toInt = 11 := fun q => h11 (Int32.toInt_inj.mp (by rw [q]; rfl))
  have a12 : ¬ x.toInt = 12 := fun q => h12 (Int32.toInt_inj.mp (by rw [q]; rfl))
  have a13 : ¬ x.toInt = 13 := fun q => h13 (Int32.toInt_inj.mp (by rw [q]; rfl))
  have a14 : ¬ x.toInt = 14 := fun q => h14 (Int32.toInt_inj.mp (by rw [q]; rfl))
  have a15 : ¬ x.toInt = 15 := fun q => h15 (Int32.toInt_inj.mp (by rw [q]; rfl))
  have a16 : ¬ x.toInt = 16 := fun q => h16 (Int32.toInt_inj.mp (by rw [q]; rfl))
  have a17 : ¬ x.toInt = 17 := fun q => h17 (Int32.toInt_inj.mp (by rw [q]; rfl))
  have a18 : ¬ x.toInt = 18 := fun q => h18 (Int32.toInt_inj.mp (by rw [q]; rfl))
  have a19 : ¬ x.toInt = 19 := fun q => h19 (Int32.toInt_inj.mp (by rw [q]; rfl))
  have a20 : ¬ x.toInt = 20 := fun q => h20 (Int32.toInt_inj.mp (by rw [q]; rfl))
  omega
set_option maxHeartbeats 8000000 in
set_option maxRecDepth 100000 in
theorem law_loop {p : Program} {e : Env} {s : State} {m : MethodId} {below : List Frame} {meth : Method} {c : Code} (l : Launch) (htr : l.stackTraces = false) {b L : Nat} {xs : Nat → Int32} (dC : Nat → ClassId) (dI : Nat → Nat → Nat) (ad bd : Nat → Nat → Nat) (cs : Nat → ClassId) (cL : ClassId) (qo N : Nat)
    (hx : p.tables.exec = Jvm.exec) (hb : c.code = code) (hr : meth.sig.returnType = ret) (hml : c.maxLocals = 7) (hown : s.vm.findClass R_L = some m.cls) (hts : ∀ w ∈ (Cond.initialized R_L :: tb), w.before #[Value.ref b] s = true) (hX : va_X b L xs s s.heap) (hbl : b < s.heap.size) (hlocks : meth.locks = false)
    (hK : va_K (dC, dI) classes (tyW cs) s) (hKl : va_K (dC, dI) classes [(cL, .long)] s) (hN : nwW s) (hZ : stW s) : ∀ (n33 : Nat) (H : Heap) (locs : List Loc) (ls : Array Slot) (st : List Value), (fun n33 H locs ls st => ∃ (σ μ : SX) (f : Nat → Int64) (i : Int32), st = [] ∧ m_law N xs L n33 σ μ f i = some () ∧ n33 ≤ 1000 ∧ lv_has ls 7 [(0, .ref b), (1, .ref (ad 0 0)), (2, .ref (bd 0 0)), (3, .ref qo), (4, .int i)] ∧ va_P (dC, dI) classes (wX ad cs σ) H ∧ va_P (dC, dI) classes (wM bd cs μ) H ∧ va_P (dC, dI) classes [oC qo cL f] H ∧ va_D (fun q => s.heap.size ≤ q) (wL ad cs σ bd μ qo cL f) ∧ va_S (fun q => s.heap.size ≤ q) s.heap H locs) n33 H locs ls st → W p l e room_1 s m #[Value.ref b] below meth c H locs (600000 - n33) (7300000 - 6 * n33) (lw_Z below #[Value.ref b] s) (F0 m 33 ls st) := by
  have htb : ∀ w ∈ tb, w.before #[Value.ref b] s = true := fun w h => hts w (List.mem_cons_of_mem _ h)
  have hA : ∀ q : Nat, s.heap.size ≤ q → s.heap.size ≤ q := fun q h => h
  intro n33
  induction n33 with
  | zero =>
    rintro H locs ls st ⟨σ, μ, f, i, -, hM, -⟩
    rw [m_law] at hM; cases hM
  | succ n33 K33 =>
    rintro H locs ls st ⟨σ, μ, f, i, rfl, hM, hn, hl, hP, hPm, hPo, hD, hS⟩
    have hcA : (600000 - (n33 + 1)) + 1 ≤ room_1.cells := by show _ ≤ 600002; omega
    have hsA : (7300000 - 6 * (n33 + 1)) + 6 ≤ room_1.slots := by show _ ≤ 7302198; omega
    have hcB : (600000 - n33) + 0 ≤ room_1.cells := by show _ ≤ 600002; omega
    have hsB : (7300000 - 6 * n33) + 0 ≤ room_1.slots := by show _ ≤ 7302198; omega
    have KF : ∀ (H : Heap) (locs : List Loc) (ls : Array Slot) (st : List Value), (fun H locs ls st => ∃ (σ μ : SX) (f : Nat → Int64) (i : Int32), st = [] ∧ m_law N xs L n33 σ μ f (i + 4) = some () ∧ lv_has ls 7 [(0, .ref b), (1, .ref (ad 0 0)), (2, .ref (bd 0 0)), (3, .ref qo), (4, .int i)] ∧ va_P (dC, dI) classes (wX ad cs σ) H ∧ va_P (dC, dI) classes (wM bd cs μ) H ∧ va_P (dC, dI) classes [oC qo cL f] H ∧ va_D (fun q => s.heap.size ≤ q) (wL ad cs σ bd μ qo cL f) ∧ va_S (fun q => s.heap.size ≤ q) s.heap H locs) H locs ls st → W p l e room_1 s m #[Value.ref b] below meth c H locs (600000 - n33) (7300000 - 6 * n33) (lw_Z below #[Value.ref b] s) (F0 m 820 ls st) := by
      rintro H locs ls st ⟨σ, μ, f, i, rfl, hM, hl, hP, hPm, hPo, hD, hS⟩
      refine lv_iinc (k := 4) (v := (i + 4)) hx hb d_law_820 hl rfl rfl (by decide) (lv' := [(4, .int (i + 4)), (0, .ref b), (1, .ref (ad 0 0)), (2, .ref (bd 0 0)), (3, .ref qo)]) rfl (fun ls hl => ?_)
      refine lv_goto (tgt := 33) hx hb d_law_823 (by decide) ?_
      exact K33 _ _ _ _ ⟨σ, μ, f, (i + 4), rfl, hM, by omega, lv_sub hl [1, 2, 3, 4, 0] rfl, hP, hPm, hPo, hD, hS⟩
    rw [m_law] at hM
    refine lv_iload hx hb d_law_33 (lv_at hl 4 rfl) ?_
    refine lv_aload_n hx hb d_law_35 rfl (lv_at hl 0 rfl) ?_
    refine va_slen hx hb hX hbl (Nat.not_le.mpr hbl) hS d_law_36 ?_
    refine lv_iconst (v := 4) hx hb d_law_37 (by decide) ?_
    refine lv_isub hx hb d_law_38 ?_
    refine lv_icmp_gt (tgt := 826) hx hb d_law_39 (by decide) (fun h39 => ?_) (fun h39 => ?_)
    · rw [if_pos h39] at hM
      refine lv_iconst (v := 1) hx hb d_law_826 (by decide) ?_
      refine va_forget hS.2.2 ?_
      refine W.widen (k := 600002) (n := 7302198) (by omega) (by omega) ?_
      exact lw_ret hx hb hr hlocks d_law_827
    rw [if_neg h39, m_turn] at hM
    refine lv_aload_n hx hb d_law_42 rfl (lv_at hl 0 rfl) ?_
    refine lv_iload hx hb d_law_43 (lv_at hl 4 rfl) ?_
    have hg45 := gd_c hM
    have hM := gd_v hM
    refine va_sld hx hb hX hbl (Nat.not_le.mpr hbl) hS (inb_in hg45) d_law_45 ?_
    refine lv_bipush (v := 31) hx hb d_law_46 (by decide) ?_
    refine lv_iand hx hb d_law_48 ?_
    by_cases hw_0 : (xs i.toNatClampNeg &&& 31) = 0
    · rw [if_pos hw_0, m_case_0] at hM
      refine lv_tableIn (tgt := 148) (off := 99) hx hb d_law_49 (by rw [hw_0]; decide) (by rw [hw_0]; decide) (by rw [hw_0]; decide) (by decide) ?_
      refine lv_aload_n hx hb d_law_148 rfl (lv_at hl 1 rfl) ?_
      refine lv_aload_n hx hb d_law_149 rfl (lv_at hl 0 rfl) ?_
      refine lv_iload hx hb d_law_150 (lv_at hl 4 rfl) ?_
      refine lv_iconst (v := 1) hx hb d_law_152 (by decide) ?_
      refine lv_iadd hx hb d_law_153 ?_
      have hg154 := gd_c hM
      have hM := gd_v hM
      refine va_sld hx hb hX hbl (Nat.not_le.mpr hbl) hS (inb_in hg154) d_law_154 ?_
      refine lv_aload_n hx hb d_law_155 rfl (lv_at hl 0 rfl) ?_
      refine lv_iload hx hb d_law_156 (lv_at hl 4 rfl) ?_
      refine lv_iconst (v := 2) hx hb d_law_158 (by decide) ?_
      refine lv_iadd hx hb d_law_159 ?_
      have hg160 := gd_c hM
      have hM := gd_v hM
      refine va_sld hx hb hX hbl (Nat.not_le.mpr hbl) hS (inb_in hg160) d_law_160 ?_
      refine lv_aload_n hx hb d_law_161 rfl (lv_at hl 3 rfl) ?_
      obtain ⟨x162, hq162, hM⟩ := bH_some hM
      obtain ⟨x162, y162, z162⟩ := x162
      have hDo := D_xo hD
      have hF1 := free_all hDo hS hA
      refine va_calli (va_runSW (n := 4) (As := [.ref (ad 0 0), .int (xs (i + 1).toNatClampNeg), .int (xs (i + 2).toNatClampNeg), .ref qo]) (rest := []) ⟨hx, hb, hml, hown, hts⟩ (c_L_card l htr dC dI ad cs cL qo _ N σ f (xs (i + 1).toNatClampNeg) (xs (i + 2).toNatClampNeg) hq162) (goodX k_343) rfl rfl ⟨Nat.le_of_ble_eq_true rfl, Nat.le_of_ble_eq_true rfl⟩ (htb _ k_341) (htb _ k_342) (htb _ k_0) ⟨by decide, by decide, by decide +kernel⟩ ⟨blindL, payL (hP.app hPo) hK hKl hDo hN hZ (fun a ha => hS.2.1 a ha (Nat.not_le.mpr ha))⟩ rfl rfl hl.1 rfl (lv_room (Nat.le_of_ble_eq_true rfl)) d_law_162 ⟨hcA, hsA⟩) hS (fun q _ h => hF1 q h) hF1 (fun r162 u162 t H locs ht hvm hpost hB hz1 hk1 hS => ?_)
      obtain ⟨e1, e2⟩ := hpost
      subst e1
      subst e2
      rw [ht] at hB
      dsimp only at hB hM
      have hPm := fr (ap_om hD) hk1 hPm
      have hP := P_left hB
      have hPo := P_right hB
      have hD := D_3 hD (σ' := y162) (μ' := μ) (f' := z162)
      refine W.widen (k := 600000 - n33) (n := 7300000 - 6 * n33) (by omega) (by omega) ?_
      refine lv_istore hx hb d_law_165 hl (by decide) (lv' := [(5, .int r162), (0, .ref b), (1, .ref (ad 0 0)), (2, .ref (bd 0 0)), (3, .ref qo), (4, .int i)]) rfl (fun ls hl => ?_)
      refine lv_aload_n hx hb d_law_167 rfl (lv_at hl 3 rfl) ?_
      refine lv_aload_n hx hb d_law_168 rfl (lv_at hl 1 rfl) ?_
      refine lv_iload hx hb d_law_169 (lv_at hl 5 rfl) ?_
      refine lv_iconst (v := 1) hx hb d_law_171 (by decide) ?_
      refine lv_iadd hx hb d_law_172 ?_
      have hg173 := gd_c hM
      have hM := gd_v hM
      refine va_sld hx hb hX hbl (Nat.not_le.mpr hbl) hS (inb_in hg173) d_law_173 ?_
      refine lv_aload_n hx hb d_law_174 rfl (lv_at hl 1 rfl) ?_
      refine lv_iload hx hb d_law_175 (lv_at hl 5 rfl) ?_
      refine lv_iconst (v := 2) hx hb d_law_177 (by decide) ?_
      refine lv_iadd hx hb d_law_178 ?_
      have hg179 := gd_c hM
      have hM := gd_v hM
      refine va_sld hx hb hX hbl (Nat.not_le.mpr hbl) hS (inb_in hg179) d_law_179 ?_
      have hF1 := free_all (D_left (D_right hD)) hS hA
      obtain ⟨x180, y180, hq180, hM⟩ := bI_some hM
      refine va_calli (va_runV (As := [.int (xs (i + 1).toNatClampNeg), .int (xs (i + 2).toNatClampNeg)]) (rest := []) ⟨hx, hb, hml, hown, hts⟩ (c_M_card l dC dI bd cs _ N μ (xs (i + 1).toNatClampNeg) (xs (i + 2).toNatClampNeg) hq180) (cwV 2 hts (goodVW k_723 k_724 k_725 k_8 k_726) rfl rfl rfl ⟨rfl, by decide, by decide, by decide +kernel⟩ ⟨Nat.le_of_ble_eq_true rfl, Nat.le_of_ble_eq_true rfl⟩) ⟨blindM, va_recv hK hPm rfl g_M, payM hPm hK (D_left (D_right hD)) hN⟩ rfl rfl hl.1 rfl (lv_room (Nat.le_of_ble_eq_true rfl)) d_law_180 ⟨hcB, hsB⟩) hS (fun q _ h => hF1 q h) hF1 (fun r180 σ180 t H locs ht hvm hpost hB hz1 hk1 hS => ?_)
      obtain ⟨e1, e2⟩ := hpost
      subst e1
      subst e2
      obtain ⟨hP1, hK1, hD1⟩ := hB
      rw [ht] at hP1
      have hP := fr (ap_mx hD) hk1 hP
      have hPo := fr (ap_mo hD) hk1 hPo
      have hPm := hP1
      have hD := D_3 hD (σ' := y162) (μ' := σ180) (f' := z162)
      refine lv_istore hx hb d_law_183 hl (by decide) (lv' := [(6, .int r180), (5, .int r162), (0, .ref b), (1, .ref (ad 0 0)), (2, .ref (bd 0 0)), (3, .ref qo), (4, .int i)]) rfl (fun ls hl => ?_)
      refine lv_aload_n hx hb d_law_185 rfl (lv_at hl 4 rfl) ?_
      obtain ⟨x186, y186, hq186, hM⟩ := bI_some hM
      refine va_calli (va_runV (As := []) (rest := []) ⟨hx, hb, hml, hown, hts⟩ (c_M_thrown l dC dI bd cs _ N σ180 hq186) (cwV 0 hts (goodVW k_719 k_720 k_721 k_8 k_722) rfl rfl rfl ⟨rfl, by decide, by decide, by decide +kernel⟩ ⟨Nat.le_of_ble_eq_true rfl, Nat.le_of_ble_eq_true rfl⟩) ⟨blindM, va_recv hK hPm rfl g_M, payM hPm hK (D_left (D_right hD)) hN⟩ rfl rfl hl.1 rfl (lv_room (Nat.le_of_ble_eq_true rfl)) d_law_186 ⟨hcB, hsB⟩) hS (fun q h0 h => absurd h0 (Nat.not_lt.mpr h)) (fun q h => hA q (Nat.le_trans hS.1 h)) (fun r186 u t H locs ht hvm hpost hB hz1 hk1 hS => ?_)
      obtain ⟨e1, e2⟩ := hpost
      subst e1
      subst e2
      have hP := keepP hP hk1
      have hPm := keepP hPm hk1
      have hPo := keepP hPo hk1
      refine lv_iload hx hb d_law_189 (lv_at hl 1 rfl) ?_
      refine lv_icmp_eq (tgt := 196) hx hb d_law_191 (by decide) (fun h191 => ?_) (fun h191 => ?_)
      · rw [if_pos h191] at hM
        refine lv_iload hx hb d_law_196 (lv_at hl 1 rfl) ?_
        refine lv_if_ne (tgt := 213) hx hb d_law_198 (by decide) (fun h198 => ?_) (fun h198 => ?_)
        · rw [if_neg h198] at hM
          refine lv_goto (tgt := 820) hx hb d_law_213 (by decide) ?_
          exact KF _ _ _ _ ⟨y162, σ180, z162, i, rfl, hM, lv_sub hl [2, 3, 4, 5, 6] rfl, hP, hPm, hPo, hD, hS⟩
        · rw [if_pos h198] at hM
          refine lv_aload_n hx hb d_law_201 rfl (lv_at hl 5 rfl) ?_
          refine lv_iconst (v := 0) hx hb d_law_202 (by decide) ?_
          refine va_lald hx hb hKl hPo 0 0 rfl rfl (inb_in (by decide)) d_law_203 ?_
          refine lv_iload hx hb d_law_204 (lv_at hl 0 rfl) ?_
          refine lv_i2l hx hb d_law_206 rfl ?_
          refine W.lcmp hx hb d_law_207 ?_
          refine lv_if_eq (tgt := 213) hx hb d_law_208 (by decide) (fun h208 => ?_) (fun h208 => ?_)
          · rw [if_pos h208] at hM
            refine lv_goto (tgt := 820) hx hb d_law_213 (by decide) ?_
            exact KF _ _ _ _ ⟨y162, σ180, z162, i, rfl, hM, lv_sub hl [2, 3, 4, 5, 6] rfl, hP, hPm, hPo, hD, hS⟩
          · rw [if_neg h208] at hM
            refine lv_iconst (v := 0) hx hb d_law_211 (by decide) ?_
            cases hM
      · rw [if_neg h191] at hM
        refine lv_iconst (v := 0) hx hb d_law_194 (by decide) ?_
        cases hM
    rw [if_neg hw_0] at hM
    by_cases hw_1 : (xs i.toNatClampNeg &&& 31) = 1
    · rw [if_pos hw_1, m_case_1] at hM
      refine lv_tableIn (tgt := 216) (off := 167) hx hb d_law_49 (by rw [hw_1]; decide) (by rw [hw_1]; decide) (by rw [hw_1]; decide) (by decide) ?_
      refine lv_aload_n hx hb d_law_216 rfl (lv_at hl 1 rfl) ?_
      refine lv_aload_n hx hb d_law_217 rfl (lv_at hl 0 rfl) ?_
      refine lv_iload hx hb d_law_218 (lv_at hl 4 rfl) ?_
      refine lv_iconst (v := 1) hx hb d_law_220 (by decide) ?_
      refine lv_iadd hx hb d_law_221 ?_
      have hg222 := gd_c hM
      have hM := gd_v hM
      refine va_sld hx hb hX hbl (Nat.not_le.mpr hbl) hS (inb_in hg222) d_law_222 ?_
      refine lv_aload_n hx hb d_law_223 rfl (lv_at hl 0 rfl) ?_
      refine lv_iload hx hb d_law_224 (lv_at hl 4 rfl) ?_
      refine lv_iconst (v := 2) hx hb d_law_226 (by decide) ?_
      refine lv_iadd hx hb d_law_227 ?_
      have hg228 := gd_c hM
      have hM := gd_v hM
      refine va_sld hx hb hX hbl (Nat.not_le.mpr hbl) hS (inb_in hg228) d_law_228 ?_
      refine lv_aload_n hx hb d_law_229 rfl (lv_at hl 3 rfl) ?_
      obtain ⟨x230, hq230, hM⟩ := bH_some hM
      obtain ⟨x230, y230, z230⟩ := x230
      have hDo := D_xo hD
      have hF1 := free_all hDo hS hA
      refine va_calli (va_runSW (n := 4) (As := [.ref (ad 0 0), .int (xs (i + 1).toNatClampNeg), .int (xs (i + 2).toNatClampNeg), .ref qo]) (rest := []) ⟨hx, hb, hml, hown, hts⟩ (c_L_part l htr dC dI ad cs cL qo _ N σ f (xs (i + 1).toNatClampNeg) (xs (i + 2).toNatClampNeg) hq230) (goodX k_422) rfl rfl ⟨Nat.le_of_ble_eq_true rfl, Nat.le_of_ble_eq_true rfl⟩ (htb _ k_420) (htb _ k_421) (htb _ k_0) ⟨by decide, by decide, by decide +kernel⟩ ⟨blindL, payL (hP.app hPo) hK hKl hDo hN hZ (fun a ha => hS.2.1 a ha (Nat.not_le.mpr ha))⟩ rfl rfl hl.1 rfl (lv_room (Nat.le_of_ble_eq_true rfl)) d_law_230 ⟨hcA, hsA⟩) hS (fun q _ h => hF1 q h) hF1 (fun r230 u230 t H locs ht hvm hpost hB hz1 hk1 hS => ?_)
      obtain ⟨e1, e2⟩ := hpost
      subst e1
      subst e2
      rw [ht] at hB
      dsimp only at hB hM
      have hPm := fr (ap_om hD) hk1 hPm
      have hP := P_left hB
      have hPo := P_right hB
      have hD := D_3 hD (σ' := y230) (μ' := μ) (f' := z230)
      refine W.widen (k := 600000 - n33) (n := 7300000 - 6 * n33) (by omega) (by omega) ?_
      refine lv_istore hx hb d_law_233 hl (by decide) (lv' := [(5, .int r230), (0, .ref b), (1, .ref (ad 0 0)), (2, .ref (bd 0 0)), (3, .ref qo), (4, .int i)]) rfl (fun ls hl => ?_)
      refine lv_aload_n hx hb d_law_235 rfl (lv_at hl 3 rfl) ?_
      refine lv_aload_n hx hb d_law_236 rfl (lv_at hl 1 rfl) ?_
      refine lv_iload hx hb d_law_237 (lv_at hl 5 rfl) ?_
      refine lv_iconst (v := 1) hx hb d_law_239 (by decide) ?_
      refine lv_iadd hx hb d_law_240 ?_
      have hg241 := gd_c hM
      have hM := gd_v hM
      refine va_sld hx hb hX hbl (Nat.not_le.mpr hbl) hS (inb_in hg241) d_law_241 ?_
      refine lv_aload_n hx hb d_law_242 rfl (lv_at hl 1 rfl) ?_
      refine lv_iload hx hb d_law_243 (lv_at hl 5 rfl) ?_
      refine lv_iconst (v := 2) hx hb d_law_245 (by decide) ?_
      refine lv_iadd hx hb d_law_246 ?_
      have hg247 := gd_c hM
      have hM := gd_v hM
      refine va_sld hx hb hX hbl (Nat.not_le.mpr hbl) hS (inb_in hg247) d_law_247 ?_
      have hF1 := free_all (D_left (D_right hD)) hS hA
      obtain ⟨x248, y248, hq248, hM⟩ := bI_some hM
      refine va_calli (va_runV (As := [.int (xs (i + 1).toNatClampNeg), .int (xs (i + 2).toNatClampNeg)]) (rest := []) ⟨hx, hb, hml, hown, hts⟩ (c_M_part l dC dI bd cs _ N μ (xs (i + 1).toNatClampNeg) (xs (i + 2).toNatClampNeg) hq248) (cwV 2 hts (goodVW k_727 k_728 k_729 k_8 k_730) rfl rfl rfl ⟨rfl, by decide, by decide, by decide +kernel⟩ ⟨Nat.le_of_ble_eq_true rfl, Nat.le_of_ble_eq_true rfl⟩) ⟨blindM, va_recv hK hPm rfl g_M, payM hPm hK (D_left (D_right hD)) hN⟩ rfl rfl hl.1 rfl (lv_room (Nat.le_of_ble_eq_true rfl)) d_law_248 ⟨hcB, hsB⟩) hS (fun q _ h => hF1 q h) hF1 (fun r248 σ248 t H locs ht hvm hpost hB hz1 hk1 hS => ?_)
      obtain ⟨e1, e2⟩ := hpost
      subst e1
      subst e2
      obtain ⟨hP1, hK1, hD1⟩ := hB
      rw [ht] at hP1
      have hP := fr (ap_mx hD) hk1 hP
      have hPo := fr (ap_mo hD) hk1 hPo
      have hPm := hP1
      have hD := D_3 hD (σ' := y230) (μ' := σ248) (f' := z230)
      refine lv_istore hx hb d_law_251 hl (by decide) (lv' := [(6, .int r248), (5, .int r230), (0, .ref b), (1, .ref (ad 0 0)), (2, .ref (bd 0 0)), (3, .ref qo), (4, .int i)]) rfl (fun ls hl => ?_)
      refine lv_aload_n hx hb d_law_253 rfl (lv_at hl 4 rfl) ?_
      obtain ⟨x254, y254, hq254, hM⟩ := bI_some hM
      refine va_calli (va_runV (As := []) (rest := []) ⟨hx, hb, hml, hown, hts⟩ (c_M_thrown l dC dI bd cs _ N σ248 hq254) (cwV 0 hts (goodVW k_719 k_720 k_721 k_8 k_722) rfl rfl rfl ⟨rfl, by decide, by decide, by decide +kernel⟩ ⟨Nat.le_of_ble_eq_true rfl, Nat.le_of_ble_eq_true rfl⟩) ⟨blindM, va_recv hK hPm rfl g_M, payM hPm hK (D_left (D_right hD)) hN⟩ rfl rfl hl.1 rfl (lv_room (Nat.le_of_ble_eq_true rfl)) d_law_254 ⟨hcB, hsB⟩) hS (fun q h0 h => absurd h0 (Nat.not_lt.mpr h)) (fun q h => hA q (Nat.le_trans hS.1 h)) (fun r254 u t H locs ht hvm hpost hB hz1 hk1 hS => ?_)
      obtain ⟨e1, e2⟩ := hpost
      subst e1
      subst e2
      have hP := keepP hP hk1
      have hPm := keepP hPm hk1
      have hPo := keepP hPo hk1
      refine lv_iload hx hb d_law_257 (lv_at hl 1 rfl) ?_
      refine lv_icmp_eq (tgt := 264) hx hb d_law_259 (by decide) (fun h259 => ?_) (fun h259 => ?_)
      · rw [if_pos h259] at hM
        refine lv_iload hx hb d_law_264 (lv_at hl 1 rfl) ?_
        refine lv_if_ne (tgt := 281) hx hb d_law_266 (by decide) (fun h266 => ?_) (fun h266 => ?_)
        · rw [if_neg h266] at hM
          refine lv_goto (tgt := 820) hx hb d_law_281 (by decide) ?_
          exact KF _ _ _ _ ⟨y230, σ248, z230, i, rfl, hM, lv_sub hl [2, 3, 4, 5, 6] rfl, hP, hPm, hPo, hD, hS⟩
        · rw [if_pos h266] at hM
          refine lv_aload_n hx hb d_law_269 rfl (lv_at hl 5 rfl) ?_
          refine lv_iconst (v := 0) hx hb d_law_270 (by decide) ?_
          refine va_lald hx hb hKl hPo 0 0 rfl rfl (inb_in (by decide)) d_law_271 ?_
          refine lv_iload hx hb d_law_272 (lv_at hl 0 rfl) ?_
          refine lv_i2l hx hb d_law_274 rfl ?_
          refine W.lcmp hx hb d_law_275 ?_
          refine lv_if_eq (tgt := 281) hx hb d_law_276 (by decide) (fun h276 => ?_) (fun h276 => ?_)
          · rw [if_pos h276] at hM
            refine lv_goto (tgt := 820) hx hb d_law_281 (by decide) ?_
            exact KF _ _ _ _ ⟨y230, σ248, z230, i, rfl, hM, lv_sub hl [2, 3, 4, 5, 6] rfl, hP, hPm, hPo, hD, hS⟩
          · rw [if_neg h276] at hM
            refine lv_iconst (v := 0) hx hb d_law_279 (by decide) ?_
            cases hM
      · rw [if_neg h259] at hM
        refine lv_iconst (v := 0) hx hb d_law_262 (by decide) ?_
        cases hM
    rw [if_neg hw_1] at hM
    by_cases hw_2 : (xs i.toNatClampNeg &&& 31) = 2
    · rw [if_pos hw_2, m_case_2] at hM
      refine lv_tableIn (tgt := 284) (off := 235) hx hb d_law_49 (by rw [hw_2]; decide) (by rw [hw_2]; decide) (by rw [hw_2]; decide) (by decide) ?_
      refine lv_aload_n hx hb d_law_284 rfl (lv_at hl 1 rfl) ?_
      obtain ⟨x285, hq285, hM⟩ := bH_some hM
      obtain ⟨x285, y285, z285⟩ := x285
      have hDo := D_xo hD
      have hF1 := free_all hDo hS hA
      refine va_calli (va_runSW (n := 1) (As := [.ref (ad 0 0)]) (rest := []) ⟨hx, hb, hml, hown, hts⟩ (c_L_start l htr dC dI ad cs cL qo _ N σ f hq285) (goodX k_455) rfl rfl ⟨Nat.le_of_ble_eq_true rfl, Nat.le_of_ble_eq_true rfl⟩ (htb _ k_453) (htb _ k_454) (htb _ k_0) ⟨by decide, by decide, by decide +kernel⟩ ⟨blindL, payL (hP.app hPo) hK hKl hDo hN hZ (fun a ha => hS.2.1 a ha (Nat.not_le.mpr ha))⟩ rfl rfl hl.1 rfl (lv_room (Nat.le_of_ble_eq_true rfl)) d_law_285 ⟨hcA, hsA⟩) hS (fun q _ h => hF1 q h) hF1 (fun r285 u285 t H locs ht hvm hpost hB hz1 hk1 hS => ?_)
      obtain ⟨e1, e2⟩ := hpost
      subst e1
      subst e2
      rw [ht] at hB
      dsimp only at hB hM
      have hPm := fr (ap_om hD) hk1 hPm
      have hP := P_left hB
      have hPo := P_right hB
      have hD := D_3 hD (σ' := y285) (μ' := μ) (f' := z285)
      refine W.widen (k := 600000 - n33) (n := 7300000 - 6 * n33) (by omega) (by omega) ?_
      refine lv_istore hx hb d_law_288 hl (by decide) (lv' := [(5, .int r285), (0, .ref b), (1, .ref (ad 0 0)), (2, .ref (bd 0 0)), (3, .ref qo), (4, .int i)]) rfl (fun ls hl => ?_)
      refine lv_aload_n hx hb d_law_290 rfl (lv_at hl 3 rfl) ?_
      have hF1 := free_all (D_left (D_right hD)) hS hA
      obtain ⟨y291, hq291, hM⟩ := bV_some hM
      refine va_callv (va_runV (As := []) (rest := []) ⟨hx, hb, hml, hown, hts⟩ (c_M_start l dC dI bd cs _ N μ hq291) (cwV 0 hts (goodVW k_751 k_752 k_753 k_8 k_754) rfl rfl rfl ⟨rfl, by decide, by decide, by decide +kernel⟩ ⟨Nat.le_of_ble_eq_true rfl, Nat.le_of_ble_eq_true rfl⟩) ⟨blindM, va_recv hK hPm rfl g_M, payM hPm hK (D_left (D_right hD)) hN⟩ rfl rfl hl.1 rfl (lv_room (Nat.le_of_ble_eq_true rfl)) d_law_291 ⟨hcB, hsB⟩) hS (fun q _ h => hF1 q h) hF1 (fun σ291 t H locs ht hvm hpost hB hz1 hk1 hS => ?_)
      subst hpost
      obtain ⟨hP1, hK1, hD1⟩ := hB
      rw [ht] at hP1
      have hP := fr (ap_mx hD) hk1 hP
      have hPo := fr (ap_mo hD) hk1 hPo
      have hPm := hP1
      have hD := D_3 hD (σ' := y285) (μ' := σ291) (f' := z285)
      refine lv_aload_n hx hb d_law_294 rfl (lv_at hl 3 rfl) ?_
      obtain ⟨x295, y295, hq295, hM⟩ := bI_some hM
      refine va_calli (va_runV (As := []) (rest := []) ⟨hx, hb, hml, hown, hts⟩ (c_M_thrown l dC dI bd cs _ N σ291 hq295) (cwV 0 hts (goodVW k_719 k_720 k_721 k_8 k_722) rfl rfl rfl ⟨rfl, by decide, by decide, by decide +kernel⟩ ⟨Nat.le_of_ble_eq_true rfl, Nat.le_of_ble_eq_true rfl⟩) ⟨blindM, va_recv hK hPm rfl g_M, payM hPm hK (D_left (D_right hD)) hN⟩ rfl rfl hl.1 rfl (lv_room (Nat.le_of_ble_eq_true rfl)) d_law_295 ⟨hcB, hsB⟩) hS (fun q h0 h => absurd h0 (Nat.not_lt.mpr h)) (fun q h => hA q (Nat.le_trans hS.1 h)) (fun r295 u t H locs ht hvm hpost hB hz1 hk1 hS => ?_)
      obtain ⟨e1, e2⟩ := hpost
      subst e1
      subst e2
      have hP := keepP hP hk1
      have hPm := keepP hPm hk1
      have hPo := keepP hPo hk1
      refine lv_iload hx hb d_law_298 (lv_at hl 0 rfl) ?_
      refine lv_icmp_eq (tgt := 305) hx hb d_law_300 (by decide) (fun h300 => ?_) (fun h300 => ?_)
      · rw [if_pos h300] at hM
        refine lv_goto (tgt := 820) hx hb d_law_305 (by decide) ?_
        exact KF _ _ _ _ ⟨y285, σ291, z285, i, rfl, hM, lv_sub hl [1, 2, 3, 4, 5] rfl, hP, hPm, hPo, hD, hS⟩
      · rw [if_neg h300] at hM
        refine lv_iconst (v := 0) hx hb d_law_303 (by decide) ?_
        cases hM
    rw [if_neg hw_2] at hM
    by_cases hw_3 : (xs i.toNatClampNeg &&& 31) = 3
    · rw [if_pos hw_3, m_case_3] at hM
      refine lv_tableIn (tgt := 308) (off := 259) hx hb d_law_49 (by rw [hw_3]; decide) (by rw [hw_3]; decide) (by rw [hw_3]; decide) (by decide) ?_
      refine W.widen (k := 600000 - n33) (n := 7300000 - 6 * n33) (by omega) (by omega) ?_
      refine lv_aload_n hx hb d_law_308 rfl (lv_at hl 1 rfl) ?_
      have hF1 := free_all (D_left hD) hS hA
      obtain ⟨x309, y309, hq309, hM⟩ := bI_some hM
      refine va_calli (va_runV (As := []) (rest := []) ⟨hx, hb, hml, hown, hts⟩ (c_O_clear l dC dI ad cs _ N σ hq309) (cwV 0 hts (goodVW k_185 k_186 k_187 k_1 k_188) rfl rfl rfl ⟨rfl, by decide, by decide, by decide +kernel⟩ ⟨Nat.le_of_ble_eq_true rfl, Nat.le_of_ble_eq_true rfl⟩) ⟨blindX, va_recv hK hP rfl g_O, payX hP hK (D_left hD) hN⟩ rfl rfl hl.1 rfl (lv_room (Nat.le_of_ble_eq_true rfl)) d_law_309 ⟨hcB, hsB⟩) hS (fun q _ h => hF1 q h) hF1 (fun r309 σ309 t H locs ht hvm hpost hB hz1 hk1 hS => ?_)
      obtain ⟨e1, e2⟩ := hpost
      subst e1
      subst e2
      obtain ⟨hP1, hK1, hD1⟩ := hB
      rw [ht] at hP1
      have hPm := fr (ap_xm hD) hk1 hPm
      have hPo := fr (ap_xo hD) hk1 hPo
      have hP := hP1
      have hD := D_3 hD (σ' := σ309) (μ' := μ) (f' := f)
      refine lv_aload_n hx hb d_law_312 rfl (lv_at hl 2 rfl) ?_
      have hF1 := free_all (D_left (D_right hD)) hS hA
      obtain ⟨x313, y313, hq313, hM⟩ := bI_some hM
      refine va_calli (va_runV (As := []) (rest := [.int r309]) ⟨hx, hb, hml, hown, hts⟩ (c_M_clear l dC dI bd cs _ N μ hq313) (cwV 0 hts (goodVW k_759 k_760 k_761 k_8 k_762) rfl rfl rfl ⟨rfl, by decide, by decide, by decide +kernel⟩ ⟨Nat.le_of_ble_eq_true rfl, Nat.le_of_ble_eq_true rfl⟩) ⟨blindM, va_recv hK hPm rfl g_M, payM hPm hK (D_left (D_right hD)) hN⟩ rfl rfl hl.1 rfl (lv_room (Nat.le_of_ble_eq_true rfl)) d_law_313 ⟨hcB, hsB⟩) hS (fun q _ h => hF1 q h) hF1 (fun r313 σ313 t H locs ht hvm hpost hB hz1 hk1 hS => ?_)
      obtain ⟨e1, e2⟩ := hpost
      subst e1
      subst e2
      obtain ⟨hP1, hK1, hD1⟩ := hB
      rw [ht] at hP1
      have hP := fr (ap_mx hD) hk1 hP
      have hPo := fr (ap_mo hD) hk1 hPo
      have hPm := hP1
      have hD := D_3 hD (σ' := σ309) (μ' := σ313) (f' := f)
      refine lv_icmp_eq (tgt := 820) hx hb d_law_316 (by decide) (fun h316 => ?_) (fun h316 => ?_)
      · rw [if_pos h316] at hM
        exact KF _ _ _ _ ⟨σ309, σ313, f, i, rfl, hM, lv_sub hl [0, 1, 2, 3, 4] rfl, hP, hPm, hPo, hD, hS⟩
      · rw [if_neg h316] at hM
        refine lv_iconst (v := 0) hx hb d_law_319 (by decide) ?_
        cases hM
    rw [if_neg hw_3] at hM
    by_cases hw_4 : (xs i.toNatClampNeg &&& 31) = 4
    · rw [if_pos hw_4, m_case_4] at hM
      refine lv_tableIn (tgt := 321) (off := 272) hx hb d_law_49 (by rw [hw_4]; decide) (by rw [hw_4]; decide) (by rw [hw_4]; decide) (by decide) ?_
      refine lv_aload_n hx hb d_law_321 rfl (lv_at hl 1 rfl) ?_
      refine lv_aload_n hx hb d_law_322 rfl (lv_at hl 0 rfl) ?_
      refine lv_iload hx hb d_law_323 (lv_at hl 4 rfl) ?_
      refine lv_iconst (v := 1) hx hb d_law_325 (by decide) ?_
      refine lv_iadd hx hb d_law_326 ?_
      have hg327 := gd_c hM
      have hM := gd_v hM
      refine va_sld hx hb hX hbl (Nat.not_le.mpr hbl) hS (inb_in hg327) d_law_327 ?_
      refine lv_aload_n hx hb d_law_328 rfl (lv_at hl 3 rfl) ?_
      obtain ⟨x329, hq329, hM⟩ := bH_some hM
      obtain ⟨x329, y329, z329⟩ := x329
      have hDo := D_xo hD
      have hF1 := free_all hDo hS hA
      refine va_calli (va_runSW (n := 3) (As := [.ref (ad 0 0), .int (xs (i + 1).toNatClampNeg), .ref qo]) (rest := []) ⟨hx, hb, hml, hown, hts⟩ (c_L_step l htr dC dI ad cs cL qo _ N σ f (xs (i + 1).toNatClampNeg) hq329) (goodX k_482) rfl rfl ⟨Nat.le_of_ble_eq_true rfl, Nat.le_of_ble_eq_true rfl⟩ (htb _ k_480) (htb _ k_481) (htb _ k_0) ⟨by decide, by decide, by decide +kernel⟩ ⟨blindL, payL (hP.app hPo) hK hKl hDo hN hZ (fun a ha => hS.2.1 a ha (Nat.not_le.mpr ha))⟩ rfl rfl hl.1 rfl (lv_room (Nat.le_of_ble_eq_true rfl)) d_law_329 ⟨hcA, hsA⟩) hS (fun q _ h => hF1 q h) hF1 (fun r329 u329 t H locs ht hvm hpost hB hz1 hk1 hS => ?_)
      obtain ⟨e1, e2⟩ := hpost
      subst e1
      subst e2
      rw [ht] at hB
      dsimp only at hB hM
      have hPm := fr (ap_om hD) hk1 hPm
      have hP := P_left hB
      have hPo := P_right hB
      have hD := D_3 hD (σ' := y329) (μ' := μ) (f' := z329)
      refine W.widen (k := 600000 - n33) (n := 7300000 - 6 * n33) (by omega) (by omega) ?_
      refine lv_istore hx hb d_law_332 hl (by decide) (lv' := [(5, .int r329), (0, .ref b), (1, .ref (ad 0 0)), (2, .ref (bd 0 0)), (3, .ref qo), (4, .int i)]) rfl (fun ls hl => ?_)
      refine lv_aload_n hx hb d_law_334 rfl (lv_at hl 3 rfl) ?_
      refine lv_aload_n hx hb d_law_335 rfl (lv_at hl 1 rfl) ?_
      refine lv_iload hx hb d_law_336 (lv_at hl 5 rfl) ?_
      refine lv_iconst (v := 1) hx hb d_law_338 (by decide) ?_
      refine lv_iadd hx hb d_law_339 ?_
      have hg340 := gd_c hM
      have hM := gd_v hM
      refine va_sld hx hb hX hbl (Nat.not_le.mpr hbl) hS (inb_in hg340) d_law_340 ?_
      have hF1 := free_all (D_left (D_right hD)) hS hA
      obtain ⟨x341, y341, hq341, hM⟩ := bI_some hM
      refine va_calli (va_runV (As := [.int (xs (i + 1).toNatClampNeg)]) (rest := []) ⟨hx, hb, hml, hown, hts⟩ (c_M_step l dC dI bd cs _ N μ (xs (i + 1).toNatClampNeg) hq341) (cwV 1 hts (goodVW k_763 k_764 k_765 k_8 k_766) rfl rfl rfl ⟨rfl, by decide, by decide, by decide +kernel⟩ ⟨Nat.le_of_ble_eq_true rfl, Nat.le_of_ble_eq_true rfl⟩) ⟨blindM, va_recv hK hPm rfl g_M, payM hPm hK (D_left (D_right hD)) hN⟩ rfl rfl hl.1 rfl (lv_room (Nat.le_of_ble_eq_true rfl)) d_law_341 ⟨hcB, hsB⟩) hS (fun q _ h => hF1 q h) hF1 (fun r341 σ341 t H locs ht hvm hpost hB hz1 hk1 hS => ?_)
      obtain ⟨e1, e2⟩ := hpost
      subst e1
      subst e2
      obtain ⟨hP1, hK1, hD1⟩ := hB
      rw [ht] at hP1
      have hP := fr (ap_mx hD) hk1 hP
      have hPo := fr (ap_mo hD) hk1 hPo
      have hPm := hP1
      have hD := D_3 hD (σ' := y329) (μ' := σ341) (f' := z329)
      refine lv_istore hx hb d_law_344 hl (by decide) (lv' := [(6, .int r341), (5, .int r329), (0, .ref b), (1, .ref (ad 0 0)), (2, .ref (bd 0 0)), (3, .ref qo), (4, .int i)]) rfl (fun ls hl => ?_)
      refine lv_aload_n hx hb d_law_346 rfl (lv_at hl 4 rfl) ?_
      obtain ⟨x347, y347, hq347, hM⟩ := bI_some hM
      refine va_calli (va_runV (As := []) (rest := []) ⟨hx, hb, hml, hown, hts⟩ (c_M_thrown l dC dI bd cs _ N σ341 hq347) (cwV 0 hts (goodVW k_719 k_720 k_721 k_8 k_722) rfl rfl rfl ⟨rfl, by decide, by decide, by decide +kernel⟩ ⟨Nat.le_of_ble_eq_true rfl, Nat.le_of_ble_eq_true rfl⟩) ⟨blindM, va_recv hK hPm rfl g_M, payM hPm hK (D_left (D_right hD)) hN⟩ rfl rfl hl.1 rfl (lv_room (Nat.le_of_ble_eq_true rfl)) d_law_347 ⟨hcB, hsB⟩) hS (fun q h0 h => absurd h0 (Nat.not_lt.mpr h)) (fun q h => hA q (Nat.le_trans hS.1 h)) (fun r347 u t H locs ht hvm hpost hB hz1 hk1 hS => ?_)
      obtain ⟨e1, e2⟩ := hpost
      subst e1
      subst e2
      have hP := keepP hP hk1
      have hPm := keepP hPm hk1
      have hPo := keepP hPo hk1
      refine lv_iload hx hb d_law_350 (lv_at hl 1 rfl) ?_
      refine lv_icmp_eq (tgt := 357) hx hb d_law_352 (by decide) (fun h352 => ?_) (fun h352 => ?_)
      · rw [if_pos h352] at hM
        refine lv_iload hx hb d_law_357 (lv_at hl 1 rfl) ?_
        refine lv_if_ne (tgt := 374) hx hb d_law_359 (by decide) (fun h359 => ?_) (fun h359 => ?_)
        · rw [if_neg h359] at hM
          refine lv_goto (tgt := 820) hx hb d_law_374 (by decide) ?_
          exact KF _ _ _ _ ⟨y329, σ341, z329, i, rfl, hM, lv_sub hl [2, 3, 4, 5, 6] rfl, hP, hPm, hPo, hD, hS⟩
        · rw [if_pos h359] at hM
          refine lv_aload_n hx hb d_law_362 rfl (lv_at hl 5 rfl) ?_
          refine lv_iconst (v := 0) hx hb d_law_363 (by decide) ?_
          refine va_lald hx hb hKl hPo 0 0 rfl rfl (inb_in (by decide)) d_law_364 ?_
          refine lv_iload hx hb d_law_365 (lv_at hl 0 rfl) ?_
          refine lv_i2l hx hb d_law_367 rfl ?_
          refine W.lcmp hx hb d_law_368 ?_
          refine lv_if_eq (tgt := 374) hx hb d_law_369 (by decide) (fun h369 => ?_) (fun h369 => ?_)
          · rw [if_pos h369] at hM
            refine lv_goto (tgt := 820) hx hb d_law_374 (by decide) ?_
            exact KF _ _ _ _ ⟨y329, σ341, z329, i, rfl, hM, lv_sub hl [2, 3, 4, 5, 6] rfl, hP, hPm, hPo, hD, hS⟩
          · rw [if_neg h369] at hM
            refine lv_iconst (v := 0) hx hb d_law_372 (by decide) ?_
            cases hM
      · rw [if_neg h352] at hM
        refine lv_iconst (v := 0) hx hb d_law_355 (by decide) ?_
        cases hM
    rw [if_neg hw_4] at hM
    by_cases hw_5 : (xs i.toNatClampNeg &&& 31) = 5
    · rw [if_pos hw_5, m_case_5] at hM
      refine lv_tableIn (tgt := 377) (off := 328) hx hb d_law_49 (by rw [hw_5]; decide) (by rw [hw_5]; decide) (by rw [hw_5]; decide) (by decide) ?_
      refine lv_aload_n hx hb d_law_377 rfl (lv_at hl 1 rfl) ?_
      refine lv_aload_n hx hb d_law_378 rfl (lv_at hl 0 rfl) ?_
      refine lv_iload hx hb d_law_379 (lv_at hl 4 rfl) ?_
      refine lv_iconst (v := 1) hx hb d_law_381 (by decide) ?_
      refine lv_iadd hx hb d_law_382 ?_
      have hg383 := gd_c hM
      have hM := gd_v hM
      refine va_sld hx hb hX hbl (Nat.not_le.mpr hbl) hS (inb_in hg383) d_law_383 ?_
      refine lv_aload_n hx hb d_law_384 rfl (lv_at hl 0 rfl) ?_
      refine lv_iload hx hb d_law_385 (lv_at hl 4 rfl) ?_
      refine lv_iconst (v := 2) hx hb d_law_387 (by decide) ?_
      refine lv_iadd hx hb d_law_388 ?_
      have hg389 := gd_c hM
      have hM := gd_v hM
      refine va_sld hx hb hX hbl (Nat.not_le.mpr hbl) hS (inb_in hg389) d_law_389 ?_
      refine lv_aload_n hx hb d_law_390 rfl (lv_at hl 3 rfl) ?_
      obtain ⟨x391, hq391, hM⟩ := bH_some hM
      obtain ⟨x391, y391, z391⟩ := x391
      have hDo := D_xo hD
      have hF1 := free_all hDo hS hA
      refine va_calli (va_runSW (n := 4) (As := [.ref (ad 0 0), .int (xs (i + 1).toNatClampNeg), .int (xs (i + 2).toNatClampNeg), .ref qo]) (rest := []) ⟨hx, hb, hml, hown, hts⟩ (c_L_fault l htr dC dI ad cs cL qo _ N σ f (xs (i + 1).toNatClampNeg) (xs (i + 2).toNatClampNeg) hq391) (goodX k_604) rfl rfl ⟨Nat.le_of_ble_eq_true rfl, Nat.le_of_ble_eq_true rfl⟩ (htb _ k_602) (htb _ k_603) (htb _ k_0) ⟨by decide, by decide, by decide +kernel⟩ ⟨blindL, payL (hP.app hPo) hK hKl hDo hN hZ (fun a ha => hS.2.1 a ha (Nat.not_le.mpr ha))⟩ rfl rfl hl.1 rfl (lv_room (Nat.le_of_ble_eq_true rfl)) d_law_391 ⟨hcA, hsA⟩) hS (fun q _ h => hF1 q h) hF1 (fun r391 u391 t H locs ht hvm hpost hB hz1 hk1 hS => ?_)
      obtain ⟨e1, e2⟩ := hpost
      subst e1
      subst e2
      rw [ht] at hB
      dsimp only at hB hM
      have hPm := fr (ap_om hD) hk1 hPm
      have hP := P_left hB
      have hPo := P_right hB
      have hD := D_3 hD (σ' := y391) (μ' := μ) (f' := z391)
      refine W.widen (k := 600000 - n33) (n := 7300000 - 6 * n33) (by omega) (by omega) ?_
      refine lv_istore hx hb d_law_394 hl (by decide) (lv' := [(5, .int r391), (0, .ref b), (1, .ref (ad 0 0)), (2, .ref (bd 0 0)), (3, .ref qo), (4, .int i)]) rfl (fun ls hl => ?_)
      refine lv_aload_n hx hb d_law_396 rfl (lv_at hl 3 rfl) ?_
      refine lv_aload_n hx hb d_law_397 rfl (lv_at hl 1 rfl) ?_
      refine lv_iload hx hb d_law_398 (lv_at hl 5 rfl) ?_
      refine lv_iconst (v := 1) hx hb d_law_400 (by decide) ?_
      refine lv_iadd hx hb d_law_401 ?_
      have hg402 := gd_c hM
      have hM := gd_v hM
      refine va_sld hx hb hX hbl (Nat.not_le.mpr hbl) hS (inb_in hg402) d_law_402 ?_
      refine lv_aload_n hx hb d_law_403 rfl (lv_at hl 1 rfl) ?_
      refine lv_iload hx hb d_law_404 (lv_at hl 5 rfl) ?_
      refine lv_iconst (v := 2) hx hb d_law_406 (by decide) ?_
      refine lv_iadd hx hb d_law_407 ?_
      have hg408 := gd_c hM
      have hM := gd_v hM
      refine va_sld hx hb hX hbl (Nat.not_le.mpr hbl) hS (inb_in hg408) d_law_408 ?_
      have hF1 := free_all (D_left (D_right hD)) hS hA
      obtain ⟨x409, y409, hq409, hM⟩ := bI_some hM
      refine va_calli (va_runV (As := [.int (xs (i + 1).toNatClampNeg), .int (xs (i + 2).toNatClampNeg)]) (rest := []) ⟨hx, hb, hml, hown, hts⟩ (c_M_fault l dC dI bd cs _ N μ (xs (i + 1).toNatClampNeg) (xs (i + 2).toNatClampNeg) hq409) (cwV 2 hts (goodVW k_823 k_824 k_825 k_8 k_826) rfl rfl rfl ⟨rfl, by decide, by decide, by decide +kernel⟩ ⟨Nat.le_of_ble_eq_true rfl, Nat.le_of_ble_eq_true rfl⟩) ⟨blindM, va_recv hK hPm rfl g_M, payM hPm hK (D_left (D_right hD)) hN⟩ rfl rfl hl.1 rfl (lv_room (Nat.le_of_ble_eq_true rfl)) d_law_409 ⟨hcB, hsB⟩) hS (fun q _ h => hF1 q h) hF1 (fun r409 σ409 t H locs ht hvm hpost hB hz1 hk1 hS => ?_)
      obtain ⟨e1, e2⟩ := hpost
      subst e1
      subst e2
      obtain ⟨hP1, hK1, hD1⟩ := hB
      rw [ht] at hP1
      have hP := fr (ap_mx hD) hk1 hP
      have hPo := fr (ap_mo hD) hk1 hPo
      have hPm := hP1
      have hD := D_3 hD (σ' := y391) (μ' := σ409) (f' := z391)
      refine lv_istore hx hb d_law_412 hl (by decide) (lv' := [(6, .int r409), (5, .int r391), (0, .ref b), (1, .ref (ad 0 0)), (2, .ref (bd 0 0)), (3, .ref qo), (4, .int i)]) rfl (fun ls hl => ?_)
      refine lv_aload_n hx hb d_law_414 rfl (lv_at hl 4 rfl) ?_
      obtain ⟨x415, y415, hq415, hM⟩ := bI_some hM
      refine va_calli (va_runV (As := []) (rest := []) ⟨hx, hb, hml, hown, hts⟩ (c_M_thrown l dC dI bd cs _ N σ409 hq415) (cwV 0 hts (goodVW k_719 k_720 k_721 k_8 k_722) rfl rfl rfl ⟨rfl, by decide, by decide, by decide +kernel⟩ ⟨Nat.le_of_ble_eq_true rfl, Nat.le_of_ble_eq_true rfl⟩) ⟨blindM, va_recv hK hPm rfl g_M, payM hPm hK (D_left (D_right hD)) hN⟩ rfl rfl hl.1 rfl (lv_room (Nat.le_of_ble_eq_true rfl)) d_law_415 ⟨hcB, hsB⟩) hS (fun q h0 h => absurd h0 (Nat.not_lt.mpr h)) (fun q h => hA q (Nat.le_trans hS.1 h)) (fun r415 u t H locs ht hvm hpost hB hz1 hk1 hS => ?_)
      obtain ⟨e1, e2⟩ := hpost
      subst e1
      subst e2
      have hP := keepP hP hk1
      have hPm := keepP hPm hk1
      have hPo := keepP hPo hk1
      refine lv_iload hx hb d_law_418 (lv_at hl 1 rfl) ?_
      refine lv_icmp_eq (tgt := 425) hx hb d_law_420 (by decide) (fun h420 => ?_) (fun h420 => ?_)
      · rw [if_pos h420] at hM
        refine lv_iload hx hb d_law_425 (lv_at hl 1 rfl) ?_
        refine lv_if_ne (tgt := 442) hx hb d_law_427 (by decide) (fun h427 => ?_) (fun h427 => ?_)
        · rw [if_neg h427] at hM
          refine lv_goto (tgt := 820) hx hb d_law_442 (by decide) ?_
          exact KF _ _ _ _ ⟨y391, σ409, z391, i, rfl, hM, lv_sub hl [2, 3, 4, 5, 6] rfl, hP, hPm, hPo, hD, hS⟩
        · rw [if_pos h427] at hM
          refine lv_aload_n hx hb d_law_430 rfl (lv_at hl 5 rfl) ?_
          refine lv_iconst (v := 0) hx hb d_law_431 (by decide) ?_
          refine va_lald hx hb hKl hPo 0 0 rfl rfl (inb_in (by decide)) d_law_432 ?_
          refine lv_iload hx hb d_law_433 (lv_at hl 0 rfl) ?_
          refine lv_i2l hx hb d_law_435 rfl ?_
          refine W.lcmp hx hb d_law_436 ?_
          refine lv_if_eq (tgt := 442) hx hb d_law_437 (by decide) (fun h437 => ?_) (fun h437 => ?_)
          · rw [if_pos h437] at hM
            refine lv_goto (tgt := 820) hx hb d_law_442 (by decide) ?_
            exact KF _ _ _ _ ⟨y391, σ409, z391, i, rfl, hM, lv_sub hl [2, 3, 4, 5, 6] rfl, hP, hPm, hPo, hD, hS⟩
          · rw [if_neg h437] at hM
            refine lv_iconst (v := 0) hx hb d_law_440 (by decide) ?_
            cases hM
      · rw [if_neg h420] at hM
        refine lv_iconst (v := 0) hx hb d_law_423 (by decide) ?_
        cases hM
    rw [if_neg hw_5] at hM
    by_cases hw_6 : (xs i.toNatClampNeg &&& 31) = 6
    · rw [if_pos hw_6, m_case_6] at hM
      refine lv_tableIn (tgt := 445) (off := 396) hx hb d_law_49 (by rw [hw_6]; decide) (by rw [hw_6]; decide) (by rw [hw_6]; decide) (by decide) ?_
      refine W.widen (k := 600000 - n33) (n := 7300000 - 6 * n33) (by omega) (by omega) ?_
      refine lv_aload_n hx hb d_law_445 rfl (lv_at hl 1 rfl) ?_
      refine lv_aload_n hx hb d_law_446 rfl (lv_at hl 0 rfl) ?_
      refine lv_iload hx hb d_law_447 (lv_at hl 4 rfl) ?_
      refine lv_iconst (v := 1) hx hb d_law_449 (by decide) ?_
      refine lv_iadd hx hb d_law_450 ?_
      have hg451 := gd_c hM
      have hM := gd_v hM
      refine va_sld hx hb hX hbl (Nat.not_le.mpr hbl) hS (inb_in hg451) d_law_451 ?_
      have hF1 := free_all (D_left hD) hS hA
      obtain ⟨x452, y452, hq452, hM⟩ := bI_some hM
      refine va_calli (va_runV (As := [.int (xs (i + 1).toNatClampNeg)]) (rest := []) ⟨hx, hb, hml, hown, hts⟩ (c_O_cutAfter l dC dI ad cs _ N σ (xs (i + 1).toNatClampNeg) hq452) (cwV 1 hts (goodVW k_209 k_210 k_211 k_1 k_212) rfl rfl rfl ⟨rfl, by decide, by decide, by decide +kernel⟩ ⟨Nat.le_of_ble_eq_true rfl, Nat.le_of_ble_eq_true rfl⟩) ⟨blindX, va_recv hK hP rfl g_O, payX hP hK (D_left hD) hN⟩ rfl rfl hl.1 rfl (lv_room (Nat.le_of_ble_eq_true rfl)) d_law_452 ⟨hcB, hsB⟩) hS (fun q _ h => hF1 q h) hF1 (fun r452 σ452 t H locs ht hvm hpost hB hz1 hk1 hS => ?_)
      obtain ⟨e1, e2⟩ := hpost
      subst e1
      subst e2
      obtain ⟨hP1, hK1, hD1⟩ := hB
      rw [ht] at hP1
      have hPm := fr (ap_xm hD) hk1 hPm
      have hPo := fr (ap_xo hD) hk1 hPo
      have hP := hP1
      have hD := D_3 hD (σ' := σ452) (μ' := μ) (f' := f)
      refine lv_aload_n hx hb d_law_455 rfl (lv_at hl 2 rfl) ?_
      refine lv_aload_n hx hb d_law_456 rfl (lv_at hl 0 rfl) ?_
      refine lv_iload hx hb d_law_457 (lv_at hl 4 rfl) ?_
      refine lv_iconst (v := 1) hx hb d_law_459 (by decide) ?_
      refine lv_iadd hx hb d_law_460 ?_
      have hg461 := gd_c hM
      have hM := gd_v hM
      refine va_sld hx hb hX hbl (Nat.not_le.mpr hbl) hS (inb_in hg461) d_law_461 ?_
      have hF1 := free_all (D_left (D_right hD)) hS hA
      obtain ⟨x462, y462, hq462, hM⟩ := bI_some hM
      refine va_calli (va_runV (As := [.int (xs (i + 1).toNatClampNeg)]) (rest := [.int r452]) ⟨hx, hb, hml, hown, hts⟩ (c_M_cutAfter l dC dI bd cs _ N μ (xs (i + 1).toNatClampNeg) hq462) (cwV 1 hts (goodVW k_830 k_831 k_832 k_8 k_833) rfl rfl rfl ⟨rfl, by decide, by decide, by decide +kernel⟩ ⟨Nat.le_of_ble_eq_true rfl, Nat.le_of_ble_eq_true rfl⟩) ⟨blindM, va_recv hK hPm rfl g_M, payM hPm hK (D_left (D_right hD)) hN⟩ rfl rfl hl.1 rfl (lv_room (Nat.le_of_ble_eq_true rfl)) d_law_462 ⟨hcB, hsB⟩) hS (fun q _ h => hF1 q h) hF1 (fun r462 σ462 t H locs ht hvm hpost hB hz1 hk1 hS => ?_)
      obtain ⟨e1, e2⟩ := hpost
      subst e1
      subst e2
      obtain ⟨hP1, hK1, hD1⟩ := hB
      rw [ht] at hP1
      have hP := fr (ap_mx hD) hk1 hP
      have hPo := fr (ap_mo hD) hk1 hPo
      have hPm := hP1
      have hD := D_3 hD (σ' := σ452) (μ' := σ462) (f' := f)
      refine lv_icmp_eq (tgt := 820) hx hb d_law_465 (by decide) (fun h465 => ?_) (fun h465 => ?_)
      · rw [if_pos h465] at hM
        exact KF _ _ _ _ ⟨σ452, σ462, f, i, rfl, hM, lv_sub hl [0, 1, 2, 3, 4] rfl, hP, hPm, hPo, hD, hS⟩
      · rw [if_neg h465] at hM
        refine lv_iconst (v := 0) hx hb d_law_468 (by decide) ?_
        cases hM
    rw [if_neg hw_6] at hM
    by_cases hw_7 : (xs i.toNatClampNeg &&& 31) = 7
    · rw [if_pos hw_7, m_case_7] at hM
      refine lv_tableIn (tgt := 470) (off := 421) hx hb d_law_49 (by rw [hw_7]; decide) (by rw [hw_7]; decide) (by rw [hw_7]; decide) (by decide) ?_
      refine W.widen (k := 600000 - n33) (n := 7300000 - 6 * n33) (by omega) (by omega) ?_
      refine lv_aload_n hx hb d_law_470 rfl (lv_at hl 1 rfl) ?_
      have hF1 := free_all (D_left hD) hS hA
      obtain ⟨x471, y471, hq471, hM⟩ := bI_some hM
      refine va_calli (va_runV (As := []) (rest := []) ⟨hx, hb, hml, hown, hts⟩ (c_O_resume l dC dI ad cs _ N σ hq471) (cwV 0 hts (goodVW k_221 k_222 k_223 k_1 k_224) rfl rfl rfl ⟨rfl, by decide, by decide, by decide +kernel⟩ ⟨Nat.le_of_ble_eq_true rfl, Nat.le_of_ble_eq_true rfl⟩) ⟨blindX, va_recv hK hP rfl g_O, payX hP hK (D_left hD) hN⟩ rfl rfl hl.1 rfl (lv_room (Nat.le_of_ble_eq_true rfl)) d_law_471 ⟨hcB, hsB⟩) hS (fun q _ h => hF1 q h) hF1 (fun r471 σ471 t H locs ht hvm hpost hB hz1 hk1 hS => ?_)
      obtain ⟨e1, e2⟩ := hpost
      subst e1
      subst e2
      obtain ⟨hP1, hK1, hD1⟩ := hB
      rw [ht] at hP1
      have hPm := fr (ap_xm hD) hk1 hPm
      have hPo := fr (ap_xo hD) hk1 hPo
      have hP := hP1
      have hD := D_3 hD (σ' := σ471) (μ' := μ) (f' := f)
      refine lv_aload_n hx hb d_law_474 rfl (lv_at hl 2 rfl) ?_
      have hF1 := free_all (D_left (D_right hD)) hS hA
      obtain ⟨x475, y475, hq475, hM⟩ := bI_some hM
      refine va_calli (va_runV (As := []) (rest := [.int r471]) ⟨hx, hb, hml, hown, hts⟩ (c_M_resume l dC dI bd cs _ N μ hq475) (cwV 0 hts (goodVW k_834 k_835 k_836 k_8 k_837) rfl rfl rfl ⟨rfl, by decide, by decide, by decide +kernel⟩ ⟨Nat.le_of_ble_eq_true rfl, Nat.le_of_ble_eq_true rfl⟩) ⟨blindM, va_recv hK hPm rfl g_M, payM hPm hK (D_left (D_right hD)) hN⟩ rfl rfl hl.1 rfl (lv_room (Nat.le_of_ble_eq_true rfl)) d_law_475 ⟨hcB, hsB⟩) hS (fun q _ h => hF1 q h) hF1 (fun r475 σ475 t H locs ht hvm hpost hB hz1 hk1 hS => ?_)
      obtain ⟨e1, e2⟩ := hpost
      subst e1
      subst e2
      obtain ⟨hP1, hK1, hD1⟩ := hB
      rw [ht] at hP1
      have hP := fr (ap_mx hD) hk1 hP
      have hPo := fr (ap_mo hD) hk1 hPo
      have hPm := hP1
      have hD := D_3 hD (σ' := σ471) (μ' := σ475) (f' := f)
      refine lv_icmp_eq (tgt := 820) hx hb d_law_478 (by decide) (fun h478 => ?_) (fun h478 => ?_)
      · rw [if_pos h478] at hM
        exact KF _ _ _ _ ⟨σ471, σ475, f, i, rfl, hM, lv_sub hl [0, 1, 2, 3, 4] rfl, hP, hPm, hPo, hD, hS⟩
      · rw [if_neg h478] at hM
        refine lv_iconst (v := 0) hx hb d_law_481 (by decide) ?_
        cases hM
    rw [if_neg hw_7] at hM
    by_cases hw_8 : (xs i.toNatClampNeg &&& 31) = 8
    · rw [if_pos hw_8, m_case_8] at hM
      refine lv_tableIn (tgt := 483) (off := 434) hx hb d_law_49 (by rw [hw_8]; decide) (by rw [hw_8]; decide) (by rw [hw_8]; decide) (by decide) ?_
      refine W.widen (k := 600000 - n33) (n := 7300000 - 6 * n33) (by omega) (by omega) ?_
      refine lv_aload_n hx hb d_law_483 rfl (lv_at hl 1 rfl) ?_
      obtain ⟨x484, y484, hq484, hM⟩ := bI_some hM
      refine va_calli (va_runV (As := []) (rest := []) ⟨hx, hb, hml, hown, hts⟩ (c_O_phase l dC dI ad cs _ N σ hq484) (cwV 0 hts (goodVW k_229 k_230 k_231 k_1 k_232) rfl rfl rfl ⟨rfl, by decide, by decide, by decide +kernel⟩ ⟨Nat.le_of_ble_eq_true rfl, Nat.le_of_ble_eq_true rfl⟩) ⟨blindX, va_recv hK hP rfl g_O, payX hP hK (D_left hD) hN⟩ rfl rfl hl.1 rfl (lv_room (Nat.le_of_ble_eq_true rfl)) d_law_484 ⟨hcB, hsB⟩) hS (fun q h0 h => absurd h0 (Nat.not_lt.mpr h)) (fun q h => hA q (Nat.le_trans hS.1 h)) (fun r484 u t H locs ht hvm hpost hB hz1 hk1 hS => ?_)
      obtain ⟨e1, e2⟩ := hpost
      subst e1
      subst e2
      have hP := keepP hP hk1
      have hPm := keepP hPm hk1
      have hPo := keepP hPo hk1
      refine lv_aload_n hx hb d_law_487 rfl (lv_at hl 2 rfl) ?_
      have hF1 := free_all (D_left (D_right hD)) hS hA
      obtain ⟨x488, y488, hq488, hM⟩ := bI_some hM
      refine va_calli (va_runV (As := []) (rest := [.int r484]) ⟨hx, hb, hml, hown, hts⟩ (c_M_phase l dC dI bd cs _ N μ hq488) (cwV 0 hts (goodVW k_838 k_839 k_840 k_8 k_841) rfl rfl rfl ⟨rfl, by decide, by decide, by decide +kernel⟩ ⟨Nat.le_of_ble_eq_true rfl, Nat.le_of_ble_eq_true rfl⟩) ⟨blindM, va_recv hK hPm rfl g_M, payM hPm hK (D_left (D_right hD)) hN⟩ rfl rfl hl.1 rfl (lv_room (Nat.le_of_ble_eq_true rfl)) d_law_488 ⟨hcB, hsB⟩) hS (fun q _ h => hF1 q h) hF1 (fun r488 σ488 t H locs ht hvm hpost hB hz1 hk1 hS => ?_)
      obtain ⟨e1, e2⟩ := hpost
      subst e1
      subst e2
      obtain ⟨hP1, hK1, hD1⟩ := hB
      rw [ht] at hP1
      have hP := fr (ap_mx hD) hk1 hP
      have hPo := fr (ap_mo hD) hk1 hPo
      have hPm := hP1
      have hD := D_3 hD (σ' := σ) (μ' := σ488) (f' := f)
      refine lv_icmp_eq (tgt := 820) hx hb d_law_491 (by decide) (fun h491 => ?_) (fun h491 => ?_)
      · rw [if_pos h491] at hM
        exact KF _ _ _ _ ⟨σ, σ488, f, i, rfl, hM, lv_sub hl [0, 1, 2, 3, 4] rfl, hP, hPm, hPo, hD, hS⟩
      · rw [if_neg h491] at hM
        refine lv_iconst (v := 0) hx hb d_law_494 (by decide) ?_
        cases hM
    rw [if_neg hw_8] at hM
    by_cases hw_9 : (xs i.toNatClampNeg &&& 31) = 9
    · rw [if_pos hw_9, m_case_9] at hM
      refine lv_tableIn (tgt := 496) (off := 447) hx hb d_law_49 (by rw [hw_9]; decide) (by rw [hw_9]; decide) (by rw [hw_9]; decide) (by decide) ?_
      refine W.widen (k := 600000 - n33) (n := 7300000 - 6 * n33) (by omega) (by omega) ?_
      refine lv_aload_n hx hb d_law_496 rfl (lv_at hl 1 rfl) ?_
      obtain ⟨x497, y497, hq497, hM⟩ := bI_some hM
      refine va_calli (va_runV (As := []) (rest := []) ⟨hx, hb, hml, hown, hts⟩ (c_O_level l dC dI ad cs _ N σ hq497) (cwV 0 hts (goodVW k_233 k_234 k_235 k_1 k_236) rfl rfl rfl ⟨rfl, by decide, by decide, by decide +kernel⟩ ⟨Nat.le_of_ble_eq_true rfl, Nat.le_of_ble_eq_true rfl⟩) ⟨blindX, va_recv hK hP rfl g_O, payX hP hK (D_left hD) hN⟩ rfl rfl hl.1 rfl (lv_room (Nat.le_of_ble_eq_true rfl)) d_law_497 ⟨hcB, hsB⟩) hS (fun q h0 h => absurd h0 (Nat.not_lt.mpr h)) (fun q h => hA q (Nat.le_trans hS.1 h)) (fun r497 u t H locs ht hvm hpost hB hz1 hk1 hS => ?_)
      obtain ⟨e1, e2⟩ := hpost
      subst e1
      subst e2
      have hP := keepP hP hk1
      have hPm := keepP hPm hk1
      have hPo := keepP hPo hk1
      refine lv_aload_n hx hb d_law_500 rfl (lv_at hl 2 rfl) ?_
      have hF1 := free_all (D_left (D_right hD)) hS hA
      obtain ⟨x501, y501, hq501, hM⟩ := bI_some hM
      refine va_calli (va_runV (As := []) (rest := [.int r497]) ⟨hx, hb, hml, hown, hts⟩ (c_M_level l dC dI bd cs _ N μ hq501) (cwV 0 hts (goodVW k_842 k_843 k_844 k_8 k_845) rfl rfl rfl ⟨rfl, by decide, by decide, by decide +kernel⟩ ⟨Nat.le_of_ble_eq_true rfl, Nat.le_of_ble_eq_true rfl⟩) ⟨blindM, va_recv hK hPm rfl g_M, payM hPm hK (D_left (D_right hD)) hN⟩ rfl rfl hl.1 rfl (lv_room (Nat.le_of_ble_eq_true rfl)) d_law_501 ⟨hcB, hsB⟩) hS (fun q _ h => hF1 q h) hF1 (fun r501 σ501 t H locs ht hvm hpost hB hz1 hk1 hS => ?_)
      obtain ⟨e1, e2⟩ := hpost
      subst e1
      subst e2
      obtain ⟨hP1, hK1, hD1⟩ := hB
      rw [ht] at hP1
      have hP := fr (ap_mx hD) hk1 hP
      have hPo := fr (ap_mo hD) hk1 hPo
      have hPm := hP1
      have hD := D_3 hD (σ' := σ) (μ' := σ501) (f' := f)
      refine lv_icmp_eq (tgt := 820) hx hb d_law_504 (by decide) (fun h504 => ?_) (fun h504 => ?_)
      · rw [if_pos h504] at hM
        exact KF _ _ _ _ ⟨σ, σ501, f, i, rfl, hM, lv_sub hl [0, 1, 2, 3, 4] rfl, hP, hPm, hPo, hD, hS⟩
      · rw [if_neg h504] at hM
        refine lv_iconst (v := 0) hx hb d_law_507 (by decide) ?_
        cases hM
    rw [if_neg hw_9] at hM
    by_cases hw_10 : (xs i.toNatClampNeg &&& 31) = 10
    · rw [if_pos hw_10, m_case_10] at hM
      refine lv_tableIn (tgt := 509) (off := 460) hx hb d_law_49 (by rw [hw_10]; decide) (by rw [hw_10]; decide) (by rw [hw_10]; decide) (by decide) ?_
      refine W.widen (k := 600000 - n33) (n := 7300000 - 6 * n33) (by omega) (by omega) ?_
      refine lv_aload_n hx hb d_law_509 rfl (lv_at hl 1 rfl) ?_
      refine lv_aload_n hx hb d_law_510 rfl (lv_at hl 0 rfl) ?_
      refine lv_iload hx hb d_law_511 (lv_at hl 4 rfl) ?_
      refine lv_iconst (v := 1) hx hb d_law_513 (by decide) ?_
      refine lv_iadd hx hb d_law_514 ?_
      have hg515 := gd_c hM
      have hM := gd_v hM
      refine va_sld hx hb hX hbl (Nat.not_le.mpr hbl) hS (inb_in hg515) d_law_515 ?_
      obtain ⟨x516, y516, hq516, hM⟩ := bI_some hM
      refine va_calli (va_runV (As := [.int (xs (i + 1).toNatClampNeg)]) (rest := []) ⟨hx, hb, hml, hown, hts⟩ (c_O_runs l dC dI ad cs _ N σ (xs (i + 1).toNatClampNeg) hq516) (cwV 1 hts (goodVW k_241 k_242 k_243 k_1 k_244) rfl rfl rfl ⟨rfl, by decide, by decide, by decide +kernel⟩ ⟨Nat.le_of_ble_eq_true rfl, Nat.le_of_ble_eq_true rfl⟩) ⟨blindX, va_recv hK hP rfl g_O, payX hP hK (D_left hD) hN⟩ rfl rfl hl.1 rfl (lv_room (Nat.le_of_ble_eq_true rfl)) d_law_516 ⟨hcB, hsB⟩) hS (fun q h0 h => absurd h0 (Nat.not_lt.mpr h)) (fun q h => hA q (Nat.le_trans hS.1 h)) (fun r516 u t H locs ht hvm hpost hB hz1 hk1 hS => ?_)
      obtain ⟨e1, e2⟩ := hpost
      subst e1
      subst e2
      have hP := keepP hP hk1
      have hPm := keepP hPm hk1
      have hPo := keepP hPo hk1
      refine lv_aload_n hx hb d_law_519 rfl (lv_at hl 2 rfl) ?_
      refine lv_aload_n hx hb d_law_520 rfl (lv_at hl 0 rfl) ?_
      refine lv_iload hx hb d_law_521 (lv_at hl 4 rfl) ?_
      refine lv_iconst (v := 1) hx hb d_law_523 (by decide) ?_
      refine lv_iadd hx hb d_law_524 ?_
      have hg525 := gd_c hM
      have hM := gd_v hM
      refine va_sld hx hb hX hbl (Nat.not_le.mpr hbl) hS (inb_in hg525) d_law_525 ?_
      have hF1 := free_all (D_left (D_right hD)) hS hA
      obtain ⟨x526, y526, hq526, hM⟩ := bI_some hM
      refine va_calli (va_runV (As := [.int (xs (i + 1).toNatClampNeg)]) (rest := [.int r516]) ⟨hx, hb, hml, hown, hts⟩ (c_M_runs l dC dI bd cs _ N μ (xs (i + 1).toNatClampNeg) hq526) (cwV 1 hts (goodVW k_846 k_847 k_848 k_8 k_849) rfl rfl rfl ⟨rfl, by decide, by decide, by decide +kernel⟩ ⟨Nat.le_of_ble_eq_true rfl, Nat.le_of_ble_eq_true rfl⟩) ⟨blindM, va_recv hK hPm rfl g_M, payM hPm hK (D_left (D_right hD)) hN⟩ rfl rfl hl.1 rfl (lv_room (Nat.le_of_ble_eq_true rfl)) d_law_526 ⟨hcB, hsB⟩) hS (fun q _ h => hF1 q h) hF1 (fun r526 σ526 t H locs ht hvm hpost hB hz1 hk1 hS => ?_)
      obtain ⟨e1, e2⟩ := hpost
      subst e1
      subst e2
      obtain ⟨hP1, hK1, hD1⟩ := hB
      rw [ht] at hP1
      have hP := fr (ap_mx hD) hk1 hP
      have hPo := fr (ap_mo hD) hk1 hPo
      have hPm := hP1
      have hD := D_3 hD (σ' := σ) (μ' := σ526) (f' := f)
      refine lv_icmp_eq (tgt := 820) hx hb d_law_529 (by decide) (fun h529 => ?_) (fun h529 => ?_)
      · rw [if_pos h529] at hM
        exact KF _ _ _ _ ⟨σ, σ526, f, i, rfl, hM, lv_sub hl [0, 1, 2, 3, 4] rfl, hP, hPm, hPo, hD, hS⟩
      · rw [if_neg h529] at hM
        refine lv_iconst (v := 0) hx hb d_law_532 (by decide) ?_
        cases hM
    rw [if_neg hw_10] at hM
    by_cases hw_11 : (xs i.toNatClampNeg &&& 31) = 11
    · rw [if_pos hw_11, m_case_11] at hM
      refine lv_tableIn (tgt := 534) (off := 485) hx hb d_law_49 (by rw [hw_11]; decide) (by rw [hw_11]; decide) (by rw [hw_11]; decide) (by decide) ?_
      refine W.widen (k := 600000 - n33) (n := 7300000 - 6 * n33) (by omega) (by omega) ?_
      refine lv_aload_n hx hb d_law_534 rfl (lv_at hl 1 rfl) ?_
      refine lv_aload_n hx hb d_law_535 rfl (lv_at hl 0 rfl) ?_
      refine lv_iload hx hb d_law_536 (lv_at hl 4 rfl) ?_
      refine lv_iconst (v := 1) hx hb d_law_538 (by decide) ?_
      refine lv_iadd hx hb d_law_539 ?_
      have hg540 := gd_c hM
      have hM := gd_v hM
      refine va_sld hx hb hX hbl (Nat.not_le.mpr hbl) hS (inb_in hg540) d_law_540 ?_
      obtain ⟨x541, y541, hq541, hM⟩ := bI_some hM
      refine va_calli (va_runV (As := [.int (xs (i + 1).toNatClampNeg)]) (rest := []) ⟨hx, hb, hml, hown, hts⟩ (c_O_dummies l dC dI ad cs _ N σ (xs (i + 1).toNatClampNeg) hq541) (cwV 1 hts (goodVW k_252 k_253 k_254 k_1 k_255) rfl rfl rfl ⟨rfl, by decide, by decide, by decide +kernel⟩ ⟨Nat.le_of_ble_eq_true rfl, Nat.le_of_ble_eq_true rfl⟩) ⟨blindX, va_recv hK hP rfl g_O, payX hP hK (D_left hD) hN⟩ rfl rfl hl.1 rfl (lv_room (Nat.le_of_ble_eq_true rfl)) d_law_541 ⟨hcB, hsB⟩) hS (fun q h0 h => absurd h0 (Nat.not_lt.mpr h)) (fun q h => hA q (Nat.le_trans hS.1 h)) (fun r541 u t H locs ht hvm hpost hB hz1 hk1 hS => ?_)
      obtain ⟨e1, e2⟩ := hpost
      subst e1
      subst e2
      have hP := keepP hP hk1
      have hPm := keepP hPm hk1
      have hPo := keepP hPo hk1
      refine lv_aload_n hx hb d_law_544 rfl (lv_at hl 2 rfl) ?_
      refine lv_aload_n hx hb d_law_545 rfl (lv_at hl 0 rfl) ?_
      refine lv_iload hx hb d_law_546 (lv_at hl 4 rfl) ?_
      refine lv_iconst (v := 1) hx hb d_law_548 (by decide) ?_
      refine lv_iadd hx hb d_law_549 ?_
      have hg550 := gd_c hM
      have hM := gd_v hM
      refine va_sld hx hb hX hbl (Nat.not_le.mpr hbl) hS (inb_in hg550) d_law_550 ?_
      have hF1 := free_all (D_left (D_right hD)) hS hA
      obtain ⟨x551, y551, hq551, hM⟩ := bI_some hM
      refine va_calli (va_runV (As := [.int (xs (i + 1).toNatClampNeg)]) (rest := [.int r541]) ⟨hx, hb, hml, hown, hts⟩ (c_M_dummies l dC dI bd cs _ N μ (xs (i + 1).toNatClampNeg) hq551) (cwV 1 hts (goodVW k_850 k_851 k_852 k_8 k_853) rfl rfl rfl ⟨rfl, by decide, by decide, by decide +kernel⟩ ⟨Nat.le_of_ble_eq_true rfl, Nat.le_of_ble_eq_true rfl⟩) ⟨blindM, va_recv hK hPm rfl g_M, payM hPm hK (D_left (D_right hD)) hN⟩ rfl rfl hl.1 rfl (lv_room (Nat.le_of_ble_eq_true rfl)) d_law_551 ⟨hcB, hsB⟩) hS (fun q _ h => hF1 q h) hF1 (fun r551 σ551 t H locs ht hvm hpost hB hz1 hk1 hS => ?_)
      obtain ⟨e1, e2⟩ := hpost
      subst e1
      subst e2
      obtain ⟨hP1, hK1, hD1⟩ := hB
      rw [ht] at hP1
      have hP := fr (ap_mx hD) hk1 hP
      have hPo := fr (ap_mo hD) hk1 hPo
      have hPm := hP1
      have hD := D_3 hD (σ' := σ) (μ' := σ551) (f' := f)
      refine lv_icmp_eq (tgt := 820) hx hb d_law_554 (by decide) (fun h554 => ?_) (fun h554 => ?_)
      · rw [if_pos h554] at hM
        exact KF _ _ _ _ ⟨σ, σ551, f, i, rfl, hM, lv_sub hl [0, 1, 2, 3, 4] rfl, hP, hPm, hPo, hD, hS⟩
      · rw [if_neg h554] at hM
        refine lv_iconst (v := 0) hx hb d_law_557 (by decide) ?_
        cases hM
    rw [if_neg hw_11] at hM
    by_cases hw_12 : (xs i.toNatClampNeg &&& 31) = 12
    · rw [if_pos hw_12, m_case_12] at hM
      refine lv_tableIn (tgt := 559) (off := 510) hx hb d_law_49 (by rw [hw_12]; decide) (by rw [hw_12]; decide) (by rw [hw_12]; decide) (by decide) ?_
      refine W.widen (k := 600000 - n33) (n := 7300000 - 6 * n33) (by omega) (by omega) ?_
      refine lv_aload_n hx hb d_law_559 rfl (lv_at hl 1 rfl) ?_
      refine lv_aload_n hx hb d_law_560 rfl (lv_at hl 0 rfl) ?_
      refine lv_iload hx hb d_law_561 (lv_at hl 4 rfl) ?_
      refine lv_iconst (v := 1) hx hb d_law_563 (by decide) ?_
      refine lv_iadd hx hb d_law_564 ?_
      have hg565 := gd_c hM
      have hM := gd_v hM
      refine va_sld hx hb hX hbl (Nat.not_le.mpr hbl) hS (inb_in hg565) d_law_565 ?_
      obtain ⟨x566, y566, hq566, hM⟩ := bI_some hM
      refine va_calli (va_runV (As := [.int (xs (i + 1).toNatClampNeg)]) (rest := []) ⟨hx, hb, hml, hown, hts⟩ (c_O_role l dC dI ad cs _ N σ (xs (i + 1).toNatClampNeg) hq566) (cwV 1 hts (goodVW k_260 k_261 k_262 k_1 k_263) rfl rfl rfl ⟨rfl, by decide, by decide, by decide +kernel⟩ ⟨Nat.le_of_ble_eq_true rfl, Nat.le_of_ble_eq_true rfl⟩) ⟨blindX, va_recv hK hP rfl g_O, payX hP hK (D_left hD) hN⟩ rfl rfl hl.1 rfl (lv_room (Nat.le_of_ble_eq_true rfl)) d_law_566 ⟨hcB, hsB⟩) hS (fun q h0 h => absurd h0 (Nat.not_lt.mpr h)) (fun q h => hA q (Nat.le_trans hS.1 h)) (fun r566 u t H locs ht hvm hpost hB hz1 hk1 hS => ?_)
      obtain ⟨e1, e2⟩ := hpost
      subst e1
      subst e2
      have hP := keepP hP hk1
      have hPm := keepP hPm hk1
      have hPo := keepP hPo hk1
      refine lv_aload_n hx hb d_law_569 rfl (lv_at hl 2 rfl) ?_
      refine lv_aload_n hx hb d_law_570 rfl (lv_at hl 0 rfl) ?_
      refine lv_iload hx hb d_law_571 (lv_at hl 4 rfl) ?_
      refine lv_iconst (v := 1) hx hb d_law_573 (by decide) ?_
      refine lv_iadd hx hb d_law_574 ?_
      have hg575 := gd_c hM
      have hM := gd_v hM
      refine va_sld hx hb hX hbl (Nat.not_le.mpr hbl) hS (inb_in hg575) d_law_575 ?_
      have hF1 := free_all (D_left (D_right hD)) hS hA
      obtain ⟨x576, y576, hq576, hM⟩ := bI_some hM
      refine va_calli (va_runV (As := [.int (xs (i + 1).toNatClampNeg)]) (rest := [.int r566]) ⟨hx, hb, hml, hown, hts⟩ (c_M_role l dC dI bd cs _ N μ (xs (i + 1).toNatClampNeg) hq576) (cwV 1 hts (goodVW k_854 k_855 k_856 k_8 k_857) rfl rfl rfl ⟨rfl, by decide, by decide, by decide +kernel⟩ ⟨Nat.le_of_ble_eq_true rfl, Nat.le_of_ble_eq_true rfl⟩) ⟨blindM, va_recv hK hPm rfl g_M, payM hPm hK (D_left (D_right hD)) hN⟩ rfl rfl hl.1 rfl (lv_room (Nat.le_of_ble_eq_true rfl)) d_law_576 ⟨hcB, hsB⟩) hS (fun q _ h => hF1 q h) hF1 (fun r576 σ576 t H locs ht hvm hpost hB hz1 hk1 hS => ?_)
      obtain ⟨e1, e2⟩ := hpost
      subst e1
      subst e2
      obtain ⟨hP1, hK1, hD1⟩ := hB
      rw [ht] at hP1
      have hP := fr (ap_mx hD) hk1 hP
      have hPo := fr (ap_mo hD) hk1 hPo
      have hPm := hP1
      have hD := D_3 hD (σ' := σ) (μ' := σ576) (f' := f)
      refine lv_icmp_eq (tgt := 820) hx hb d_law_579 (by decide) (fun h579 => ?_) (fun h579 => ?_)
      · rw [if_pos h579] at hM
        exact KF _ _ _ _ ⟨σ, σ576, f, i, rfl, hM, lv_sub hl [0, 1, 2, 3, 4] rfl, hP, hPm, hPo, hD, hS⟩
      · rw [if_neg h579] at hM
        refine lv_iconst (v := 0) hx hb d_law_582 (by decide) ?_
        cases hM
    rw [if_neg hw_12] at hM
    by_cases hw_13 : (xs i.toNatClampNeg &&& 31) = 13
    · rw [if_pos hw_13, m_case_13] at hM
      refine lv_tableIn (tgt := 584) (off := 535) hx hb d_law_49 (by rw [hw_13]; decide) (by rw [hw_13]; decide) (by rw [hw_13]; decide) (by decide) ?_
      refine W.widen (k := 600000 - n33) (n := 7300000 - 6 * n33) (by omega) (by omega) ?_
      refine lv_aload_n hx hb d_law_584 rfl (lv_at hl 1 rfl) ?_
      refine lv_aload_n hx hb d_law_585 rfl (lv_at hl 0 rfl) ?_
      refine lv_iload hx hb d_law_586 (lv_at hl 4 rfl) ?_
      refine lv_iconst (v := 1) hx hb d_law_588 (by decide) ?_
      refine lv_iadd hx hb d_law_589 ?_
      have hg590 := gd_c hM
      have hM := gd_v hM
      refine va_sld hx hb hX hbl (Nat.not_le.mpr hbl) hS (inb_in hg590) d_law_590 ?_
      refine lv_aload_n hx hb d_law_591 rfl (lv_at hl 0 rfl) ?_
      refine lv_iload hx hb d_law_592 (lv_at hl 4 rfl) ?_
      refine lv_iconst (v := 2) hx hb d_law_594 (by decide) ?_
      refine lv_iadd hx hb d_law_595 ?_
      have hg596 := gd_c hM
      have hM := gd_v hM
      refine va_sld hx hb hX hbl (Nat.not_le.mpr hbl) hS (inb_in hg596) d_law_596 ?_
      obtain ⟨x597, y597, hq597, hM⟩ := bI_some hM
      refine va_calli (va_runV (As := [.int (xs (i + 1).toNatClampNeg), .int (xs (i + 2).toNatClampNeg)]) (rest := []) ⟨hx, hb, hml, hown, hts⟩ (c_O_length l dC dI ad cs _ N σ (xs (i + 1).toNatClampNeg) (xs (i + 2).toNatClampNeg) hq597) (cwV 2 hts (goodVW k_264 k_265 k_266 k_1 k_267) rfl rfl rfl ⟨rfl, by decide, by decide, by decide +kernel⟩ ⟨Nat.le_of_ble_eq_true rfl, Nat.le_of_ble_eq_true rfl⟩) ⟨blindX, va_recv hK hP rfl g_O, payX hP hK (D_left hD) hN⟩ rfl rfl hl.1 rfl (lv_room (Nat.le_of_ble_eq_true rfl)) d_law_597 ⟨hcB, hsB⟩) hS (fun q h0 h => absurd h0 (Nat.not_lt.mpr h)) (fun q h => hA q (Nat.le_trans hS.1 h)) (fun r597 u t H locs ht hvm hpost hB hz1 hk1 hS => ?_)
      obtain ⟨e1, e2⟩ := hpost
      subst e1
      subst e2
      have hP := keepP hP hk1
      have hPm := keepP hPm hk1
      have hPo := keepP hPo hk1
      refine lv_aload_n hx hb d_law_600 rfl (lv_at hl 2 rfl) ?_
      refine lv_aload_n hx hb d_law_601 rfl (lv_at hl 0 rfl) ?_
      refine lv_iload hx hb d_law_602 (lv_at hl 4 rfl) ?_
      refine lv_iconst (v := 1) hx hb d_law_604 (by decide) ?_
      refine lv_iadd hx hb d_law_605 ?_
      have hg606 := gd_c hM
      have hM := gd_v hM
      refine va_sld hx hb hX hbl (Nat.not_le.mpr hbl) hS (inb_in hg606) d_law_606 ?_
      refine lv_aload_n hx hb d_law_607 rfl (lv_at hl 0 rfl) ?_
      refine lv_iload hx hb d_law_608 (lv_at hl 4 rfl) ?_
      refine lv_iconst (v := 2) hx hb d_law_610 (by decide) ?_
      refine lv_iadd hx hb d_law_611 ?_
      have hg612 := gd_c hM
      have hM := gd_v hM
      refine va_sld hx hb hX hbl (Nat.not_le.mpr hbl) hS (inb_in hg612) d_law_612 ?_
      have hF1 := free_all (D_left (D_right hD)) hS hA
      obtain ⟨x613, y613, hq613, hM⟩ := bI_some hM
      refine va_calli (va_runV (As := [.int (xs (i + 1).toNatClampNeg), .int (xs (i + 2).toNatClampNeg)]) (rest := [.int r597]) ⟨hx, hb, hml, hown, hts⟩ (c_M_length l dC dI bd cs _ N μ (xs (i + 1).toNatClampNeg) (xs (i + 2).toNatClampNeg) hq613) (cwV 2 hts (goodVW k_858 k_859 k_860 k_8 k_861) rfl rfl rfl ⟨rfl, by decide, by decide, by decide +kernel⟩ ⟨Nat.le_of_ble_eq_true rfl, Nat.le_of_ble_eq_true rfl⟩) ⟨blindM, va_recv hK hPm rfl g_M, payM hPm hK (D_left (D_right hD)) hN⟩ rfl rfl hl.1 rfl (lv_room (Nat.le_of_ble_eq_true rfl)) d_law_613 ⟨hcB, hsB⟩) hS (fun q _ h => hF1 q h) hF1 (fun r613 σ613 t H locs ht hvm hpost hB hz1 hk1 hS => ?_)
      obtain ⟨e1, e2⟩ := hpost
      subst e1
      subst e2
      obtain ⟨hP1, hK1, hD1⟩ := hB
      rw [ht] at hP1
      have hP := fr (ap_mx hD) hk1 hP
      have hPo := fr (ap_mo hD) hk1 hPo
      have hPm := hP1
      have hD := D_3 hD (σ' := σ) (μ' := σ613) (f' := f)
      refine lv_icmp_eq (tgt := 820) hx hb d_law_616 (by decide) (fun h616 => ?_) (fun h616 => ?_)
      · rw [if_pos h616] at hM
        exact KF _ _ _ _ ⟨σ, σ613, f, i, rfl, hM, lv_sub hl [0, 1, 2, 3, 4] rfl, hP, hPm, hPo, hD, hS⟩
      · rw [if_neg h616] at hM
        refine lv_iconst (v := 0) hx hb d_law_619 (by decide) ?_
        cases hM
    rw [if_neg hw_13] at hM
    by_cases hw_14 : (xs i.toNatClampNeg &&& 31) = 14
    · rw [if_pos hw_14, m_case_14] at hM
      refine lv_tableIn (tgt := 621) (off := 572) hx hb d_law_49 (by rw [hw_14]; decide) (by rw [hw_14]; decide) (by rw [hw_14]; decide) (by decide) ?_
      refine W.widen (k := 600000 - n33) (n := 7300000 - 6 * n33) (by omega) (by omega) ?_
      refine lv_aload_n hx hb d_law_621 rfl (lv_at hl 1 rfl) ?_
      refine lv_aload_n hx hb d_law_622 rfl (lv_at hl 0 rfl) ?_
      refine lv_iload hx hb d_law_623 (lv_at hl 4 rfl) ?_
      refine lv_iconst (v := 1) hx hb d_law_625 (by decide) ?_
      refine lv_iadd hx hb d_law_626 ?_
      have hg627 := gd_c hM
      have hM := gd_v hM
      refine va_sld hx hb hX hbl (Nat.not_le.mpr hbl) hS (inb_in hg627) d_law_627 ?_
      refine lv_aload_n hx hb d_law_628 rfl (lv_at hl 0 rfl) ?_
      refine lv_iload hx hb d_law_629 (lv_at hl 4 rfl) ?_
      refine lv_iconst (v := 2) hx hb d_law_631 (by decide) ?_
      refine lv_iadd hx hb d_law_632 ?_
      have hg633 := gd_c hM
      have hM := gd_v hM
      refine va_sld hx hb hX hbl (Nat.not_le.mpr hbl) hS (inb_in hg633) d_law_633 ?_
      refine lv_aload_n hx hb d_law_634 rfl (lv_at hl 0 rfl) ?_
      refine lv_iload hx hb d_law_635 (lv_at hl 4 rfl) ?_
      refine lv_iconst (v := 3) hx hb d_law_637 (by decide) ?_
      refine lv_iadd hx hb d_law_638 ?_
      have hg639 := gd_c hM
      have hM := gd_v hM
      refine va_sld hx hb hX hbl (Nat.not_le.mpr hbl) hS (inb_in hg639) d_law_639 ?_
      obtain ⟨x640, y640, hq640, hM⟩ := bI_some hM
      refine va_calli (va_runV (As := [.int (xs (i + 1).toNatClampNeg), .int (xs (i + 2).toNatClampNeg), .int (xs (i + 3).toNatClampNeg)]) (rest := []) ⟨hx, hb, hml, hown, hts⟩ (c_O_at l dC dI ad cs _ N σ (xs (i + 1).toNatClampNeg) (xs (i + 2).toNatClampNeg) (xs (i + 3).toNatClampNeg) hq640) (cwV 3 hts (goodVW k_272 k_273 k_274 k_1 k_275) rfl rfl rfl ⟨rfl, by decide, by decide, by decide +kernel⟩ ⟨Nat.le_of_ble_eq_true rfl, Nat.le_of_ble_eq_true rfl⟩) ⟨blindX, va_recv hK hP rfl g_O, payX hP hK (D_left hD) hN⟩ rfl rfl hl.1 rfl (lv_room (Nat.le_of_ble_eq_true rfl)) d_law_640 ⟨hcB, hsB⟩) hS (fun q h0 h => absurd h0 (Nat.not_lt.mpr h)) (fun q h => hA q (Nat.le_trans hS.1 h)) (fun r640 u t H locs ht hvm hpost hB hz1 hk1 hS => ?_)
      obtain ⟨e1, e2⟩ := hpost
      subst e1
      subst e2
      have hP := keepP hP hk1
      have hPm := keepP hPm hk1
      have hPo := keepP hPo hk1
      refine lv_aload_n hx hb d_law_643 rfl (lv_at hl 2 rfl) ?_
      refine lv_aload_n hx hb d_law_644 rfl (lv_at hl 0 rfl) ?_
      refine lv_iload hx hb d_law_645 (lv_at hl 4 rfl) ?_
      refine lv_iconst (v := 1) hx hb d_law_647 (by decide) ?_
      refine lv_iadd hx hb d_law_648 ?_
      have hg649 := gd_c hM
      have hM := gd_v hM
      refine va_sld hx hb hX hbl (Nat.not_le.mpr hbl) hS (inb_in hg649) d_law_649 ?_
      refine lv_aload_n hx hb d_law_650 rfl (lv_at hl 0 rfl) ?_
      refine lv_iload hx hb d_law_651 (lv_at hl 4 rfl) ?_
      refine lv_iconst (v := 2) hx hb d_law_653 (by decide) ?_
      refine lv_iadd hx hb d_law_654 ?_
      have hg655 := gd_c hM
      have hM := gd_v hM
      refine va_sld hx hb hX hbl (Nat.not_le.mpr hbl) hS (inb_in hg655) d_law_655 ?_
      refine lv_aload_n hx hb d_law_656 rfl (lv_at hl 0 rfl) ?_
      refine lv_iload hx hb d_law_657 (lv_at hl 4 rfl) ?_
      refine lv_iconst (v := 3) hx hb d_law_659 (by decide) ?_
      refine lv_iadd hx hb d_law_660 ?_
      have hg661 := gd_c hM
      have hM := gd_v hM
      refine va_sld hx hb hX hbl (Nat.not_le.mpr hbl) hS (inb_in hg661) d_law_661 ?_
      have hF1 := free_all (D_left (D_right hD)) hS hA
      obtain ⟨x662, y662, hq662, hM⟩ := bI_some hM
      refine va_calli (va_runV (As := [.int (xs (i + 1).toNatClampNeg), .int (xs (i + 2).toNatClampNeg), .int (xs (i + 3).toNatClampNeg)]) (rest := [.int r640]) ⟨hx, hb, hml, hown, hts⟩ (c_M_at l dC dI bd cs _ N μ (xs (i + 1).toNatClampNeg) (xs (i + 2).toNatClampNeg) (xs (i + 3).toNatClampNeg) hq662) (cwV 3 hts (goodVW k_862 k_863 k_864 k_8 k_865) rfl rfl rfl ⟨rfl, by decide, by decide, by decide +kernel⟩ ⟨Nat.le_of_ble_eq_true rfl, Nat.le_of_ble_eq_true rfl⟩) ⟨blindM, va_recv hK hPm rfl g_M, payM hPm hK (D_left (D_right hD)) hN⟩ rfl rfl hl.1 rfl (lv_room (Nat.le_of_ble_eq_true rfl)) d_law_662 ⟨hcB, hsB⟩) hS (fun q _ h => hF1 q h) hF1 (fun r662 σ662 t H locs ht hvm hpost hB hz1 hk1 hS => ?_)
      obtain ⟨e1, e2⟩ := hpost
      subst e1
      subst e2
      obtain ⟨hP1, hK1, hD1⟩ := hB
      rw [ht] at hP1
      have hP := fr (ap_mx hD) hk1 hP
      have hPo := fr (ap_mo hD) hk1 hPo
      have hPm := hP1
      have hD := D_3 hD (σ' := σ) (μ' := σ662) (f' := f)
      refine lv_icmp_eq (tgt := 820) hx hb d_law_665 (by decide) (fun h665 => ?_) (fun h665 => ?_)
      · rw [if_pos h665] at hM
        exact KF _ _ _ _ ⟨σ, σ662, f, i, rfl, hM, lv_sub hl [0, 1, 2, 3, 4] rfl, hP, hPm, hPo, hD, hS⟩
      · rw [if_neg h665] at hM
        refine lv_iconst (v := 0) hx hb d_law_668 (by decide) ?_
        cases hM
    rw [if_neg hw_14] at hM
    by_cases hw_15 : (xs i.toNatClampNeg &&& 31) = 15
    · rw [if_pos hw_15, m_case_15] at hM
      refine lv_tableIn (tgt := 670) (off := 621) hx hb d_law_49 (by rw [hw_15]; decide) (by rw [hw_15]; decide) (by rw [hw_15]; decide) (by decide) ?_
      refine W.widen (k := 600000 - n33) (n := 7300000 - 6 * n33) (by omega) (by omega) ?_
      refine lv_aload_n hx hb d_law_670 rfl (lv_at hl 1 rfl) ?_
      refine lv_aload_n hx hb d_law_671 rfl (lv_at hl 0 rfl) ?_
      refine lv_iload hx hb d_law_672 (lv_at hl 4 rfl) ?_
      refine lv_iconst (v := 1) hx hb d_law_674 (by decide) ?_
      refine lv_iadd hx hb d_law_675 ?_
      have hg676 := gd_c hM
      have hM := gd_v hM
      refine va_sld hx hb hX hbl (Nat.not_le.mpr hbl) hS (inb_in hg676) d_law_676 ?_
      obtain ⟨x677, y677, hq677, hM⟩ := bI_some hM
      refine va_calli (va_runV (As := [.int (xs (i + 1).toNatClampNeg)]) (rest := []) ⟨hx, hb, hml, hown, hts⟩ (c_O_memory l dC dI ad cs _ N σ (xs (i + 1).toNatClampNeg) hq677) (cwV 1 hts (goodVW k_281 k_282 k_283 k_1 k_284) rfl rfl rfl ⟨rfl, by decide, by decide, by decide +kernel⟩ ⟨Nat.le_of_ble_eq_true rfl, Nat.le_of_ble_eq_true rfl⟩) ⟨blindX, va_recv hK hP rfl g_O, payX hP hK (D_left hD) hN⟩ rfl rfl hl.1 rfl (lv_room (Nat.le_of_ble_eq_true rfl)) d_law_677 ⟨hcB, hsB⟩) hS (fun q h0 h => absurd h0 (Nat.not_lt.mpr h)) (fun q h => hA q (Nat.le_trans hS.1 h)) (fun r677 u t H locs ht hvm hpost hB hz1 hk1 hS => ?_)
      obtain ⟨e1, e2⟩ := hpost
      subst e1
      subst e2
      have hP := keepP hP hk1
      have hPm := keepP hPm hk1
      have hPo := keepP hPo hk1
      refine lv_aload_n hx hb d_law_680 rfl (lv_at hl 2 rfl) ?_
      refine lv_aload_n hx hb d_law_681 rfl (lv_at hl 0 rfl) ?_
      refine lv_iload hx hb d_law_682 (lv_at hl 4 rfl) ?_
      refine lv_iconst (v := 1) hx hb d_law_684 (by decide) ?_
      refine lv_iadd hx hb d_law_685 ?_
      have hg686 := gd_c hM
      have hM := gd_v hM
      refine va_sld hx hb hX hbl (Nat.not_le.mpr hbl) hS (inb_in hg686) d_law_686 ?_
      have hF1 := free_all (D_left (D_right hD)) hS hA
      obtain ⟨x687, y687, hq687, hM⟩ := bI_some hM
      refine va_calli (va_runV (As := [.int (xs (i + 1).toNatClampNeg)]) (rest := [.int r677]) ⟨hx, hb, hml, hown, hts⟩ (c_M_memory l dC dI bd cs _ N μ (xs (i + 1).toNatClampNeg) hq687) (cwV 1 hts (goodVW k_866 k_867 k_868 k_8 k_869) rfl rfl rfl ⟨rfl, by decide, by decide, by decide +kernel⟩ ⟨Nat.le_of_ble_eq_true rfl, Nat.le_of_ble_eq_true rfl⟩) ⟨blindM, va_recv hK hPm rfl g_M, payM hPm hK (D_left (D_right hD)) hN⟩ rfl rfl hl.1 rfl (lv_room (Nat.le_of_ble_eq_true rfl)) d_law_687 ⟨hcB, hsB⟩) hS (fun q _ h => hF1 q h) hF1 (fun r687 σ687 t H locs ht hvm hpost hB hz1 hk1 hS => ?_)
      obtain ⟨e1, e2⟩ := hpost
      subst e1
      subst e2
      obtain ⟨hP1, hK1, hD1⟩ := hB
      rw [ht] at hP1
      have hP := fr (ap_mx hD) hk1 hP
      have hPo := fr (ap_mo hD) hk1 hPo
      have hPm := hP1
      have hD := D_3 hD (σ' := σ) (μ' := σ687) (f' := f)
      refine lv_icmp_eq (tgt := 820) hx hb d_law_690 (by decide) (fun h690 => ?_) (fun h690 => ?_)
      · rw [if_pos h690] at hM
        exact KF _ _ _ _ ⟨σ, σ687, f, i, rfl, hM, lv_sub hl [0, 1, 2, 3, 4] rfl, hP, hPm, hPo, hD, hS⟩
      · rw [if_neg h690] at hM
        refine lv_iconst (v := 0) hx hb d_law_693 (by decide) ?_
        cases hM
    rw [if_neg hw_15] at hM
    by_cases hw_16 : (xs i.toNatClampNeg &&& 31) = 16
    · rw [if_pos hw_16, m_case_16] at hM
      refine lv_tableIn (tgt := 695) (off := 646) hx hb d_law_49 (by rw [hw_16]; decide) (by rw [hw_16]; decide) (by rw [hw_16]; decide) (by decide) ?_
      refine W.widen (k := 600000 - n33) (n := 7300000 - 6 * n33) (by omega) (by omega) ?_
      refine lv_aload_n hx hb d_law_695 rfl (lv_at hl 1 rfl) ?_
      obtain ⟨x696, y696, hq696, hM⟩ := bI_some hM
      refine va_calli (va_runV (As := []) (rest := []) ⟨hx, hb, hml, hown, hts⟩ (c_O_written l dC dI ad cs _ N σ hq696) (cwV 0 hts (goodVW k_289 k_290 k_291 k_1 k_292) rfl rfl rfl ⟨rfl, by decide, by decide, by decide +kernel⟩ ⟨Nat.le_of_ble_eq_true rfl, Nat.le_of_ble_eq_true rfl⟩) ⟨blindX, va_recv hK hP rfl g_O, payX hP hK (D_left hD) hN⟩ rfl rfl hl.1 rfl (lv_room (Nat.le_of_ble_eq_true rfl)) d_law_696 ⟨hcB, hsB⟩) hS (fun q h0 h => absurd h0 (Nat.not_lt.mpr h)) (fun q h => hA q (Nat.le_trans hS.1 h)) (fun r696 u t H locs ht hvm hpost hB hz1 hk1 hS => ?_)
      obtain ⟨e1, e2⟩ := hpost
      subst e1
      subst e2
      have hP := keepP hP hk1
      have hPm := keepP hPm hk1
      have hPo := keepP hPo hk1
      refine lv_aload_n hx hb d_law_699 rfl (lv_at hl 2 rfl) ?_
      have hF1 := free_all (D_left (D_right hD)) hS hA
      obtain ⟨x700, y700, hq700, hM⟩ := bI_some hM
      refine va_calli (va_runV (As := []) (rest := [.int r696]) ⟨hx, hb, hml, hown, hts⟩ (c_M_written l dC dI bd cs _ N μ hq700) (cwV 0 hts (goodVW k_870 k_871 k_872 k_8 k_873) rfl rfl rfl ⟨rfl, by decide, by decide, by decide +kernel⟩ ⟨Nat.le_of_ble_eq_true rfl, Nat.le_of_ble_eq_true rfl⟩) ⟨blindM, va_recv hK hPm rfl g_M, payM hPm hK (D_left (D_right hD)) hN⟩ rfl rfl hl.1 rfl (lv_room (Nat.le_of_ble_eq_true rfl)) d_law_700 ⟨hcB, hsB⟩) hS (fun q _ h => hF1 q h) hF1 (fun r700 σ700 t H locs ht hvm hpost hB hz1 hk1 hS => ?_)
      obtain ⟨e1, e2⟩ := hpost
      subst e1
      subst e2
      obtain ⟨hP1, hK1, hD1⟩ := hB
      rw [ht] at hP1
      have hP := fr (ap_mx hD) hk1 hP
      have hPo := fr (ap_mo hD) hk1 hPo
      have hPm := hP1
      have hD := D_3 hD (σ' := σ) (μ' := σ700) (f' := f)
      refine lv_icmp_eq (tgt := 820) hx hb d_law_703 (by decide) (fun h703 => ?_) (fun h703 => ?_)
      · rw [if_pos h703] at hM
        exact KF _ _ _ _ ⟨σ, σ700, f, i, rfl, hM, lv_sub hl [0, 1, 2, 3, 4] rfl, hP, hPm, hPo, hD, hS⟩
      · rw [if_neg h703] at hM
        refine lv_iconst (v := 0) hx hb d_law_706 (by decide) ?_
        cases hM
    rw [if_neg hw_16] at hM
    by_cases hw_17 : (xs i.toNatClampNeg &&& 31) = 17
    · rw [if_pos hw_17, m_case_17] at hM
      refine lv_tableIn (tgt := 708) (off := 659) hx hb d_law_49 (by rw [hw_17]; decide) (by rw [hw_17]; decide) (by rw [hw_17]; decide) (by decide) ?_
      refine W.widen (k := 600000 - n33) (n := 7300000 - 6 * n33) (by omega) (by omega) ?_
      refine lv_aload_n hx hb d_law_708 rfl (lv_at hl 1 rfl) ?_
      obtain ⟨x709, y709, hq709, hM⟩ := bI_some hM
      refine va_calli (va_runV (As := []) (rest := []) ⟨hx, hb, hml, hown, hts⟩ (c_O_broken l dC dI ad cs _ N σ hq709) (cwV 0 hts (goodVW k_297 k_298 k_299 k_1 k_300) rfl rfl rfl ⟨rfl, by decide, by decide, by decide +kernel⟩ ⟨Nat.le_of_ble_eq_true rfl, Nat.le_of_ble_eq_true rfl⟩) ⟨blindX, va_recv hK hP rfl g_O, payX hP hK (D_left hD) hN⟩ rfl rfl hl.1 rfl (lv_room (Nat.le_of_ble_eq_true rfl)) d_law_709 ⟨hcB, hsB⟩) hS (fun q h0 h => absurd h0 (Nat.not_lt.mpr h)) (fun q h => hA q (Nat.le_trans hS.1 h)) (fun r709 u t H locs ht hvm hpost hB hz1 hk1 hS => ?_)
      obtain ⟨e1, e2⟩ := hpost
      subst e1
      subst e2
      have hP := keepP hP hk1
      have hPm := keepP hPm hk1
      have hPo := keepP hPo hk1
      refine lv_aload_n hx hb d_law_712 rfl (lv_at hl 2 rfl) ?_
      have hF1 := free_all (D_left (D_right hD)) hS hA
      obtain ⟨x713, y713, hq713, hM⟩ := bI_some hM
      refine va_calli (va_runV (As := []) (rest := [.int r709]) ⟨hx, hb, hml, hown, hts⟩ (c_M_broken l dC dI bd cs _ N μ hq713) (cwV 0 hts (goodVW k_874 k_875 k_876 k_8 k_877) rfl rfl rfl ⟨rfl, by decide, by decide, by decide +kernel⟩ ⟨Nat.le_of_ble_eq_true rfl, Nat.le_of_ble_eq_true rfl⟩) ⟨blindM, va_recv hK hPm rfl g_M, payM hPm hK (D_left (D_right hD)) hN⟩ rfl rfl hl.1 rfl (lv_room (Nat.le_of_ble_eq_true rfl)) d_law_713 ⟨hcB, hsB⟩) hS (fun q _ h => hF1 q h) hF1 (fun r713 σ713 t H locs ht hvm hpost hB hz1 hk1 hS => ?_)
      obtain ⟨e1, e2⟩ := hpost
      subst e1
      subst e2
      obtain ⟨hP1, hK1, hD1⟩ := hB
      rw [ht] at hP1
      have hP := fr (ap_mx hD) hk1 hP
      have hPo := fr (ap_mo hD) hk1 hPo
      have hPm := hP1
      have hD := D_3 hD (σ' := σ) (μ' := σ713) (f' := f)
      refine lv_icmp_eq (tgt := 820) hx hb d_law_716 (by decide) (fun h716 => ?_) (fun h716 => ?_)
      · rw [if_pos h716] at hM
        exact KF _ _ _ _ ⟨σ, σ713, f, i, rfl, hM, lv_sub hl [0, 1, 2, 3, 4] rfl, hP, hPm, hPo, hD, hS⟩
      · rw [if_neg h716] at hM
        refine lv_iconst (v := 0) hx hb d_law_719 (by decide) ?_
        cases hM
    rw [if_neg hw_17] at hM
    by_cases hw_18 : (xs i.toNatClampNeg &&& 31) = 18
    · rw [if_pos hw_18, m_case_18] at hM
      refine lv_tableIn (tgt := 721) (off := 672) hx hb d_law_49 (by rw [hw_18]; decide) (by rw [hw_18]; decide) (by rw [hw_18]; decide) (by decide) ?_
      refine W.widen (k := 600000 - n33) (n := 7300000 - 6 * n33) (by omega) (by omega) ?_
      refine lv_aload_n hx hb d_law_721 rfl (lv_at hl 1 rfl) ?_
      refine lv_aload_n hx hb d_law_722 rfl (lv_at hl 0 rfl) ?_
      refine lv_iload hx hb d_law_723 (lv_at hl 4 rfl) ?_
      refine lv_iconst (v := 1) hx hb d_law_725 (by decide) ?_
      refine lv_iadd hx hb d_law_726 ?_
      have hg727 := gd_c hM
      have hM := gd_v hM
      refine va_sld hx hb hX hbl (Nat.not_le.mpr hbl) hS (inb_in hg727) d_law_727 ?_
      obtain ⟨x728, y728, hq728, hM⟩ := bI_some hM
      refine va_calli (va_runV (As := [.int (xs (i + 1).toNatClampNeg)]) (rest := []) ⟨hx, hb, hml, hown, hts⟩ (c_O_sorted l dC dI ad cs _ N σ (xs (i + 1).toNatClampNeg) hq728) (cwV 1 hts (goodVW k_301 k_302 k_303 k_1 k_304) rfl rfl rfl ⟨rfl, by decide, by decide, by decide +kernel⟩ ⟨Nat.le_of_ble_eq_true rfl, Nat.le_of_ble_eq_true rfl⟩) ⟨blindX, va_recv hK hP rfl g_O, payX hP hK (D_left hD) hN⟩ rfl rfl hl.1 rfl (lv_room (Nat.le_of_ble_eq_true rfl)) d_law_728 ⟨hcB, hsB⟩) hS (fun q h0 h => absurd h0 (Nat.not_lt.mpr h)) (fun q h => hA q (Nat.le_trans hS.1 h)) (fun r728 u t H locs ht hvm hpost hB hz1 hk1 hS => ?_)
      obtain ⟨e1, e2⟩ := hpost
      subst e1
      subst e2
      have hP := keepP hP hk1
      have hPm := keepP hPm hk1
      have hPo := keepP hPo hk1
      refine lv_aload_n hx hb d_law_731 rfl (lv_at hl 2 rfl) ?_
      refine lv_aload_n hx hb d_law_732 rfl (lv_at hl 0 rfl) ?_
      refine lv_iload hx hb d_law_733 (lv_at hl 4 rfl) ?_
      refine lv_iconst (v := 1) hx hb d_law_735 (by decide) ?_
      refine lv_iadd hx hb d_law_736 ?_
      have hg737 := gd_c hM
      have hM := gd_v hM
      refine va_sld hx hb hX hbl (Nat.not_le.mpr hbl) hS (inb_in hg737) d_law_737 ?_
      have hF1 := free_all (D_left (D_right hD)) hS hA
      obtain ⟨x738, y738, hq738, hM⟩ := bI_some hM
      refine va_calli (va_runV (As := [.int (xs (i + 1).toNatClampNeg)]) (rest := [.int r728]) ⟨hx, hb, hml, hown, hts⟩ (c_M_sorted l dC dI bd cs _ N μ (xs (i + 1).toNatClampNeg) hq738) (cwV 1 hts (goodVW k_878 k_879 k_880 k_8 k_881) rfl rfl rfl ⟨rfl, by decide, by decide, by decide +kernel⟩ ⟨Nat.le_of_ble_eq_true rfl, Nat.le_of_ble_eq_true rfl⟩) ⟨blindM, va_recv hK hPm rfl g_M, payM hPm hK (D_left (D_right hD)) hN⟩ rfl rfl hl.1 rfl (lv_room (Nat.le_of_ble_eq_true rfl)) d_law_738 ⟨hcB, hsB⟩) hS (fun q _ h => hF1 q h) hF1 (fun r738 σ738 t H locs ht hvm hpost hB hz1 hk1 hS => ?_)
      obtain ⟨e1, e2⟩ := hpost
      subst e1
      subst e2
      obtain ⟨hP1, hK1, hD1⟩ := hB
      rw [ht] at hP1
      have hP := fr (ap_mx hD) hk1 hP
      have hPo := fr (ap_mo hD) hk1 hPo
      have hPm := hP1
      have hD := D_3 hD (σ' := σ) (μ' := σ738) (f' := f)
      refine lv_icmp_eq (tgt := 820) hx hb d_law_741 (by decide) (fun h741 => ?_) (fun h741 => ?_)
      · rw [if_pos h741] at hM
        exact KF _ _ _ _ ⟨σ, σ738, f, i, rfl, hM, lv_sub hl [0, 1, 2, 3, 4] rfl, hP, hPm, hPo, hD, hS⟩
      · rw [if_neg h741] at hM
        refine lv_iconst (v := 0) hx hb d_law_744 (by decide) ?_
        cases hM
    rw [if_neg hw_18] at hM
    by_cases hw_19 : (xs i.toNatClampNeg &&& 31) = 19
    · rw [if_pos hw_19, m_case_19] at hM
      refine lv_tableIn (tgt := 746) (off := 697) hx hb d_law_49 (by rw [hw_19]; decide) (by rw [hw_19]; decide) (by rw [hw_19]; decide) (by decide) ?_
      refine W.widen (k := 600000 - n33) (n := 7300000 - 6 * n33) (by omega) (by omega) ?_
      refine lv_aload_n hx hb d_law_746 rfl (lv_at hl 1 rfl) ?_
      refine lv_aload_n hx hb d_law_747 rfl (lv_at hl 0 rfl) ?_
      refine lv_iload hx hb d_law_748 (lv_at hl 4 rfl) ?_
      refine lv_iconst (v := 1) hx hb d_law_750 (by decide) ?_
      refine lv_iadd hx hb d_law_751 ?_
      have hg752 := gd_c hM
      have hM := gd_v hM
      refine va_sld hx hb hX hbl (Nat.not_le.mpr hbl) hS (inb_in hg752) d_law_752 ?_
      refine lv_aload_n hx hb d_law_753 rfl (lv_at hl 0 rfl) ?_
      refine lv_iload hx hb d_law_754 (lv_at hl 4 rfl) ?_
      refine lv_iconst (v := 2) hx hb d_law_756 (by decide) ?_
      refine lv_iadd hx hb d_law_757 ?_
      have hg758 := gd_c hM
      have hM := gd_v hM
      refine va_sld hx hb hX hbl (Nat.not_le.mpr hbl) hS (inb_in hg758) d_law_758 ?_
      obtain ⟨x759, y759, hq759, hM⟩ := bI_some hM
      refine va_calli (va_runV (As := [.int (xs (i + 1).toNatClampNeg), .int (xs (i + 2).toNatClampNeg)]) (rest := []) ⟨hx, hb, hml, hown, hts⟩ (c_O_compare l dC dI ad cs _ N σ (xs (i + 1).toNatClampNeg) (xs (i + 2).toNatClampNeg) hq759) (cwV 2 hts (goodVW k_309 k_310 k_311 k_1 k_312) rfl rfl rfl ⟨rfl, by decide, by decide, by decide +kernel⟩ ⟨Nat.le_of_ble_eq_true rfl, Nat.le_of_ble_eq_true rfl⟩) ⟨blindX, va_recv hK hP rfl g_O, payX hP hK (D_left hD) hN⟩ rfl rfl hl.1 rfl (lv_room (Nat.le_of_ble_eq_true rfl)) d_law_759 ⟨hcB, hsB⟩) hS (fun q h0 h => absurd h0 (Nat.not_lt.mpr h)) (fun q h => hA q (Nat.le_trans hS.1 h)) (fun r759 u t H locs ht hvm hpost hB hz1 hk1 hS => ?_)
      obtain ⟨e1, e2⟩ := hpost
      subst e1
      subst e2
      have hP := keepP hP hk1
      have hPm := keepP hPm hk1
      have hPo := keepP hPo hk1
      refine lv_aload_n hx hb d_law_762 rfl (lv_at hl 2 rfl) ?_
      refine lv_aload_n hx hb d_law_763 rfl (lv_at hl 0 rfl) ?_
      refine lv_iload hx hb d_law_764 (lv_at hl 4 rfl) ?_
      refine lv_iconst (v := 1) hx hb d_law_766 (by decide) ?_
      refine lv_iadd hx hb d_law_767 ?_
      have hg768 := gd_c hM
      have hM := gd_v hM
      refine va_sld hx hb hX hbl (Nat.not_le.mpr hbl) hS (inb_in hg768) d_law_768 ?_
      refine lv_aload_n hx hb d_law_769 rfl (lv_at hl 0 rfl) ?_
      refine lv_iload hx hb d_law_770 (lv_at hl 4 rfl) ?_
      refine lv_iconst (v := 2) hx hb d_law_772 (by decide) ?_
      refine lv_iadd hx hb d_law_773 ?_
      have hg774 := gd_c hM
      have hM := gd_v hM
      refine va_sld hx hb hX hbl (Nat.not_le.mpr hbl) hS (inb_in hg774) d_law_774 ?_
      have hF1 := free_all (D_left (D_right hD)) hS hA
      obtain ⟨x775, y775, hq775, hM⟩ := bI_some hM
      refine va_calli (va_runV (As := [.int (xs (i + 1).toNatClampNeg), .int (xs (i + 2).toNatClampNeg)]) (rest := [.int r759]) ⟨hx, hb, hml, hown, hts⟩ (c_M_compare l dC dI bd cs _ N μ (xs (i + 1).toNatClampNeg) (xs (i + 2).toNatClampNeg) hq775) (cwV 2 hts (goodVW k_731 k_732 k_733 k_8 k_734) rfl rfl rfl ⟨rfl, by decide, by decide, by decide +kernel⟩ ⟨Nat.le_of_ble_eq_true rfl, Nat.le_of_ble_eq_true rfl⟩) ⟨blindM, va_recv hK hPm rfl g_M, payM hPm hK (D_left (D_right hD)) hN⟩ rfl rfl hl.1 rfl (lv_room (Nat.le_of_ble_eq_true rfl)) d_law_775 ⟨hcB, hsB⟩) hS (fun q _ h => hF1 q h) hF1 (fun r775 σ775 t H locs ht hvm hpost hB hz1 hk1 hS => ?_)
      obtain ⟨e1, e2⟩ := hpost
      subst e1
      subst e2
      obtain ⟨hP1, hK1, hD1⟩ := hB
      rw [ht] at hP1
      have hP := fr (ap_mx hD) hk1 hP
      have hPo := fr (ap_mo hD) hk1 hPo
      have hPm := hP1
      have hD := D_3 hD (σ' := σ) (μ' := σ775) (f' := f)
      refine lv_icmp_eq (tgt := 820) hx hb d_law_778 (by decide) (fun h778 => ?_) (fun h778 => ?_)
      · rw [if_pos h778] at hM
        exact KF _ _ _ _ ⟨σ, σ775, f, i, rfl, hM, lv_sub hl [0, 1, 2, 3, 4] rfl, hP, hPm, hPo, hD, hS⟩
      · rw [if_neg h778] at hM
        refine lv_iconst (v := 0) hx hb d_law_781 (by decide) ?_
        cases hM
    rw [if_neg hw_19] at hM
    by_cases hw_20 : (xs i.toNatClampNeg &&& 31) = 20
    · rw [if_pos hw_20, m_case_20] at hM
      refine lv_tableIn (tgt := 783) (off := 734) hx hb d_law_49 (by rw [hw_20]; decide) (by rw [hw_20]; decide) (by rw [hw_20]; decide) (by decide) ?_
      refine W.widen (k := 600000 - n33) (n := 7300000 - 6 * n33) (by omega) (by omega) ?_
      refine lv_aload_n hx hb d_law_783 rfl (lv_at hl 1 rfl) ?_
      refine lv_aload_n hx hb d_law_784 rfl (lv_at hl 0 rfl) ?_
      refine lv_iload hx hb d_law_785 (lv_at hl 4 rfl) ?_
      refine lv_iconst (v := 1) hx hb d_law_787 (by decide) ?_
      refine lv_iadd hx hb d_law_788 ?_
      have hg789 := gd_c hM
      have hM := gd_v hM
      refine va_sld hx hb hX hbl (Nat.not_le.mpr hbl) hS (inb_in hg789) d_law_789 ?_
      refine lv_aload_n hx hb d_law_790 rfl (lv_at hl 0 rfl) ?_
      refine lv_iload hx hb d_law_791 (lv_at hl 4 rfl) ?_
      refine lv_iconst (v := 2) hx hb d_law_793 (by decide) ?_
      refine lv_iadd hx hb d_law_794 ?_
      have hg795 := gd_c hM
      have hM := gd_v hM
      refine va_sld hx hb hX hbl (Nat.not_le.mpr hbl) hS (inb_in hg795) d_law_795 ?_
      obtain ⟨x796, y796, hq796, hM⟩ := bI_some hM
      refine va_calli (va_runV (As := [.int (xs (i + 1).toNatClampNeg), .int (xs (i + 2).toNatClampNeg)]) (rest := []) ⟨hx, hb, hml, hown, hts⟩ (c_O_field l dC dI ad cs _ N σ (xs (i + 1).toNatClampNeg) (xs (i + 2).toNatClampNeg) hq796) (cwV 2 hts (goodVW k_333 k_334 k_335 k_1 k_336) rfl rfl rfl ⟨rfl, by decide, by decide, by decide +kernel⟩ ⟨Nat.le_of_ble_eq_true rfl, Nat.le_of_ble_eq_true rfl⟩) ⟨blindX, va_recv hK hP rfl g_O, payX hP hK (D_left hD) hN⟩ rfl rfl hl.1 rfl (lv_room (Nat.le_of_ble_eq_true rfl)) d_law_796 ⟨hcB, hsB⟩) hS (fun q h0 h => absurd h0 (Nat.not_lt.mpr h)) (fun q h => hA q (Nat.le_trans hS.1 h)) (fun r796 u t H locs ht hvm hpost hB hz1 hk1 hS => ?_)
      obtain ⟨e1, e2⟩ := hpost
      subst e1
      subst e2
      have hP := keepP hP hk1
      have hPm := keepP hPm hk1
      have hPo := keepP hPo hk1
      refine lv_aload_n hx hb d_law_799 rfl (lv_at hl 2 rfl) ?_
      refine lv_aload_n hx hb d_law_800 rfl (lv_at hl 0 rfl) ?_
      refine lv_iload hx hb d_law_801 (lv_at hl 4 rfl) ?_
      refine lv_iconst (v := 1) hx hb d_law_803 (by decide) ?_
      refine lv_iadd hx hb d_law_804 ?_
      have hg805 := gd_c hM
      have hM := gd_v hM
      refine va_sld hx hb hX hbl (Nat.not_le.mpr hbl) hS (inb_in hg805) d_law_805 ?_
      refine lv_aload_n hx hb d_law_806 rfl (lv_at hl 0 rfl) ?_
      refine lv_iload hx hb d_law_807 (lv_at hl 4 rfl) ?_
      refine lv_iconst (v := 2) hx hb d_law_809 (by decide) ?_
      refine lv_iadd hx hb d_law_810 ?_
      have hg811 := gd_c hM
      have hM := gd_v hM
      refine va_sld hx hb hX hbl (Nat.not_le.mpr hbl) hS (inb_in hg811) d_law_811 ?_
      have hF1 := free_all (D_left (D_right hD)) hS hA
      obtain ⟨x812, y812, hq812, hM⟩ := bI_some hM
      refine va_calli (va_runV (As := [.int (xs (i + 1).toNatClampNeg), .int (xs (i + 2).toNatClampNeg)]) (rest := [.int r796]) ⟨hx, hb, hml, hown, hts⟩ (c_M_field l dC dI bd cs _ N μ (xs (i + 1).toNatClampNeg) (xs (i + 2).toNatClampNeg) hq812) (cwV 2 hts (goodVW k_747 k_748 k_749 k_8 k_750) rfl rfl rfl ⟨rfl, by decide, by decide, by decide +kernel⟩ ⟨Nat.le_of_ble_eq_true rfl, Nat.le_of_ble_eq_true rfl⟩) ⟨blindM, va_recv hK hPm rfl g_M, payM hPm hK (D_left (D_right hD)) hN⟩ rfl rfl hl.1 rfl (lv_room (Nat.le_of_ble_eq_true rfl)) d_law_812 ⟨hcB, hsB⟩) hS (fun q _ h => hF1 q h) hF1 (fun r812 σ812 t H locs ht hvm hpost hB hz1 hk1 hS => ?_)
      obtain ⟨e1, e2⟩ := hpost
      subst e1
      subst e2
      obtain ⟨hP1, hK1, hD1⟩ := hB
      rw [ht] at hP1
      have hP := fr (ap_mx hD) hk1 hP
      have hPo := fr (ap_mo hD) hk1 hPo
      have hPm := hP1
      have hD := D_3 hD (σ' := σ) (μ' := σ812) (f' := f)
      refine lv_icmp_eq (tgt := 820) hx hb d_law_815 (by decide) (fun h815 => ?_) (fun h815 => ?_)
      · rw [if_pos h815] at hM
        exact KF _ _ _ _ ⟨σ, σ812, f, i, rfl, hM, lv_sub hl [0, 1, 2, 3, 4] rfl, hP, hPm, hPo, hD, hS⟩
      · rw [if_neg h815] at hM
        refine lv_iconst (v := 0) hx hb d_law_818 (by decide) ?_
        cases hM
    rw [if_neg hw_20] at hM
    rw [m_case_default] at hM
    refine lv_tableOut (tgt := 820) hx hb d_law_49 (sw_outL hw_0 hw_1 hw_2 hw_3 hw_4 hw_5 hw_6 hw_7 hw_8 hw_9 hw_10 hw_11 hw_12 hw_13 hw_14 hw_15 hw_16 hw_17 hw_18 hw_19 hw_20) (by decide) ?_
    refine W.widen (k := 600000 - n33) (n := 7300000 - 6 * n33) (by omega) (by omega) ?_
    exact KF _ _ _ _ ⟨σ, μ, f, i, rfl, hM, lv_sub hl [0, 1, 2, 3, 4] rfl, hP, hPm, hPo, hD, hS⟩
