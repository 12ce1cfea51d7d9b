section
-- ===== PART A: goes FIRST, ahead of the names: the tables' words, and 'selects' of the private methods out of them =====
/-- a private method of a class that the tables say can be made, by its rows of tables_1 -/
def lw_okq (q : MethodName × Nat) : Prop := (q.1.cls ≠ "java/lang/invoke/MethodHandle" ∧ q.1.cls ≠ "java/lang/invoke/VarHandle") ∧ Cond.instantiable q.1.cls q.2 ∈ tables_1 ∧ Cond.privateMethod q.1 ∈ tables_1 ∧ Cond.instanceMethod q.1 ∈ tables_1
theorem lw_p0 : lw_okq (⟨"ReelOffice", "tapeInRole", "(I)LReelOffice$Tape;"⟩, 12) := ⟨⟨by decide +kernel, by decide +kernel⟩, List.mem_of_getElem? (i := 17) (by decide +kernel), List.mem_of_getElem? (i := 306) (by decide +kernel), List.mem_of_getElem? (i := 307) (by decide +kernel)⟩
theorem lw_p1 : lw_okq (⟨"java/lang/Throwable", "fillInStackTrace", "(I)Ljava/lang/Throwable;"⟩, 6) := ⟨⟨by decide +kernel, by decide +kernel⟩, List.mem_of_getElem? (i := 391) (by decide +kernel), List.mem_of_getElem? (i := 389) (by decide +kernel), List.mem_of_getElem? (i := 390) (by decide +kernel)⟩
theorem lw_p2 : lw_okq (⟨"ReelOffice", "layRun", "()Z"⟩, 12) := ⟨⟨by decide +kernel, by decide +kernel⟩, List.mem_of_getElem? (i := 17) (by decide +kernel), List.mem_of_getElem? (i := 488) (by decide +kernel), List.mem_of_getElem? (i := 489) (by decide +kernel)⟩
theorem lw_p3 : lw_okq (⟨"ReelOffice", "writeRunFromTrial", "()Z"⟩, 12) := ⟨⟨by decide +kernel, by decide +kernel⟩, List.mem_of_getElem? (i := 17) (by decide +kernel), List.mem_of_getElem? (i := 496) (by decide +kernel), List.mem_of_getElem? (i := 497) (by decide +kernel)⟩
theorem lw_p4 : lw_okq (⟨"ReelOffice$Plan", "goUp", "([LReelOffice$Tape;)V"⟩, 3) := ⟨⟨by decide +kernel, by decide +kernel⟩, List.mem_of_getElem? (i := 50) (by decide +kernel), List.mem_of_getElem? (i := 535) (by decide +kernel), List.mem_of_getElem? (i := 536) (by decide +kernel)⟩
theorem lw_p5 : lw_okq (⟨"ReelOffice$Plan", "growTo", "(II[LReelOffice$Tape;)V"⟩, 3) := ⟨⟨by decide +kernel, by decide +kernel⟩, List.mem_of_getElem? (i := 50) (by decide +kernel), List.mem_of_getElem? (i := 539) (by decide +kernel), List.mem_of_getElem? (i := 540) (by decide +kernel)⟩
theorem lw_p6 : lw_okq (⟨"ReelOffice", "mergeRuns", "()Z"⟩, 12) := ⟨⟨by decide +kernel, by decide +kernel⟩, List.mem_of_getElem? (i := 17) (by decide +kernel), List.mem_of_getElem? (i := 551) (by decide +kernel), List.mem_of_getElem? (i := 552) (by decide +kernel)⟩
theorem lw_p7 : lw_okq (⟨"ReelOffice", "everySourceHasDummy", "()Z"⟩, 12) := ⟨⟨by decide +kernel, by decide +kernel⟩, List.mem_of_getElem? (i := 17) (by decide +kernel), List.mem_of_getElem? (i := 555) (by decide +kernel), List.mem_of_getElem? (i := 556) (by decide +kernel)⟩
theorem lw_p8 : lw_okq (⟨"ReelOffice", "sourcesCanBeRead", "()Z"⟩, 12) := ⟨⟨by decide +kernel, by decide +kernel⟩, List.mem_of_getElem? (i := 17) (by decide +kernel), List.mem_of_getElem? (i := 563) (by decide +kernel), List.mem_of_getElem? (i := 564) (by decide +kernel)⟩
theorem lw_p9 : lw_okq (⟨"ReelOffice", "writeMergedRun", "()Z"⟩, 12) := ⟨⟨by decide +kernel, by decide +kernel⟩, List.mem_of_getElem? (i := 17) (by decide +kernel), List.mem_of_getElem? (i := 571) (by decide +kernel), List.mem_of_getElem? (i := 572) (by decide +kernel)⟩
theorem lw_p10 : lw_okq (⟨"ReelOffice", "sourceOfFirstCard", "()I"⟩, 12) := ⟨⟨by decide +kernel, by decide +kernel⟩, List.mem_of_getElem? (i := 17) (by decide +kernel), List.mem_of_getElem? (i := 575) (by decide +kernel), List.mem_of_getElem? (i := 576) (by decide +kernel)⟩
theorem lw_p11 : lw_okq (⟨"ReelOffice", "nextCardOf", "(I)I"⟩, 12) := ⟨⟨by decide +kernel, by decide +kernel⟩, List.mem_of_getElem? (i := 17) (by decide +kernel), List.mem_of_getElem? (i := 579) (by decide +kernel), List.mem_of_getElem? (i := 580) (by decide +kernel)⟩
theorem lw_p12 : lw_okq (⟨"ReelOffice", "takeFromSources", "()V"⟩, 12) := ⟨⟨by decide +kernel, by decide +kernel⟩, List.mem_of_getElem? (i := 17) (by decide +kernel), List.mem_of_getElem? (i := 583) (by decide +kernel), List.mem_of_getElem? (i := 584) (by decide +kernel)⟩
theorem lw_p13 : lw_okq (⟨"ReelOffice", "endLevel", "()V"⟩, 12) := ⟨⟨by decide +kernel, by decide +kernel⟩, List.mem_of_getElem? (i := 17) (by decide +kernel), List.mem_of_getElem? (i := 595) (by decide +kernel), List.mem_of_getElem? (i := 596) (by decide +kernel)⟩
theorem lw_p14 : lw_okq (⟨"ReelOfficeModel", "isCard", "(I)Z"⟩, 33) := ⟨⟨by decide +kernel, by decide +kernel⟩, List.mem_of_getElem? (i := 614) (by decide +kernel), List.mem_of_getElem? (i := 736) (by decide +kernel), List.mem_of_getElem? (i := 737) (by decide +kernel)⟩
theorem lw_p15 : lw_okq (⟨"ReelOfficeModel", "comesFirst", "(II)Z"⟩, 33) := ⟨⟨by decide +kernel, by decide +kernel⟩, List.mem_of_getElem? (i := 614) (by decide +kernel), List.mem_of_getElem? (i := 740) (by decide +kernel), List.mem_of_getElem? (i := 741) (by decide +kernel)⟩
def lw_privs_1 : List (MethodName × Nat) := [(⟨"ReelOffice", "tapeInRole", "(I)LReelOffice$Tape;"⟩, 12), (⟨"java/lang/Throwable", "fillInStackTrace", "(I)Ljava/lang/Throwable;"⟩, 6), (⟨"ReelOffice", "layRun", "()Z"⟩, 12), (⟨"ReelOffice", "writeRunFromTrial", "()Z"⟩, 12), (⟨"ReelOffice$Plan", "goUp", "([LReelOffice$Tape;)V"⟩, 3), (⟨"ReelOffice$Plan", "growTo", "(II[LReelOffice$Tape;)V"⟩, 3), (⟨"ReelOffice", "mergeRuns", "()Z"⟩, 12), (⟨"ReelOffice", "everySourceHasDummy", "()Z"⟩, 12), (⟨"ReelOffice", "sourcesCanBeRead", "()Z"⟩, 12), (⟨"ReelOffice", "writeMergedRun", "()Z"⟩, 12), (⟨"ReelOffice", "sourceOfFirstCard", "()I"⟩, 12), (⟨"ReelOffice", "nextCardOf", "(I)I"⟩, 12), (⟨"ReelOffice", "takeFromSources", "()V"⟩, 12), (⟨"ReelOffice", "endLevel", "()V"⟩, 12), (⟨"ReelOfficeModel", "isCard", "(I)Z"⟩, 33), (⟨"ReelOfficeModel", "comesFirst", "(II)Z"⟩, 33)]
theorem lw_r1 : ∀ q ∈ lw_privs_1, lw_okq q := List.forall_mem_cons.mpr ⟨lw_p0, List.forall_mem_cons.mpr ⟨lw_p1, List.forall_mem_cons.mpr ⟨lw_p2, List.forall_mem_cons.mpr ⟨lw_p3, List.forall_mem_cons.mpr ⟨lw_p4, List.forall_mem_cons.mpr ⟨lw_p5, List.forall_mem_cons.mpr ⟨lw_p6, List.forall_mem_cons.mpr ⟨lw_p7, List.forall_mem_cons.mpr ⟨lw_p8, List.forall_mem_cons.mpr ⟨lw_p9, List.forall_mem_cons.mpr ⟨lw_p10, List.forall_mem_cons.mpr ⟨lw_p11, List.forall_mem_cons.mpr ⟨lw_p12, List.forall_mem_cons.mpr ⟨lw_p13, List.forall_mem_cons.mpr ⟨lw_p14, List.forall_mem_cons.mpr ⟨lw_p15, fun _ h => absurd h List.not_mem_nil⟩⟩⟩⟩⟩⟩⟩⟩⟩⟩⟩⟩⟩⟩⟩⟩
theorem lw_p16 : lw_okq (⟨"ReelOfficeModel", "reset", "()V"⟩, 33) := ⟨⟨by decide +kernel, by decide +kernel⟩, List.mem_of_getElem? (i := 614) (by decide +kernel), List.mem_of_getElem? (i := 756) (by decide +kernel), List.mem_of_getElem? (i := 757) (by decide +kernel)⟩
theorem lw_p17 : lw_okq (⟨"ReelOfficeModel", "lay", "()Z"⟩, 33) := ⟨⟨by decide +kernel, by decide +kernel⟩, List.mem_of_getElem? (i := 614) (by decide +kernel), List.mem_of_getElem? (i := 768) (by decide +kernel), List.mem_of_getElem? (i := 769) (by decide +kernel)⟩
theorem lw_p18 : lw_okq (⟨"ReelOfficeModel", "putAside", "()V"⟩, 33) := ⟨⟨by decide +kernel, by decide +kernel⟩, List.mem_of_getElem? (i := 614) (by decide +kernel), List.mem_of_getElem? (i := 772) (by decide +kernel), List.mem_of_getElem? (i := 773) (by decide +kernel)⟩
theorem lw_p19 : lw_okq (⟨"ReelOfficeModel", "makeRun", "()Z"⟩, 33) := ⟨⟨by decide +kernel, by decide +kernel⟩, List.mem_of_getElem? (i := 614) (by decide +kernel), List.mem_of_getElem? (i := 776) (by decide +kernel), List.mem_of_getElem? (i := 777) (by decide +kernel)⟩
theorem lw_p20 : lw_okq (⟨"ReelOfficeModel", "first", "()I"⟩, 33) := ⟨⟨by decide +kernel, by decide +kernel⟩, List.mem_of_getElem? (i := 614) (by decide +kernel), List.mem_of_getElem? (i := 780) (by decide +kernel), List.mem_of_getElem? (i := 781) (by decide +kernel)⟩
theorem lw_p21 : lw_okq (⟨"ReelOfficeModel", "write", "(I)Z"⟩, 33) := ⟨⟨by decide +kernel, by decide +kernel⟩, List.mem_of_getElem? (i := 614) (by decide +kernel), List.mem_of_getElem? (i := 784) (by decide +kernel), List.mem_of_getElem? (i := 785) (by decide +kernel)⟩
theorem lw_p22 : lw_okq (⟨"ReelOfficeModel", "takeBack", "()V"⟩, 33) := ⟨⟨by decide +kernel, by decide +kernel⟩, List.mem_of_getElem? (i := 614) (by decide +kernel), List.mem_of_getElem? (i := 788) (by decide +kernel), List.mem_of_getElem? (i := 789) (by decide +kernel)⟩
theorem lw_p23 : lw_okq (⟨"ReelOfficeModel", "findPlace", "()V"⟩, 33) := ⟨⟨by decide +kernel, by decide +kernel⟩, List.mem_of_getElem? (i := 614) (by decide +kernel), List.mem_of_getElem? (i := 792) (by decide +kernel), List.mem_of_getElem? (i := 793) (by decide +kernel)⟩
theorem lw_p24 : lw_okq (⟨"ReelOfficeModel", "append", "(I)V"⟩, 33) := ⟨⟨by decide +kernel, by decide +kernel⟩, List.mem_of_getElem? (i := 614) (by decide +kernel), List.mem_of_getElem? (i := 796) (by decide +kernel), List.mem_of_getElem? (i := 797) (by decide +kernel)⟩
theorem lw_p25 : lw_okq (⟨"ReelOfficeModel", "cardsOn", "(I)I"⟩, 33) := ⟨⟨by decide +kernel, by decide +kernel⟩, List.mem_of_getElem? (i := 614) (by decide +kernel), List.mem_of_getElem? (i := 800) (by decide +kernel), List.mem_of_getElem? (i := 801) (by decide +kernel)⟩
theorem lw_p26 : lw_okq (⟨"ReelOfficeModel", "merge", "()Z"⟩, 33) := ⟨⟨by decide +kernel, by decide +kernel⟩, List.mem_of_getElem? (i := 614) (by decide +kernel), List.mem_of_getElem? (i := 804) (by decide +kernel), List.mem_of_getElem? (i := 805) (by decide +kernel)⟩
theorem lw_p27 : lw_okq (⟨"ReelOfficeModel", "isReadable", "()Z"⟩, 33) := ⟨⟨by decide +kernel, by decide +kernel⟩, List.mem_of_getElem? (i := 614) (by decide +kernel), List.mem_of_getElem? (i := 808) (by decide +kernel), List.mem_of_getElem? (i := 809) (by decide +kernel)⟩
theorem lw_p28 : lw_okq (⟨"ReelOfficeModel", "mergeRuns", "()Z"⟩, 33) := ⟨⟨by decide +kernel, by decide +kernel⟩, List.mem_of_getElem? (i := 614) (by decide +kernel), List.mem_of_getElem? (i := 812) (by decide +kernel), List.mem_of_getElem? (i := 813) (by decide +kernel)⟩
theorem lw_p29 : lw_okq (⟨"ReelOfficeModel", "takeOff", "(I)V"⟩, 33) := ⟨⟨by decide +kernel, by decide +kernel⟩, List.mem_of_getElem? (i := 614) (by decide +kernel), List.mem_of_getElem? (i := 816) (by decide +kernel), List.mem_of_getElem? (i := 817) (by decide +kernel)⟩
theorem lw_p30 : lw_okq (⟨"ReelOfficeModel", "turn", "()V"⟩, 33) := ⟨⟨by decide +kernel, by decide +kernel⟩, List.mem_of_getElem? (i := 614) (by decide +kernel), List.mem_of_getElem? (i := 820) (by decide +kernel), List.mem_of_getElem? (i := 821) (by decide +kernel)⟩
def lw_privs_2 : List (MethodName × Nat) := [(⟨"ReelOfficeModel", "reset", "()V"⟩, 33), (⟨"ReelOfficeModel", "lay", "()Z"⟩, 33), (⟨"ReelOfficeModel", "putAside", "()V"⟩, 33), (⟨"ReelOfficeModel", "makeRun", "()Z"⟩, 33), (⟨"ReelOfficeModel", "first", "()I"⟩, 33), (⟨"ReelOfficeModel", "write", "(I)Z"⟩, 33), (⟨"ReelOfficeModel", "takeBack", "()V"⟩, 33), (⟨"ReelOfficeModel", "findPlace", "()V"⟩, 33), (⟨"ReelOfficeModel", "append", "(I)V"⟩, 33), (⟨"ReelOfficeModel", "cardsOn", "(I)I"⟩, 33), (⟨"ReelOfficeModel", "merge", "()Z"⟩, 33), (⟨"ReelOfficeModel", "isReadable", "()Z"⟩, 33), (⟨"ReelOfficeModel", "mergeRuns", "()Z"⟩, 33), (⟨"ReelOfficeModel", "takeOff", "(I)V"⟩, 33), (⟨"ReelOfficeModel", "turn", "()V"⟩, 33)]
theorem lw_r2 : ∀ q ∈ lw_privs_2, lw_okq q := List.forall_mem_cons.mpr ⟨lw_p16, List.forall_mem_cons.mpr ⟨lw_p17, List.forall_mem_cons.mpr ⟨lw_p18, List.forall_mem_cons.mpr ⟨lw_p19, List.forall_mem_cons.mpr ⟨lw_p20, List.forall_mem_cons.mpr ⟨lw_p21, List.forall_mem_cons.mpr ⟨lw_p22, List.forall_mem_cons.mpr ⟨lw_p23, List.forall_mem_cons.mpr ⟨lw_p24, List.forall_mem_cons.mpr ⟨lw_p25, List.forall_mem_cons.mpr ⟨lw_p26, List.forall_mem_cons.mpr ⟨lw_p27, List.forall_mem_cons.mpr ⟨lw_p28, List.forall_mem_cons.mpr ⟨lw_p29, List.forall_mem_cons.mpr ⟨lw_p30, fun _ h => absurd h List.not_mem_nil⟩⟩⟩⟩⟩⟩⟩⟩⟩⟩⟩⟩⟩⟩⟩
def lw_privs : List (MethodName × Nat) := lw_privs_1 ++ (lw_privs_2)
def lw_tbl : List Cond := k2_sels lw_privs ++ tables_1
theorem lw_privs_ok : ∀ q ∈ lw_privs, lw_okq q := by
  show ∀ q ∈ lw_privs_1 ++ (lw_privs_2), lw_okq q
  exact List.forall_mem_append.mpr ⟨lw_r1, lw_r2⟩
end
section
/-! What the printed mirrors and contracts stand on: the state of an object by numbers, the checks that a mirror makes, cuts and loops. -/
abbrev SS : Type := (Nat → Int32) × (Nat → Nat → Int32)
abbrev SX : Type := Nat → SS
def w1 (σ : SX) (j k : Nat) (v : Int32) : SX := fun i => if i = j then (fun q => if q = k then v else (σ j).1 q, (σ j).2) else σ i
def w2 (σ : SX) (j k : Nat) (f : Nat → Int32) : SX := fun i => if i = j then ((σ j).1, fun q => if q = k then f else (σ j).2 q) else σ i
def w3 (σ : SX) (j k : Nat) (i x : Int32) : SX := w2 σ j k (upd ((σ j).2 k) i.toNatClampNeg x)
def inb (i : Int32) (n : Nat) : Bool := decide (0 ≤ i.toInt ∧ i.toInt < n)
theorem inb_in {i : Int32} {n : Nat} (h : inb i n = true) : vp_in i n := vp_in_iff.mpr (of_decide_eq_true h)
theorem inb_lt {i : Int32} {n : Nat} (h : inb i n = true) : i.toNatClampNeg < n := Nat.not_le.mp fun q => inb_in h (Or.inr q)
theorem inb2_1 {i : Int32} (h : inb i 2 = true) (h0 : ¬ i = 0) : i = 1 := by
  obtain ⟨h1, h2⟩ := of_decide_eq_true h
  have h3 : ¬ i.toInt = 0 := fun q => h0 (Int32.toInt_inj.mp (by rw [q]; rfl))
  exact Int32.toInt_inj.mp (by show i.toInt = 1; omega)
theorem gd_c {α : Type} {c : Prop} [Decidable c] {a : Option α} {x : α} (h : (if c then a else none) = some x) : c := by
  by_cases hc : c
  · exact hc
  · rw [if_neg hc] at h; cases h
theorem gd_v {α : Type} {c : Prop} [Decidable c] {a : Option α} {x : α} (h : (if c then a else none) = some x) : a = some x := by
  by_cases hc : c
  · rw [if_pos hc] at h; exact h
  · rw [if_neg hc] at h; cases h
def isB (v : Int32) : Bool := decide (v = 0 ∨ v = 1)
theorem isB_n {v : Int32} (h : isB v = true) : narrow .boolean (.int v) = .int v := by
  rcases of_decide_eq_true h with rfl | rfl <;> rfl
theorem isB_f {v : Int32} (h : isB v = true) : fits .boolean (.int v) = true := by
  rcases of_decide_eq_true h with rfl | rfl <;> rfl
def cpok (sp dp n : Int32) (n0 n1 : Nat) : Bool := decide (0 ≤ sp.toInt ∧ 0 ≤ dp.toInt ∧ 0 ≤ n.toInt ∧ sp.toInt + n.toInt ≤ n0 ∧ dp.toInt + n.toInt ≤ n1)
theorem neg_of {x : Int32} (h : 0 ≤ x.toInt) : ¬ x < 0 := by
  rw [Int32.lt_iff_toInt_lt, Int32.toInt_zero]; omega
theorem clamp_int {x : Int32} (h : 0 ≤ x.toInt) : (x.toNatClampNeg : Int) = x.toInt := Int.toNat_of_nonneg h
theorem cpok_1 {sp dp n : Int32} {n0 n1 : Nat} (h : cpok sp dp n n0 n1 = true) : ¬ sp < 0 := neg_of (of_decide_eq_true h).1
theorem cpok_2 {sp dp n : Int32} {n0 n1 : Nat} (h : cpok sp dp n n0 n1 = true) : ¬ dp < 0 := neg_of (of_decide_eq_true h).2.1
theorem cpok_3 {sp dp n : Int32} {n0 n1 : Nat} (h : cpok sp dp n n0 n1 = true) : ¬ n < 0 := neg_of (of_decide_eq_true h).2.2.1
theorem cpok_4 {sp dp n : Int32} {n0 n1 : Nat} (h : cpok sp dp n n0 n1 = true) : sp.toNatClampNeg + n.toNatClampNeg ≤ n0 := by
  obtain ⟨h1, h2, h3, h4, h5⟩ := of_decide_eq_true h
  have := clamp_int h1; have := clamp_int h3; omega
theorem cpok_5 {sp dp n : Int32} {n0 n1 : Nat} (h : cpok sp dp n n0 n1 = true) : dp.toNatClampNeg + n.toNatClampNeg ≤ n1 := by
  obtain ⟨h1, h2, h3, h4, h5⟩ := of_decide_eq_true h
  have := clamp_int h2; have := clamp_int h3; omega
def bI {β : Type} (o : Option (Int32 × SX)) (k : Int32 → SX → Option β) : Option β := match o with
  | none => none
  | some q => k q.1 q.2
theorem bI_some {β : Type} {o : Option (Int32 × SX)} {k : Int32 → SX → Option β} {x : β} (h : bI o k = some x) : ∃ (r : Int32) (σ : SX), o = some (r, σ) ∧ k r σ = some x := by
  cases o with
  | none => cases h
  | some q => exact ⟨q.1, q.2, rfl, h⟩
def bR {β : Type} (o : Option (Nat × SX)) (k : Nat → SX → Option β) : Option β := match o with
  | none => none
  | some q => k q.1 q.2
theorem bR_some {β : Type} {o : Option (Nat × SX)} {k : Nat → SX → Option β} {x : β} (h : bR o k = some x) : ∃ (r : Nat) (σ : SX), o = some (r, σ) ∧ k r σ = some x := by
  cases o with
  | none => cases h
  | some q => exact ⟨q.1, q.2, rfl, h⟩
def bV {β : Type} (o : Option SX) (k : SX → Option β) : Option β := match o with
  | none => none
  | some q => k q
theorem bV_some {β : Type} {o : Option SX} {k : SX → Option β} {x : β} (h : bV o k = some x) : ∃ σ : SX, o = some σ ∧ k σ = some x := by
  cases o with
  | none => cases h
  | some q => exact ⟨q, rfl, h⟩
def bP {β : Type} (o : Option Int32) (k : Int32 → Option β) : Option β := match o with
  | none => none
  | some q => k q
theorem bP_some {β : Type} {o : Option Int32} {k : Int32 → Option β} {x : β} (h : bP o k = some x) : ∃ r : Int32, o = some r ∧ k r = some x := by
  cases o with
  | none => cases h
  | some q => exact ⟨q, rfl, h⟩
def bL {β : Type} (o : Option Int64) (k : Int64 → Option β) : Option β := match o with
  | none => none
  | some q => k q
theorem bL_some {β : Type} {o : Option Int64} {k : Int64 → Option β} {x : β} (h : bL o k = some x) : ∃ r : Int64, o = some r ∧ k r = some x := by
  cases o with
  | none => cases h
  | some q => exact ⟨q, rfl, h⟩
theorem P_eq {D : va_G} {cl : List vw_C} {w w' : va_W} {H : Heap} (e : w = w') (h : va_P D cl w H) : va_P D cl w' H := e ▸ h
theorem D_eq {A : Nat → Prop} {w w' : va_W} (e : w = w') (h : va_D A w) : va_D A w' := e ▸ h
theorem free_all {A : Nat → Prop} {ws : va_W} {H0 H : Heap} {locs : List Loc} (hD : va_D A ws) (hS : va_S A H0 H locs) (hA : ∀ q, H0.size ≤ q → A q) : ∀ q, va_A ws H.size q → A q := by
  intro q h
  rcases h with ⟨k, e, hk⟩ | h
  · exact hD.2 k (q, e) hk
  · exact hA q (Nat.le_trans hS.1 h)
theorem keepP {D : va_G} {cl : List vw_C} {ws : va_W} {H H1 : Heap} (hP : va_P D cl ws H) (hk : ∀ q : Nat, q < H.size → ¬ H.size ≤ q → H1[q]? = H[q]?) : va_P D cl ws H1 :=
  hP.kept (fun k q hq => hk q.1 (va_at.lt (hP k q hq)) (Nat.not_le.mpr (va_at.lt (hP k q hq))))
/-- a default of a switch over 1, 2, 3 -/
theorem sw_out3 {x : Int32} (h1 : ¬ x = 1) (h2 : ¬ x = 2) (h3 : ¬ x = 3) : x.toInt < 1 ∨ 3 < x.toInt := by
  have a1 : ¬ x.toInt = 1 := fun q => h1 (Int32.toInt_inj.mp (by rw [q]; rfl))
  have a2 : ¬ x.toInt = 2 := fun q => h2 (Int32.toInt_inj.mp (by rw [q]; rfl))
  have a3 : ¬ x.toInt = 3 := fun q => h3 (Int32.toInt_inj.mp (by rw [q]; rfl))
  omega
section Cuts
variable {p : Program} {l : Launch} {e : Env} {R : Room} {s : State} {m : MethodId} {args : Array Value} {below : List Frame} {meth : Method} {c : Code} {cells slots : Nat} {Q : State → Prop}
theorem W_cut {pc : Nat} (I : Heap → List Loc → Array Slot → List Value → Prop) {H0 : Heap} {locs0 : List Loc} {g0 : JFrame}
    (body : ∀ H locs ls st, I H locs ls st → W p l e R s m args below meth c H locs cells slots Q (F0 m pc ls st))
    (k : (∀ H locs ls st, I H locs ls st → W p l e R s m args below meth c H locs cells slots Q (F0 m pc ls st)) → W p l e R s m args below meth c H0 locs0 cells slots Q g0) :
    W p l e R s m args below meth c H0 locs0 cells slots Q g0 := k body
theorem W_loop {pc : Nat} (I : Nat → Heap → List Loc → Array Slot → List Value → Prop) {H0 : Heap} {locs0 : List Loc} {g0 : JFrame}
    (zero : ∀ H locs ls st, ¬ I 0 H locs ls st)
    (step : ∀ n, (∀ H locs ls st, I n H locs ls st → W p l e R s m args below meth c H locs cells slots Q (F0 m pc ls st)) → ∀ H locs ls st, I (n + 1) H locs ls st → W p l e R s m args below meth c H locs cells slots Q (F0 m pc ls st))
    (k : (∀ n H locs ls st, I n H locs ls st → W p l e R s m args below meth c H locs cells slots Q (F0 m pc ls st)) → W p l e R s m args below meth c H0 locs0 cells slots Q g0) :
    W p l e R s m args below meth c H0 locs0 cells slots Q g0 := by
  refine k fun n => ?_
  induction n with
  | zero => exact fun H locs ls st h => absurd h (zero H locs ls st)
  | succ n ih => exact step n ih
variable {cc : ByteArray} {pc : Nat} {ls : Array Slot} {rest : List Value} {D : va_G} {cl : List vw_C} {A : Nat → Prop} {a : Nat} {tys : List (ClassId × FieldType)} {ws : va_W} {H : Heap} {locs : List Loc}
/-- an array of arrays is read -/
theorem va_aldv (hexec : p.tables.exec = Jvm.exec) (hb : c.code = cc) (hK : va_K D cl tys s) (hP : va_P D cl ws H) (q0 t0 : Nat) {cA : ClassId} {n : Nat} {f : Nat → Option Nat} (ha : ws[q0]? = some (a, .inl (cA, n, .inr (.inr (.inr (.inr f)))))) (ht : tys[t0]? = some (cA, .array .int)) {i : Int32} (hin : vp_in i n) (hdg : decode cc pc = .ok (.aaload, 1))
    (kk : W p l e R s m args below meth c H locs cells slots Q (F0 m (pc + 1) ls (va_rf (f i.toNatClampNeg) :: rest))) : W p l e R s m args below meth c H locs cells slots Q (F0 m pc ls (.int i :: .ref a :: rest)) := by
  have hlt : i.toNatClampNeg < n := Nat.not_le.mp fun q => hin (Or.inr q)
  exact W.aald (v := va_rf (f i.toNatClampNeg)) (ty := .array .int) hexec hb (hP q0 _ ha) ((hK.2 t0 _ ht).1 n (fun j => va_rf (f j))) rfl (fun q => by cases q) (by show ¬ (i < 0 ∨ (arrV _ _ _).slots.size ≤ _); rw [arrV_size]; exact hin) (by show (arrV _ _ _).slots[_]? = _; rw [arrV_read _ _ hlt]) rfl rfl hdg kk
end Cuts
/-- the words that every method stands on: what the tables say that stays -/
def tb : List Cond := lw_tbl.filter goodWord
def wd (y : MethodName) (b : ByteArray) (n : Nat) (r : Option FieldType) : List Cond := .code y b n r :: tb
theorem mem_tb {w : Cond} (h : w ∈ tables_1) (g : goodWord w = true) : w ∈ tb := List.mem_filter.mpr ⟨List.mem_append_right _ h, g⟩
theorem mem_tbs {w : Cond} (h : w ∈ k2_sels lw_privs) (g : goodWord w = true) : w ∈ tb := List.mem_filter.mpr ⟨List.mem_append_left _ h, g⟩
theorem tb_good {w : Cond} (h : w ∈ tb) : (w.onTables && w.keeps) = true ∨ ∃ ty, w = .arrayClass ty := good_of_word (List.mem_filter.mp h).2
theorem goodW {y y2 : MethodName} {b b2 : ByteArray} {n n2 : Nat} {r r2 : Option FieldType} (h : Cond.code y2 b2 n2 r2 ∈ tb) : GoodIn (wd y b n r) (wd y2 b2 n2 r2) := by
  intro w hw
  rcases List.mem_cons.mp hw with rfl | hw
  · exact ⟨List.mem_cons_of_mem _ h, tb_good h⟩
  · exact ⟨List.mem_cons_of_mem _ hw, tb_good hw⟩
theorem goodV {y y2 : MethodName} {b b2 : ByteArray} {n n2 : Nat} {r r2 : Option FieldType} {own C : String} {idx : Nat} (h1 : Cond.methodLink own idx y2 ∈ tb) (h2 : Cond.instanceMethod y2 ∈ tb) (h3 : Cond.selects C y2 y2 ∈ tb) (h4 : Cond.initialized C ∈ tb) (h : Cond.code y2 b2 n2 r2 ∈ tb) : GoodIn (wd y b n r) (wsV own idx C y2 (wd y2 b2 n2 r2)) := by
  intro w hw
  rcases List.mem_append.mp hw with hw | hw
  · have hw : w ∈ tb := by
      simp only [List.mem_cons, List.not_mem_nil, or_false] at hw
      rcases hw with rfl | rfl | rfl | rfl <;> assumption
    exact ⟨List.mem_cons_of_mem _ hw, tb_good hw⟩
  · exact goodW h w hw
theorem goodS {y y2 : MethodName} {b b2 : ByteArray} {n n2 : Nat} {r r2 : Option FieldType} {own : String} {idx : Nat} (h1 : Cond.methodLink own idx y2 ∈ tb) (h2 : Cond.static y2 ∈ tb) (h4 : Cond.initialized own ∈ tb) (h : Cond.code y2 b2 n2 r2 ∈ tb) : GoodIn (wd y b n r) (wsS own idx y2 (wd y2 b2 n2 r2)) := by
  intro w hw
  rcases List.mem_append.mp hw with hw | hw
  · have hw : w ∈ tb := by
      simp only [List.mem_cons, List.not_mem_nil, or_false] at hw
      rcases hw with rfl | rfl | rfl <;> assumption
    exact ⟨List.mem_cons_of_mem _ hw, tb_good hw⟩
  · exact goodW h w hw
theorem blindS {av : List Value} {sz : Nat} : FrameBlind (va_Pc av (fun U => U.heap.size = sz)) := fun a U g mk q => q
theorem payS {s : State} {H : Heap} {av : List Value} : ∀ U : State, U.heap = H → s.WarmedH U.vm → va_Pc av (fun U => U.heap.size = H.size) av.toArray U := fun U hU _ => ⟨rfl, by show U.heap.size = _; rw [hU]⟩
def va_AI (U : State) : Prop := (Cond.arrayOver (.array .int)).before #[] U = true
theorem va_AI.moved {u U : State} (hvm : u.vm.Alike U.vm) (h : va_AI u) : va_AI U := by
  have h0 : (Cond.arrayOver (.array .int)).holds #[] u none u [] = true := h
  simp only [Cond.holds, Cond.value, beq_iff_eq] at h0
  cases hc : u.vm.findClass (FieldType.array .int).toString with
  | none => simp [hc] at h0
  | some comp =>
    simp only [hc, Option.bind_some, Option.bind_eq_some_iff, Option.map_eq_some_iff] at h0
    obtain ⟨c, hi0, k, hk, hb⟩ := h0
    obtain ⟨k', hk', he⟩ := hvm.2.2 _ _ hk
    have hi : (U.vm.classes.findIdx? fun (x : Class) => match x.kind with | .array component _ => component == comp | _ => false) = some c := by
      have e1 := va_idx_bare U.vm comp
      have e2 := va_idx_bare u.vm comp
      have e3 : U.vm.bare = u.vm.bare := by first | exact hvm.bare_eq | exact hvm.bare_eq.symm
      exact e1.symm.trans ((congrArg (fun (v : Vm) => v.classes.findIdx? fun (x : Class) => match x.kind with | .array component _ => component == comp | _ => false) e3).trans (e2.trans hi0))
    have f1 : U.vm.findClass (FieldType.array .int).toString = some comp := by rw [hvm.findClass]; exact hc
    obtain ⟨hlt, hp, -⟩ := Array.findIdx?_eq_some_iff_getElem.mp hi0
    have hkk : u.vm.classes[c] = k := (Array.getElem?_eq_some_iff.mp hk).2
    rw [hkk] at hp
    cases hkind : k.kind with
    | array component ty =>
      rw [hkind] at hb hp
      simp at hb hp
      have hkind' : k'.kind = .array comp (.array .int) := by rw [he]; show k.kind = _; rw [hkind, hp, hb.1]
      have f2 : U.vm.findClass ("[" ++ (FieldType.array .int).toString) = some c := by rw [hvm.findClass]; exact hb.2
      unfold va_AI Cond.before Cond.holds
      simp only [Cond.value]
      rw [f1, Option.bind_some]
      refine (congrArg (fun o : Option Nat => (o.bind (fun c => (U.vm.classes[c]?).map fun (k : Class) => match k.kind with | .array _ ty => decide (ty = FieldType.array .int) && decide (U.vm.findClass ("[" ++ (FieldType.array .int).toString) = some c) | _ => false) == some true)) hi).trans ?_
      simp [hk', hkind', f2]
    | _ => rw [hkind] at hb; simp at hb
end
section
abbrev R_O : String := "ReelOffice"
def F_O : u_T := fun k => match k with
  | 0 => ("ReelOffice", "deck", "LReelOffice$Deck;", true)
  | 1 => ("ReelOffice", "store", "LReelOffice$Store;", true)
  | 2 => ("ReelOffice", "trial", "LReelOffice$Store;", true)
  | 3 => ("ReelOffice", "plan", "LReelOffice$Plan;", true)
  | 4 => ("ReelOffice", "writer", "LReelOffice$Writer;", true)
  | 5 => ("ReelOffice", "row", "LReelOffice$Row;", true)
  | 6 => ("ReelOffice", "tapes", "[LReelOffice$Tape;", true)
  | 7 => ("ReelOffice", "tapeOfRole", "[I", true)
  | 8 => ("ReelOffice", "cardsRead", "[I", true)
  | 9 => ("ReelOffice", "cardsToRead", "[I", true)
  | 10 => ("ReelOffice", "stage", "I", false)
  | _ => ("ReelOffice", "brokenSteps", "I", false)
def ft_O : Nat → FieldType := fun k => match k with
  | 0 => .object "ReelOffice$Deck"
  | 1 => .object "ReelOffice$Store"
  | 2 => .object "ReelOffice$Store"
  | 3 => .object "ReelOffice$Plan"
  | 4 => .object "ReelOffice$Writer"
  | 5 => .object "ReelOffice$Row"
  | 6 => .array (.object "ReelOffice$Tape")
  | 7 => .array (.int)
  | 8 => .array (.int)
  | 9 => .array (.int)
  | 10 => .int
  | _ => .int
theorem n_O : ∀ a, a < 12 → ∀ b, b < 12 → a ≠ b → (F_O a).2.1 ≠ (F_O b).2.1 := by decide +kernel
theorem ft_O_ok : ∀ k, k < 12 → parseFieldDescriptor (F_O k).2.2.1 = some (ft_O k) := by decide +kernel
abbrev R_D : String := "ReelOffice$Deck"
def F_D : u_T := fun k => match k with
  | 0 => ("ReelOffice$Deck", "values", "[[I", true)
  | 1 => ("ReelOffice$Deck", "partFields", "[I", true)
  | 2 => ("ReelOffice$Deck", "partWays", "[I", true)
  | 3 => ("ReelOffice$Deck", "cards", "I", false)
  | _ => ("ReelOffice$Deck", "parts", "I", false)
def ft_D : Nat → FieldType := fun k => match k with
  | 0 => .array (.array (.int))
  | 1 => .array (.int)
  | 2 => .array (.int)
  | 3 => .int
  | _ => .int
theorem n_D : ∀ a, a < 5 → ∀ b, b < 5 → a ≠ b → (F_D a).2.1 ≠ (F_D b).2.1 := by decide +kernel
theorem ft_D_ok : ∀ k, k < 5 → parseFieldDescriptor (F_D k).2.2.1 = some (ft_D k) := by decide +kernel
abbrev R_S : String := "ReelOffice$Store"
def F_S : u_T := fun k => match k with
  | 0 => ("ReelOffice$Store", "room", "I", true)
  | 1 => ("ReelOffice$Store", "held", "[I", true)
  | 2 => ("ReelOffice$Store", "waits", "[Z", true)
  | 3 => ("ReelOffice$Store", "size", "I", false)
  | _ => ("ReelOffice$Store", "upcoming", "I", false)
def ft_S : Nat → FieldType := fun k => match k with
  | 0 => .int
  | 1 => .array (.int)
  | 2 => .array (.boolean)
  | 3 => .int
  | _ => .int
theorem n_S : ∀ a, a < 5 → ∀ b, b < 5 → a ≠ b → (F_S a).2.1 ≠ (F_S b).2.1 := by decide +kernel
theorem ft_S_ok : ∀ k, k < 5 → parseFieldDescriptor (F_S k).2.2.1 = some (ft_S k) := by decide +kernel
abbrev R_P : String := "ReelOffice$Plan"
def F_P : u_T := fun k => match k with
  | 0 => ("ReelOffice$Plan", "numbers", "[I", true)
  | 1 => ("ReelOffice$Plan", "steps", "I", false)
  | _ => ("ReelOffice$Plan", "place", "I", false)
def ft_P : Nat → FieldType := fun k => match k with
  | 0 => .array (.int)
  | 1 => .int
  | _ => .int
theorem n_P : ∀ a, a < 3 → ∀ b, b < 3 → a ≠ b → (F_P a).2.1 ≠ (F_P b).2.1 := by decide +kernel
theorem ft_P_ok : ∀ k, k < 3 → parseFieldDescriptor (F_P k).2.2.1 = some (ft_P k) := by decide +kernel
abbrev R_V : String := "ReelOffice$Writer"
def F_V : u_T := fun k => match k with
  | 0 => ("ReelOffice$Writer", "cardsWritten", "I", false)
  | 1 => ("ReelOffice$Writer", "power", "Z", false)
  | 2 => ("ReelOffice$Writer", "cutPlanned", "Z", false)
  | _ => ("ReelOffice$Writer", "cardsToCut", "I", false)
def ft_V : Nat → FieldType := fun k => match k with
  | 0 => .int
  | 1 => .boolean
  | 2 => .boolean
  | _ => .int
theorem n_V : ∀ a, a < 4 → ∀ b, b < 4 → a ≠ b → (F_V a).2.1 ≠ (F_V b).2.1 := by decide +kernel
theorem ft_V_ok : ∀ k, k < 4 → parseFieldDescriptor (F_V k).2.2.1 = some (ft_V k) := by decide +kernel
abbrev R_R : String := "ReelOffice$Row"
def F_R : u_T := fun k => match k with
  | 0 => ("ReelOffice$Row", "cards", "[I", true)
  | _ => ("ReelOffice$Row", "size", "I", false)
def ft_R : Nat → FieldType := fun k => match k with
  | 0 => .array (.int)
  | _ => .int
theorem n_R : ∀ a, a < 2 → ∀ b, b < 2 → a ≠ b → (F_R a).2.1 ≠ (F_R b).2.1 := by decide +kernel
theorem ft_R_ok : ∀ k, k < 2 → parseFieldDescriptor (F_R k).2.2.1 = some (ft_R k) := by decide +kernel
abbrev R_T : String := "ReelOffice$Tape"
def F_T : u_T := fun k => match k with
  | 0 => ("ReelOffice$Tape", "cards", "[I", true)
  | 1 => ("ReelOffice$Tape", "lengths", "[I", true)
  | 2 => ("ReelOffice$Tape", "cardsUsed", "I", false)
  | 3 => ("ReelOffice$Tape", "runsUsed", "I", false)
  | 4 => ("ReelOffice$Tape", "blanks", "I", false)
  | _ => ("ReelOffice$Tape", "faults", "I", false)
def ft_T : Nat → FieldType := fun k => match k with
  | 0 => .array (.int)
  | 1 => .array (.int)
  | 2 => .int
  | 3 => .int
  | 4 => .int
  | _ => .int
theorem n_T : ∀ a, a < 6 → ∀ b, b < 6 → a ≠ b → (F_T a).2.1 ≠ (F_T b).2.1 := by decide +kernel
theorem ft_T_ok : ∀ k, k < 6 → parseFieldDescriptor (F_T k).2.2.1 = some (ft_T k) := by decide +kernel
abbrev R_M : String := "ReelOfficeModel"
def F_M : u_T := fun k => match k with
  | 0 => ("ReelOfficeModel", "code", "I", false)
  | 1 => ("ReelOfficeModel", "size", "I", true)
  | 2 => ("ReelOfficeModel", "cards", "I", false)
  | 3 => ("ReelOfficeModel", "fields", "[I", true)
  | 4 => ("ReelOfficeModel", "parts", "I", false)
  | 5 => ("ReelOfficeModel", "partFields", "[I", true)
  | 6 => ("ReelOfficeModel", "ways", "[I", true)
  | 7 => ("ReelOfficeModel", "phase", "I", false)
  | 8 => ("ReelOfficeModel", "power", "Z", false)
  | 9 => ("ReelOfficeModel", "cut", "I", false)
  | 10 => ("ReelOfficeModel", "written", "I", false)
  | 11 => ("ReelOfficeModel", "broken", "I", false)
  | 12 => ("ReelOfficeModel", "faults", "[I", true)
  | 13 => ("ReelOfficeModel", "held", "I", false)
  | 14 => ("ReelOfficeModel", "memory", "[I", true)
  | 15 => ("ReelOfficeModel", "later", "[Z", true)
  | 16 => ("ReelOfficeModel", "next", "I", false)
  | 17 => ("ReelOfficeModel", "made", "I", false)
  | 18 => ("ReelOfficeModel", "numbers", "[I", true)
  | 19 => ("ReelOfficeModel", "level", "I", false)
  | 20 => ("ReelOfficeModel", "place", "I", false)
  | 21 => ("ReelOfficeModel", "tapes", "[I", true)
  | 22 => ("ReelOfficeModel", "lengths", "[I", true)
  | 23 => ("ReelOfficeModel", "runs", "[I", true)
  | 24 => ("ReelOfficeModel", "dummies", "[I", true)
  | 25 => ("ReelOfficeModel", "roles", "[I", true)
  | 26 => ("ReelOfficeModel", "asideHeld", "I", false)
  | 27 => ("ReelOfficeModel", "asideMemory", "[I", true)
  | 28 => ("ReelOfficeModel", "asideLater", "[Z", true)
  | 29 => ("ReelOfficeModel", "asideNext", "I", false)
  | 30 => ("ReelOfficeModel", "count", "I", false)
  | 31 => ("ReelOfficeModel", "run", "[I", true)
  | _ => ("ReelOfficeModel", "heads", "[I", true)
def ft_M : Nat → FieldType := fun k => match k with
  | 0 => .int
  | 1 => .int
  | 2 => .int
  | 3 => .array (.int)
  | 4 => .int
  | 5 => .array (.int)
  | 6 => .array (.int)
  | 7 => .int
  | 8 => .boolean
  | 9 => .int
  | 10 => .int
  | 11 => .int
  | 12 => .array (.int)
  | 13 => .int
  | 14 => .array (.int)
  | 15 => .array (.boolean)
  | 16 => .int
  | 17 => .int
  | 18 => .array (.int)
  | 19 => .int
  | 20 => .int
  | 21 => .array (.int)
  | 22 => .array (.int)
  | 23 => .array (.int)
  | 24 => .array (.int)
  | 25 => .array (.int)
  | 26 => .int
  | 27 => .array (.int)
  | 28 => .array (.boolean)
  | 29 => .int
  | 30 => .int
  | 31 => .array (.int)
  | _ => .array (.int)
theorem n_M : ∀ a, a < 33 → ∀ b, b < 33 → a ≠ b → (F_M a).2.1 ≠ (F_M b).2.1 := by decide +kernel
theorem ft_M_ok : ∀ k, k < 33 → parseFieldDescriptor (F_M k).2.2.1 = some (ft_M k) := by decide +kernel
abbrev classes : List vw_C := [(R_O, F_O, 12), (R_D, F_D, 5), (R_S, F_S, 5), (R_P, F_P, 3), (R_V, F_V, 4), (R_R, F_R, 2), (R_T, F_T, 6), (R_M, F_M, 33)]
abbrev tyW (cs : Nat → ClassId) : List (ClassId × FieldType) := [(cs 0, .int), (cs 1, .boolean), (cs 2, .object "ReelOffice$Tape"), (cs 3, .array .int)]

abbrev y_O_init : MethodName := ⟨"ReelOffice", "<init>", "(I)V"⟩
abbrev b_O_init : ByteArray := prog_1_method_1_code
abbrev y_O_card : MethodName := ⟨"ReelOffice", "card", "(II)I"⟩
abbrev b_O_card : ByteArray := prog_1_method_2_code
abbrev y_O_part : MethodName := ⟨"ReelOffice", "part", "(II)I"⟩
abbrev b_O_part : ByteArray := prog_1_method_3_code
abbrev y_O_start : MethodName := ⟨"ReelOffice", "start", "()V"⟩
abbrev b_O_start : ByteArray := prog_1_method_4_code
abbrev y_O_clear : MethodName := ⟨"ReelOffice", "clear", "()I"⟩
abbrev b_O_clear : ByteArray := prog_1_method_5_code
abbrev y_O_step : MethodName := ⟨"ReelOffice", "step", "(I)I"⟩
abbrev b_O_step : ByteArray := prog_1_method_6_code
abbrev y_O_fault : MethodName := ⟨"ReelOffice", "fault", "(II)I"⟩
abbrev b_O_fault : ByteArray := prog_1_method_7_code
abbrev y_O_cutAfter : MethodName := ⟨"ReelOffice", "cutAfter", "(I)Z"⟩
abbrev b_O_cutAfter : ByteArray := prog_1_method_8_code
abbrev y_O_resume : MethodName := ⟨"ReelOffice", "resume", "()Z"⟩
abbrev b_O_resume : ByteArray := prog_1_method_9_code
abbrev y_O_phase : MethodName := ⟨"ReelOffice", "phase", "()I"⟩
abbrev b_O_phase : ByteArray := prog_1_method_10_code
abbrev y_O_level : MethodName := ⟨"ReelOffice", "level", "()I"⟩
abbrev b_O_level : ByteArray := prog_1_method_11_code
abbrev y_O_runs : MethodName := ⟨"ReelOffice", "runs", "(I)I"⟩
abbrev b_O_runs : ByteArray := prog_1_method_12_code
abbrev y_O_dummies : MethodName := ⟨"ReelOffice", "dummies", "(I)I"⟩
abbrev b_O_dummies : ByteArray := prog_1_method_13_code
abbrev y_O_role : MethodName := ⟨"ReelOffice", "role", "(I)I"⟩
abbrev b_O_role : ByteArray := prog_1_method_14_code
abbrev y_O_length : MethodName := ⟨"ReelOffice", "length", "(II)I"⟩
abbrev b_O_length : ByteArray := prog_1_method_15_code
abbrev y_O_at : MethodName := ⟨"ReelOffice", "at", "(III)I"⟩
abbrev b_O_at : ByteArray := prog_1_method_16_code
abbrev y_O_memory : MethodName := ⟨"ReelOffice", "memory", "(I)Z"⟩
abbrev b_O_memory : ByteArray := prog_1_method_17_code
abbrev y_O_written : MethodName := ⟨"ReelOffice", "written", "()I"⟩
abbrev b_O_written : ByteArray := prog_1_method_18_code
abbrev y_O_broken : MethodName := ⟨"ReelOffice", "broken", "()I"⟩
abbrev b_O_broken : ByteArray := prog_1_method_19_code
abbrev y_O_sorted : MethodName := ⟨"ReelOffice", "sorted", "(I)I"⟩
abbrev b_O_sorted : ByteArray := prog_1_method_20_code
abbrev y_O_compare : MethodName := ⟨"ReelOffice", "compare", "(II)I"⟩
abbrev b_O_compare : ByteArray := prog_1_method_21_code
abbrev y_O_field : MethodName := ⟨"ReelOffice", "field", "(II)I"⟩
abbrev b_O_field : ByteArray := prog_1_method_22_code
abbrev y_O_isTape : MethodName := ⟨"ReelOffice", "isTape", "(I)Z"⟩
abbrev b_O_isTape : ByteArray := prog_1_method_23_code
abbrev y_O_isField : MethodName := ⟨"ReelOffice", "isField", "(I)Z"⟩
abbrev b_O_isField : ByteArray := prog_1_method_24_code
abbrev y_O_tapeInRole : MethodName := ⟨"ReelOffice", "tapeInRole", "(I)LReelOffice$Tape;"⟩
abbrev b_O_tapeInRole : ByteArray := prog_1_method_25_code
abbrev y_O_layRun : MethodName := ⟨"ReelOffice", "layRun", "()Z"⟩
abbrev b_O_layRun : ByteArray := prog_1_method_26_code
abbrev y_O_writeRunFromTrial : MethodName := ⟨"ReelOffice", "writeRunFromTrial", "()Z"⟩
abbrev b_O_writeRunFromTrial : ByteArray := prog_1_method_27_code
abbrev y_O_mergeRuns : MethodName := ⟨"ReelOffice", "mergeRuns", "()Z"⟩
abbrev b_O_mergeRuns : ByteArray := prog_1_method_28_code
abbrev y_O_everySourceHasDummy : MethodName := ⟨"ReelOffice", "everySourceHasDummy", "()Z"⟩
abbrev b_O_everySourceHasDummy : ByteArray := prog_1_method_29_code
abbrev y_O_sourcesCanBeRead : MethodName := ⟨"ReelOffice", "sourcesCanBeRead", "()Z"⟩
abbrev b_O_sourcesCanBeRead : ByteArray := prog_1_method_30_code
abbrev y_O_writeMergedRun : MethodName := ⟨"ReelOffice", "writeMergedRun", "()Z"⟩
abbrev b_O_writeMergedRun : ByteArray := prog_1_method_31_code
abbrev y_O_sourceOfFirstCard : MethodName := ⟨"ReelOffice", "sourceOfFirstCard", "()I"⟩
abbrev b_O_sourceOfFirstCard : ByteArray := prog_1_method_32_code
abbrev y_O_nextCardOf : MethodName := ⟨"ReelOffice", "nextCardOf", "(I)I"⟩
abbrev b_O_nextCardOf : ByteArray := prog_1_method_33_code
abbrev y_O_takeFromSources : MethodName := ⟨"ReelOffice", "takeFromSources", "()V"⟩
abbrev b_O_takeFromSources : ByteArray := prog_1_method_34_code
abbrev y_O_endLevel : MethodName := ⟨"ReelOffice", "endLevel", "()V"⟩
abbrev b_O_endLevel : ByteArray := prog_1_method_35_code
abbrev y_M_init : MethodName := ⟨"ReelOfficeModel", "<init>", "(I)V"⟩
abbrev b_M_init : ByteArray := prog_9_method_1_code
abbrev y_M_thrown : MethodName := ⟨"ReelOfficeModel", "thrown", "()I"⟩
abbrev b_M_thrown : ByteArray := prog_9_method_2_code
abbrev y_M_card : MethodName := ⟨"ReelOfficeModel", "card", "(II)I"⟩
abbrev b_M_card : ByteArray := prog_9_method_3_code
abbrev y_M_part : MethodName := ⟨"ReelOfficeModel", "part", "(II)I"⟩
abbrev b_M_part : ByteArray := prog_9_method_4_code
abbrev y_M_standing : MethodName := ⟨"ReelOfficeModel", "standing", "(II)J"⟩
abbrev b_M_standing : ByteArray := prog_9_method_5_code
abbrev y_M_comesFirst : MethodName := ⟨"ReelOfficeModel", "comesFirst", "(II)Z"⟩
abbrev b_M_comesFirst : ByteArray := prog_9_method_6_code
abbrev y_M_isCard : MethodName := ⟨"ReelOfficeModel", "isCard", "(I)Z"⟩
abbrev b_M_isCard : ByteArray := prog_9_method_7_code
abbrev y_M_compare : MethodName := ⟨"ReelOfficeModel", "compare", "(II)I"⟩
abbrev b_M_compare : ByteArray := prog_9_method_8_code
abbrev y_M_field : MethodName := ⟨"ReelOfficeModel", "field", "(II)I"⟩
abbrev b_M_field : ByteArray := prog_9_method_9_code
abbrev y_M_reset : MethodName := ⟨"ReelOfficeModel", "reset", "()V"⟩
abbrev b_M_reset : ByteArray := prog_9_method_10_code
abbrev y_M_start : MethodName := ⟨"ReelOfficeModel", "start", "()V"⟩
abbrev b_M_start : ByteArray := prog_9_method_11_code
abbrev y_M_clear : MethodName := ⟨"ReelOfficeModel", "clear", "()I"⟩
abbrev b_M_clear : ByteArray := prog_9_method_12_code
abbrev y_M_write : MethodName := ⟨"ReelOfficeModel", "write", "(I)Z"⟩
abbrev b_M_write : ByteArray := prog_9_method_13_code
abbrev y_M_first : MethodName := ⟨"ReelOfficeModel", "first", "()I"⟩
abbrev b_M_first : ByteArray := prog_9_method_14_code
abbrev y_M_putAside : MethodName := ⟨"ReelOfficeModel", "putAside", "()V"⟩
abbrev b_M_putAside : ByteArray := prog_9_method_15_code
abbrev y_M_takeBack : MethodName := ⟨"ReelOfficeModel", "takeBack", "()V"⟩
abbrev b_M_takeBack : ByteArray := prog_9_method_16_code
abbrev y_M_makeRun : MethodName := ⟨"ReelOfficeModel", "makeRun", "()Z"⟩
abbrev b_M_makeRun : ByteArray := prog_9_method_17_code
abbrev y_M_findPlace : MethodName := ⟨"ReelOfficeModel", "findPlace", "()V"⟩
abbrev b_M_findPlace : ByteArray := prog_9_method_18_code
abbrev y_M_cardsOn : MethodName := ⟨"ReelOfficeModel", "cardsOn", "(I)I"⟩
abbrev b_M_cardsOn : ByteArray := prog_9_method_19_code
abbrev y_M_append : MethodName := ⟨"ReelOfficeModel", "append", "(I)V"⟩
abbrev b_M_append : ByteArray := prog_9_method_20_code
abbrev y_M_takeOff : MethodName := ⟨"ReelOfficeModel", "takeOff", "(I)V"⟩
abbrev b_M_takeOff : ByteArray := prog_9_method_21_code
abbrev y_M_lay : MethodName := ⟨"ReelOfficeModel", "lay", "()Z"⟩
abbrev b_M_lay : ByteArray := prog_9_method_22_code
abbrev y_M_isReadable : MethodName := ⟨"ReelOfficeModel", "isReadable", "()Z"⟩
abbrev b_M_isReadable : ByteArray := prog_9_method_23_code
abbrev y_M_mergeRuns : MethodName := ⟨"ReelOfficeModel", "mergeRuns", "()Z"⟩
abbrev b_M_mergeRuns : ByteArray := prog_9_method_24_code
abbrev y_M_turn : MethodName := ⟨"ReelOfficeModel", "turn", "()V"⟩
abbrev b_M_turn : ByteArray := prog_9_method_25_code
abbrev y_M_merge : MethodName := ⟨"ReelOfficeModel", "merge", "()Z"⟩
abbrev b_M_merge : ByteArray := prog_9_method_26_code
abbrev y_M_step : MethodName := ⟨"ReelOfficeModel", "step", "(I)I"⟩
abbrev b_M_step : ByteArray := prog_9_method_27_code
abbrev y_M_isTape : MethodName := ⟨"ReelOfficeModel", "isTape", "(I)Z"⟩
abbrev b_M_isTape : ByteArray := prog_9_method_28_code
abbrev y_M_fault : MethodName := ⟨"ReelOfficeModel", "fault", "(II)I"⟩
abbrev b_M_fault : ByteArray := prog_9_method_29_code
abbrev y_M_cutAfter : MethodName := ⟨"ReelOfficeModel", "cutAfter", "(I)Z"⟩
abbrev b_M_cutAfter : ByteArray := prog_9_method_30_code
abbrev y_M_resume : MethodName := ⟨"ReelOfficeModel", "resume", "()Z"⟩
abbrev b_M_resume : ByteArray := prog_9_method_31_code
abbrev y_M_phase : MethodName := ⟨"ReelOfficeModel", "phase", "()I"⟩
abbrev b_M_phase : ByteArray := prog_9_method_32_code
abbrev y_M_level : MethodName := ⟨"ReelOfficeModel", "level", "()I"⟩
abbrev b_M_level : ByteArray := prog_9_method_33_code
abbrev y_M_runs : MethodName := ⟨"ReelOfficeModel", "runs", "(I)I"⟩
abbrev b_M_runs : ByteArray := prog_9_method_34_code
abbrev y_M_dummies : MethodName := ⟨"ReelOfficeModel", "dummies", "(I)I"⟩
abbrev b_M_dummies : ByteArray := prog_9_method_35_code
abbrev y_M_role : MethodName := ⟨"ReelOfficeModel", "role", "(I)I"⟩
abbrev b_M_role : ByteArray := prog_9_method_36_code
abbrev y_M_length : MethodName := ⟨"ReelOfficeModel", "length", "(II)I"⟩
abbrev b_M_length : ByteArray := prog_9_method_37_code
abbrev y_M_at : MethodName := ⟨"ReelOfficeModel", "at", "(III)I"⟩
abbrev b_M_at : ByteArray := prog_9_method_38_code
abbrev y_M_memory : MethodName := ⟨"ReelOfficeModel", "memory", "(I)Z"⟩
abbrev b_M_memory : ByteArray := prog_9_method_39_code
abbrev y_M_written : MethodName := ⟨"ReelOfficeModel", "written", "()I"⟩
abbrev b_M_written : ByteArray := prog_9_method_40_code
abbrev y_M_broken : MethodName := ⟨"ReelOfficeModel", "broken", "()I"⟩
abbrev b_M_broken : ByteArray := prog_9_method_41_code
abbrev y_M_sorted : MethodName := ⟨"ReelOfficeModel", "sorted", "(I)I"⟩
abbrev b_M_sorted : ByteArray := prog_9_method_42_code
abbrev y_D_init : MethodName := ⟨"ReelOffice$Deck", "<init>", "()V"⟩
abbrev b_D_init : ByteArray := prog_2_method_1_code
abbrev y_D_forgetAll : MethodName := ⟨"ReelOffice$Deck", "forgetAll", "()V"⟩
abbrev b_D_forgetAll : ByteArray := prog_2_method_2_code
abbrev y_D_cardCount : MethodName := ⟨"ReelOffice$Deck", "cardCount", "()I"⟩
abbrev b_D_cardCount : ByteArray := prog_2_method_3_code
abbrev y_D_isFull : MethodName := ⟨"ReelOffice$Deck", "isFull", "()Z"⟩
abbrev b_D_isFull : ByteArray := prog_2_method_4_code
abbrev y_D_keyIsFull : MethodName := ⟨"ReelOffice$Deck", "keyIsFull", "()Z"⟩
abbrev b_D_keyIsFull : ByteArray := prog_2_method_5_code
abbrev y_D_hasCard : MethodName := ⟨"ReelOffice$Deck", "hasCard", "(I)Z"⟩
abbrev b_D_hasCard : ByteArray := prog_2_method_6_code
abbrev y_D_addCard : MethodName := ⟨"ReelOffice$Deck", "addCard", "(II)I"⟩
abbrev b_D_addCard : ByteArray := prog_2_method_7_code
abbrev y_D_addPart : MethodName := ⟨"ReelOffice$Deck", "addPart", "(II)I"⟩
abbrev b_D_addPart : ByteArray := prog_2_method_8_code
abbrev y_D_value : MethodName := ⟨"ReelOffice$Deck", "value", "(II)I"⟩
abbrev b_D_value : ByteArray := prog_2_method_9_code
abbrev y_D_comesBefore : MethodName := ⟨"ReelOffice$Deck", "comesBefore", "(II)Z"⟩
abbrev b_D_comesBefore : ByteArray := prog_2_method_10_code
abbrev y_D_rank : MethodName := ⟨"ReelOffice$Deck", "rank", "(II)J"⟩
abbrev b_D_rank : ByteArray := prog_2_method_11_code
abbrev y_P_init : MethodName := ⟨"ReelOffice$Plan", "<init>", "()V"⟩
abbrev b_P_init : ByteArray := prog_3_method_1_code
abbrev y_P_begin : MethodName := ⟨"ReelOffice$Plan", "begin", "([LReelOffice$Tape;)V"⟩
abbrev b_P_begin : ByteArray := prog_3_method_2_code
abbrev y_P_height : MethodName := ⟨"ReelOffice$Plan", "height", "()I"⟩
abbrev b_P_height : ByteArray := prog_3_method_3_code
abbrev y_P_goDown : MethodName := ⟨"ReelOffice$Plan", "goDown", "()V"⟩
abbrev b_P_goDown : ByteArray := prog_3_method_4_code
abbrev y_P_placeOfNextRun : MethodName := ⟨"ReelOffice$Plan", "placeOfNextRun", "([LReelOffice$Tape;)I"⟩
abbrev b_P_placeOfNextRun : ByteArray := prog_3_method_5_code
abbrev y_P_goUp : MethodName := ⟨"ReelOffice$Plan", "goUp", "([LReelOffice$Tape;)V"⟩
abbrev b_P_goUp : ByteArray := prog_3_method_6_code
abbrev y_P_growTo : MethodName := ⟨"ReelOffice$Plan", "growTo", "(II[LReelOffice$Tape;)V"⟩
abbrev b_P_growTo : ByteArray := prog_3_method_7_code
abbrev y_R_init : MethodName := ⟨"ReelOffice$Row", "<init>", "()V"⟩
abbrev b_R_init : ByteArray := prog_4_method_1_code
abbrev y_R_forgetAll : MethodName := ⟨"ReelOffice$Row", "forgetAll", "()V"⟩
abbrev b_R_forgetAll : ByteArray := prog_4_method_2_code
abbrev y_R_add : MethodName := ⟨"ReelOffice$Row", "add", "(I)V"⟩
abbrev b_R_add : ByteArray := prog_4_method_3_code
abbrev y_S_init : MethodName := ⟨"ReelOffice$Store", "<init>", "(I)V"⟩
abbrev b_S_init : ByteArray := prog_5_method_1_code
abbrev y_S_forgetAll : MethodName := ⟨"ReelOffice$Store", "forgetAll", "()V"⟩
abbrev b_S_forgetAll : ByteArray := prog_5_method_2_code
abbrev y_S_isEmpty : MethodName := ⟨"ReelOffice$Store", "isEmpty", "()Z"⟩
abbrev b_S_isEmpty : ByteArray := prog_5_method_3_code
abbrev y_S_fillFrom : MethodName := ⟨"ReelOffice$Store", "fillFrom", "(LReelOffice$Deck;)V"⟩
abbrev b_S_fillFrom : ByteArray := prog_5_method_4_code
abbrev y_S_copyFrom : MethodName := ⟨"ReelOffice$Store", "copyFrom", "(LReelOffice$Store;)V"⟩
abbrev b_S_copyFrom : ByteArray := prog_5_method_5_code
abbrev y_S_holds : MethodName := ⟨"ReelOffice$Store", "holds", "(I)Z"⟩
abbrev b_S_holds : ByteArray := prog_5_method_6_code
abbrev y_S_cardIn : MethodName := ⟨"ReelOffice$Store", "cardIn", "(I)I"⟩
abbrev b_S_cardIn : ByteArray := prog_5_method_7_code
abbrev y_S_slotOfFirst : MethodName := ⟨"ReelOffice$Store", "slotOfFirst", "(LReelOffice$Deck;)I"⟩
abbrev b_S_slotOfFirst : ByteArray := prog_5_method_8_code
abbrev y_S_replaceCard : MethodName := ⟨"ReelOffice$Store", "replaceCard", "(ILReelOffice$Deck;)V"⟩
abbrev b_S_replaceCard : ByteArray := prog_5_method_9_code
abbrev y_S_turnToNextRun : MethodName := ⟨"ReelOffice$Store", "turnToNextRun", "()V"⟩
abbrev b_S_turnToNextRun : ByteArray := prog_5_method_10_code
abbrev y_T_init : MethodName := ⟨"ReelOffice$Tape", "<init>", "()V"⟩
abbrev b_T_init : ByteArray := prog_6_method_1_code
abbrev y_T_forgetAll : MethodName := ⟨"ReelOffice$Tape", "forgetAll", "()V"⟩
abbrev b_T_forgetAll : ByteArray := prog_6_method_2_code
abbrev y_T_runCount : MethodName := ⟨"ReelOffice$Tape", "runCount", "()I"⟩
abbrev b_T_runCount : ByteArray := prog_6_method_3_code
abbrev y_T_dummyCount : MethodName := ⟨"ReelOffice$Tape", "dummyCount", "()I"⟩
abbrev b_T_dummyCount : ByteArray := prog_6_method_4_code
abbrev y_T_hasDummy : MethodName := ⟨"ReelOffice$Tape", "hasDummy", "()Z"⟩
abbrev b_T_hasDummy : ByteArray := prog_6_method_5_code
abbrev y_T_isBare : MethodName := ⟨"ReelOffice$Tape", "isBare", "()Z"⟩
abbrev b_T_isBare : ByteArray := prog_6_method_6_code
abbrev y_T_addDummies : MethodName := ⟨"ReelOffice$Tape", "addDummies", "(I)V"⟩
abbrev b_T_addDummies : ByteArray := prog_6_method_7_code
abbrev y_T_replaceFaults : MethodName := ⟨"ReelOffice$Tape", "replaceFaults", "(I)I"⟩
abbrev b_T_replaceFaults : ByteArray := prog_6_method_8_code
abbrev y_T_useFault : MethodName := ⟨"ReelOffice$Tape", "useFault", "()Z"⟩
abbrev b_T_useFault : ByteArray := prog_6_method_9_code
abbrev y_T_runLength : MethodName := ⟨"ReelOffice$Tape", "runLength", "(I)I"⟩
abbrev b_T_runLength : ByteArray := prog_6_method_10_code
abbrev y_T_cardOfRun : MethodName := ⟨"ReelOffice$Tape", "cardOfRun", "(II)I"⟩
abbrev b_T_cardOfRun : ByteArray := prog_6_method_11_code
abbrev y_T_append : MethodName := ⟨"ReelOffice$Tape", "append", "(LReelOffice$Row;)V"⟩
abbrev b_T_append : ByteArray := prog_6_method_12_code
abbrev y_T_takeFirstRun : MethodName := ⟨"ReelOffice$Tape", "takeFirstRun", "()V"⟩
abbrev b_T_takeFirstRun : ByteArray := prog_6_method_13_code
abbrev y_V_init : MethodName := ⟨"ReelOffice$Writer", "<init>", "()V"⟩
abbrev b_V_init : ByteArray := prog_7_method_1_code
abbrev y_V_forgetAll : MethodName := ⟨"ReelOffice$Writer", "forgetAll", "()V"⟩
abbrev b_V_forgetAll : ByteArray := prog_7_method_2_code
abbrev y_V_total : MethodName := ⟨"ReelOffice$Writer", "total", "()I"⟩
abbrev b_V_total : ByteArray := prog_7_method_3_code
abbrev y_V_hasPower : MethodName := ⟨"ReelOffice$Writer", "hasPower", "()Z"⟩
abbrev b_V_hasPower : ByteArray := prog_7_method_4_code
abbrev y_V_switchOn : MethodName := ⟨"ReelOffice$Writer", "switchOn", "()V"⟩
abbrev b_V_switchOn : ByteArray := prog_7_method_5_code
abbrev y_V_planCut : MethodName := ⟨"ReelOffice$Writer", "planCut", "(I)V"⟩
abbrev b_V_planCut : ByteArray := prog_7_method_6_code
abbrev y_V_writeCard : MethodName := ⟨"ReelOffice$Writer", "writeCard", "()Z"⟩
abbrev b_V_writeCard : ByteArray := prog_7_method_7_code
end
section
theorem k_1 : (Jvm.Cond.initialized "ReelOffice") ∈ tb := mem_tb (List.mem_of_getElem? (i := 1) (by decide +kernel)) (by decide +kernel)
theorem k_2 : (Jvm.Cond.initialized "ReelOffice$Deck") ∈ tb := mem_tb (List.mem_of_getElem? (i := 2) (by decide +kernel)) (by decide +kernel)
theorem k_3 : (Jvm.Cond.initialized "ReelOffice$Plan") ∈ tb := mem_tb (List.mem_of_getElem? (i := 3) (by decide +kernel)) (by decide +kernel)
theorem k_4 : (Jvm.Cond.initialized "ReelOffice$Writer") ∈ tb := mem_tb (List.mem_of_getElem? (i := 4) (by decide +kernel)) (by decide +kernel)
theorem k_5 : (Jvm.Cond.initialized "ReelOffice$Row") ∈ tb := mem_tb (List.mem_of_getElem? (i := 5) (by decide +kernel)) (by decide +kernel)
theorem k_6 : (Jvm.Cond.initialized "ReelOffice$Store") ∈ tb := mem_tb (List.mem_of_getElem? (i := 6) (by decide +kernel)) (by decide +kernel)
theorem k_7 : (Jvm.Cond.initialized "ReelOffice$Tape") ∈ tb := mem_tb (List.mem_of_getElem? (i := 7) (by decide +kernel)) (by decide +kernel)
theorem k_8 : (Jvm.Cond.initialized "ReelOfficeModel") ∈ tb := mem_tb (List.mem_of_getElem? (i := 8) (by decide +kernel)) (by decide +kernel)
theorem k_12 : (Jvm.Cond.initialized "java/lang/IllegalStateException") ∈ tb := mem_tb (List.mem_of_getElem? (i := 12) (by decide +kernel)) (by decide +kernel)
theorem k_13 : (Jvm.Cond.initialized "java/lang/IllegalArgumentException") ∈ tb := mem_tb (List.mem_of_getElem? (i := 13) (by decide +kernel)) (by decide +kernel)
theorem k_14 : (Jvm.Cond.initialized "java/lang/Math") ∈ tb := mem_tb (List.mem_of_getElem? (i := 14) (by decide +kernel)) (by decide +kernel)
theorem k_15 : (Jvm.Cond.initialized "java/lang/System") ∈ tb := mem_tb (List.mem_of_getElem? (i := 15) (by decide +kernel)) (by decide +kernel)
theorem k_21 : (Jvm.Cond.methodLink "ReelOffice" (1 : Nat) ({ cls := "java/lang/Object", name := "<init>", desc := "()V" } : Jvm.MethodName)) ∈ tb := mem_tb (List.mem_of_getElem? (i := 21) (by decide +kernel)) (by decide +kernel)
theorem k_22 : (Jvm.Cond.instanceMethod ({ cls := "java/lang/Object", name := "<init>", desc := "()V" } : Jvm.MethodName)) ∈ tb := mem_tb (List.mem_of_getElem? (i := 22) (by decide +kernel)) (by decide +kernel)
theorem k_23 : (Jvm.Cond.code ({ cls := "java/lang/Object", name := "<init>", desc := "()V" } : Jvm.MethodName) object_method_1_code (1 : Nat) (Option.none : Option Jvm.ClassFile.FieldType)) ∈ tb := mem_tb (List.mem_of_getElem? (i := 23) (by decide +kernel)) (by decide +kernel)
theorem k_24 : (Jvm.Cond.classLink "ReelOffice" (7 : Nat) "ReelOffice$Deck") ∈ tb := mem_tb (List.mem_of_getElem? (i := 24) (by decide +kernel)) (by decide +kernel)
theorem k_25 : (Jvm.Cond.instantiable "ReelOffice$Deck" (5 : Nat)) ∈ tb := mem_tb (List.mem_of_getElem? (i := 25) (by decide +kernel)) (by decide +kernel)
theorem k_27 : (Jvm.Cond.instanceMethod ({ cls := "ReelOffice$Deck", name := "<init>", desc := "()V" } : Jvm.MethodName)) ∈ tb := mem_tb (List.mem_of_getElem? (i := 27) (by decide +kernel)) (by decide +kernel)
theorem k_28 : (Jvm.Cond.code ({ cls := "ReelOffice$Deck", name := "<init>", desc := "()V" } : Jvm.MethodName) prog_2_method_1_code (1 : Nat) (Option.none : Option Jvm.ClassFile.FieldType)) ∈ tb := mem_tb (List.mem_of_getElem? (i := 28) (by decide +kernel)) (by decide +kernel)
theorem k_29 : (Jvm.Cond.methodLink "ReelOffice$Deck" (3 : Nat) ({ cls := "java/lang/Object", name := "<init>", desc := "()V" } : Jvm.MethodName)) ∈ tb := mem_tb (List.mem_of_getElem? (i := 29) (by decide +kernel)) (by decide +kernel)
theorem k_30 : (Jvm.Cond.classLink "ReelOffice$Deck" (9 : Nat) "[[I") ∈ tb := mem_tb (List.mem_of_getElem? (i := 30) (by decide +kernel)) (by decide +kernel)
theorem k_32 : (Jvm.Cond.fieldLink "ReelOffice$Deck" (11 : Nat) "ReelOffice$Deck" "values" "[[I") ∈ tb := mem_tb (List.mem_of_getElem? (i := 32) (by decide +kernel)) (by decide +kernel)
theorem k_33 : (Jvm.Cond.fieldLink "ReelOffice$Deck" (16 : Nat) "ReelOffice$Deck" "partFields" "[I") ∈ tb := mem_tb (List.mem_of_getElem? (i := 33) (by decide +kernel)) (by decide +kernel)
theorem k_34 : (Jvm.Cond.fieldLink "ReelOffice$Deck" (20 : Nat) "ReelOffice$Deck" "partWays" "[I") ∈ tb := mem_tb (List.mem_of_getElem? (i := 34) (by decide +kernel)) (by decide +kernel)
theorem k_35 : (Jvm.Cond.fieldLink "ReelOffice$Deck" (23 : Nat) "ReelOffice$Deck" "cards" "I") ∈ tb := mem_tb (List.mem_of_getElem? (i := 35) (by decide +kernel)) (by decide +kernel)
theorem k_36 : (Jvm.Cond.fieldLink "ReelOffice$Deck" (27 : Nat) "ReelOffice$Deck" "parts" "I") ∈ tb := mem_tb (List.mem_of_getElem? (i := 36) (by decide +kernel)) (by decide +kernel)
theorem k_48 : (Jvm.Cond.arrayClass Jvm.ClassFile.FieldType.int) ∈ tb := mem_tb (List.mem_of_getElem? (i := 48) (by decide +kernel)) (by decide +kernel)
theorem k_49 : (Jvm.Cond.classLink "ReelOffice" (16 : Nat) "ReelOffice$Plan") ∈ tb := mem_tb (List.mem_of_getElem? (i := 49) (by decide +kernel)) (by decide +kernel)
theorem k_50 : (Jvm.Cond.instantiable "ReelOffice$Plan" (3 : Nat)) ∈ tb := mem_tb (List.mem_of_getElem? (i := 50) (by decide +kernel)) (by decide +kernel)
theorem k_52 : (Jvm.Cond.instanceMethod ({ cls := "ReelOffice$Plan", name := "<init>", desc := "()V" } : Jvm.MethodName)) ∈ tb := mem_tb (List.mem_of_getElem? (i := 52) (by decide +kernel)) (by decide +kernel)
theorem k_53 : (Jvm.Cond.code ({ cls := "ReelOffice$Plan", name := "<init>", desc := "()V" } : Jvm.MethodName) prog_3_method_1_code (1 : Nat) (Option.none : Option Jvm.ClassFile.FieldType)) ∈ tb := mem_tb (List.mem_of_getElem? (i := 53) (by decide +kernel)) (by decide +kernel)
theorem k_54 : (Jvm.Cond.methodLink "ReelOffice$Plan" (3 : Nat) ({ cls := "java/lang/Object", name := "<init>", desc := "()V" } : Jvm.MethodName)) ∈ tb := mem_tb (List.mem_of_getElem? (i := 54) (by decide +kernel)) (by decide +kernel)
theorem k_55 : (Jvm.Cond.fieldLink "ReelOffice$Plan" (9 : Nat) "ReelOffice$Plan" "numbers" "[I") ∈ tb := mem_tb (List.mem_of_getElem? (i := 55) (by decide +kernel)) (by decide +kernel)
theorem k_56 : (Jvm.Cond.fieldLink "ReelOffice$Plan" (15 : Nat) "ReelOffice$Plan" "steps" "I") ∈ tb := mem_tb (List.mem_of_getElem? (i := 56) (by decide +kernel)) (by decide +kernel)
theorem k_57 : (Jvm.Cond.fieldLink "ReelOffice$Plan" (19 : Nat) "ReelOffice$Plan" "place" "I") ∈ tb := mem_tb (List.mem_of_getElem? (i := 57) (by decide +kernel)) (by decide +kernel)
theorem k_65 : (Jvm.Cond.classLink "ReelOffice" (23 : Nat) "ReelOffice$Writer") ∈ tb := mem_tb (List.mem_of_getElem? (i := 65) (by decide +kernel)) (by decide +kernel)
theorem k_66 : (Jvm.Cond.instantiable "ReelOffice$Writer" (4 : Nat)) ∈ tb := mem_tb (List.mem_of_getElem? (i := 66) (by decide +kernel)) (by decide +kernel)
theorem k_68 : (Jvm.Cond.instanceMethod ({ cls := "ReelOffice$Writer", name := "<init>", desc := "()V" } : Jvm.MethodName)) ∈ tb := mem_tb (List.mem_of_getElem? (i := 68) (by decide +kernel)) (by decide +kernel)
theorem k_69 : (Jvm.Cond.code ({ cls := "ReelOffice$Writer", name := "<init>", desc := "()V" } : Jvm.MethodName) prog_7_method_1_code (1 : Nat) (Option.none : Option Jvm.ClassFile.FieldType)) ∈ tb := mem_tb (List.mem_of_getElem? (i := 69) (by decide +kernel)) (by decide +kernel)
theorem k_70 : (Jvm.Cond.methodLink "ReelOffice$Writer" (1 : Nat) ({ cls := "java/lang/Object", name := "<init>", desc := "()V" } : Jvm.MethodName)) ∈ tb := mem_tb (List.mem_of_getElem? (i := 70) (by decide +kernel)) (by decide +kernel)
theorem k_71 : (Jvm.Cond.fieldLink "ReelOffice$Writer" (7 : Nat) "ReelOffice$Writer" "cardsWritten" "I") ∈ tb := mem_tb (List.mem_of_getElem? (i := 71) (by decide +kernel)) (by decide +kernel)
theorem k_72 : (Jvm.Cond.fieldLink "ReelOffice$Writer" (13 : Nat) "ReelOffice$Writer" "power" "Z") ∈ tb := mem_tb (List.mem_of_getElem? (i := 72) (by decide +kernel)) (by decide +kernel)
theorem k_73 : (Jvm.Cond.fieldLink "ReelOffice$Writer" (17 : Nat) "ReelOffice$Writer" "cutPlanned" "Z") ∈ tb := mem_tb (List.mem_of_getElem? (i := 73) (by decide +kernel)) (by decide +kernel)
theorem k_74 : (Jvm.Cond.fieldLink "ReelOffice$Writer" (20 : Nat) "ReelOffice$Writer" "cardsToCut" "I") ∈ tb := mem_tb (List.mem_of_getElem? (i := 74) (by decide +kernel)) (by decide +kernel)
theorem k_84 : (Jvm.Cond.classLink "ReelOffice" (30 : Nat) "ReelOffice$Row") ∈ tb := mem_tb (List.mem_of_getElem? (i := 84) (by decide +kernel)) (by decide +kernel)
theorem k_85 : (Jvm.Cond.instantiable "ReelOffice$Row" (2 : Nat)) ∈ tb := mem_tb (List.mem_of_getElem? (i := 85) (by decide +kernel)) (by decide +kernel)
theorem k_87 : (Jvm.Cond.instanceMethod ({ cls := "ReelOffice$Row", name := "<init>", desc := "()V" } : Jvm.MethodName)) ∈ tb := mem_tb (List.mem_of_getElem? (i := 87) (by decide +kernel)) (by decide +kernel)
theorem k_88 : (Jvm.Cond.code ({ cls := "ReelOffice$Row", name := "<init>", desc := "()V" } : Jvm.MethodName) prog_4_method_1_code (1 : Nat) (Option.none : Option Jvm.ClassFile.FieldType)) ∈ tb := mem_tb (List.mem_of_getElem? (i := 88) (by decide +kernel)) (by decide +kernel)
theorem k_89 : (Jvm.Cond.methodLink "ReelOffice$Row" (3 : Nat) ({ cls := "java/lang/Object", name := "<init>", desc := "()V" } : Jvm.MethodName)) ∈ tb := mem_tb (List.mem_of_getElem? (i := 89) (by decide +kernel)) (by decide +kernel)
theorem k_90 : (Jvm.Cond.fieldLink "ReelOffice$Row" (9 : Nat) "ReelOffice$Row" "cards" "[I") ∈ tb := mem_tb (List.mem_of_getElem? (i := 90) (by decide +kernel)) (by decide +kernel)
theorem k_92 : (Jvm.Cond.fieldLink "ReelOffice$Row" (15 : Nat) "ReelOffice$Row" "size" "I") ∈ tb := mem_tb (List.mem_of_getElem? (i := 92) (by decide +kernel)) (by decide +kernel)
theorem k_99 : (Jvm.Cond.classLink "ReelOffice" (37 : Nat) "ReelOffice$Tape") ∈ tb := mem_tb (List.mem_of_getElem? (i := 99) (by decide +kernel)) (by decide +kernel)
theorem k_101 : (Jvm.Cond.classLink "ReelOffice" (60 : Nat) "ReelOffice$Store") ∈ tb := mem_tb (List.mem_of_getElem? (i := 101) (by decide +kernel)) (by decide +kernel)
theorem k_102 : (Jvm.Cond.instantiable "ReelOffice$Store" (5 : Nat)) ∈ tb := mem_tb (List.mem_of_getElem? (i := 102) (by decide +kernel)) (by decide +kernel)
theorem k_103 : (Jvm.Cond.methodLink "ReelOffice" (62 : Nat) ({ cls := "ReelOffice$Store", name := "<init>", desc := "(I)V" } : Jvm.MethodName)) ∈ tb := mem_tb (List.mem_of_getElem? (i := 103) (by decide +kernel)) (by decide +kernel)
theorem k_104 : (Jvm.Cond.instanceMethod ({ cls := "ReelOffice$Store", name := "<init>", desc := "(I)V" } : Jvm.MethodName)) ∈ tb := mem_tb (List.mem_of_getElem? (i := 104) (by decide +kernel)) (by decide +kernel)
theorem k_105 : (Jvm.Cond.code ({ cls := "ReelOffice$Store", name := "<init>", desc := "(I)V" } : Jvm.MethodName) prog_5_method_1_code (2 : Nat) (Option.none : Option Jvm.ClassFile.FieldType)) ∈ tb := mem_tb (List.mem_of_getElem? (i := 105) (by decide +kernel)) (by decide +kernel)
theorem k_106 : (Jvm.Cond.methodLink "ReelOffice$Store" (3 : Nat) ({ cls := "java/lang/Object", name := "<init>", desc := "()V" } : Jvm.MethodName)) ∈ tb := mem_tb (List.mem_of_getElem? (i := 106) (by decide +kernel)) (by decide +kernel)
theorem k_107 : (Jvm.Cond.fieldLink "ReelOffice$Store" (26 : Nat) "ReelOffice$Store" "room" "I") ∈ tb := mem_tb (List.mem_of_getElem? (i := 107) (by decide +kernel)) (by decide +kernel)
theorem k_108 : (Jvm.Cond.fieldLink "ReelOffice$Store" (9 : Nat) "ReelOffice$Store" "held" "[I") ∈ tb := mem_tb (List.mem_of_getElem? (i := 108) (by decide +kernel)) (by decide +kernel)
theorem k_109 : (Jvm.Cond.fieldLink "ReelOffice$Store" (15 : Nat) "ReelOffice$Store" "waits" "[Z") ∈ tb := mem_tb (List.mem_of_getElem? (i := 109) (by decide +kernel)) (by decide +kernel)
theorem k_110 : (Jvm.Cond.fieldLink "ReelOffice$Store" (19 : Nat) "ReelOffice$Store" "size" "I") ∈ tb := mem_tb (List.mem_of_getElem? (i := 110) (by decide +kernel)) (by decide +kernel)
theorem k_111 : (Jvm.Cond.fieldLink "ReelOffice$Store" (23 : Nat) "ReelOffice$Store" "upcoming" "I") ∈ tb := mem_tb (List.mem_of_getElem? (i := 111) (by decide +kernel)) (by decide +kernel)
theorem k_123 : (Jvm.Cond.arrayClass Jvm.ClassFile.FieldType.boolean) ∈ tb := mem_tb (List.mem_of_getElem? (i := 123) (by decide +kernel)) (by decide +kernel)
theorem k_124 : (Jvm.Cond.instantiable "ReelOffice$Tape" (6 : Nat)) ∈ tb := mem_tb (List.mem_of_getElem? (i := 124) (by decide +kernel)) (by decide +kernel)
theorem k_126 : (Jvm.Cond.instanceMethod ({ cls := "ReelOffice$Tape", name := "<init>", desc := "()V" } : Jvm.MethodName)) ∈ tb := mem_tb (List.mem_of_getElem? (i := 126) (by decide +kernel)) (by decide +kernel)
theorem k_127 : (Jvm.Cond.code ({ cls := "ReelOffice$Tape", name := "<init>", desc := "()V" } : Jvm.MethodName) prog_6_method_1_code (1 : Nat) (Option.none : Option Jvm.ClassFile.FieldType)) ∈ tb := mem_tb (List.mem_of_getElem? (i := 127) (by decide +kernel)) (by decide +kernel)
theorem k_128 : (Jvm.Cond.methodLink "ReelOffice$Tape" (3 : Nat) ({ cls := "java/lang/Object", name := "<init>", desc := "()V" } : Jvm.MethodName)) ∈ tb := mem_tb (List.mem_of_getElem? (i := 128) (by decide +kernel)) (by decide +kernel)
theorem k_129 : (Jvm.Cond.fieldLink "ReelOffice$Tape" (9 : Nat) "ReelOffice$Tape" "cards" "[I") ∈ tb := mem_tb (List.mem_of_getElem? (i := 129) (by decide +kernel)) (by decide +kernel)
theorem k_130 : (Jvm.Cond.fieldLink "ReelOffice$Tape" (15 : Nat) "ReelOffice$Tape" "lengths" "[I") ∈ tb := mem_tb (List.mem_of_getElem? (i := 130) (by decide +kernel)) (by decide +kernel)
theorem k_131 : (Jvm.Cond.fieldLink "ReelOffice$Tape" (18 : Nat) "ReelOffice$Tape" "cardsUsed" "I") ∈ tb := mem_tb (List.mem_of_getElem? (i := 131) (by decide +kernel)) (by decide +kernel)
theorem k_132 : (Jvm.Cond.fieldLink "ReelOffice$Tape" (22 : Nat) "ReelOffice$Tape" "runsUsed" "I") ∈ tb := mem_tb (List.mem_of_getElem? (i := 132) (by decide +kernel)) (by decide +kernel)
theorem k_133 : (Jvm.Cond.fieldLink "ReelOffice$Tape" (25 : Nat) "ReelOffice$Tape" "blanks" "I") ∈ tb := mem_tb (List.mem_of_getElem? (i := 133) (by decide +kernel)) (by decide +kernel)
theorem k_134 : (Jvm.Cond.fieldLink "ReelOffice$Tape" (28 : Nat) "ReelOffice$Tape" "faults" "I") ∈ tb := mem_tb (List.mem_of_getElem? (i := 134) (by decide +kernel)) (by decide +kernel)
theorem k_148 : (Jvm.Cond.fieldLink "ReelOffice" (10 : Nat) "ReelOffice" "deck" "LReelOffice$Deck;") ∈ tb := mem_tb (List.mem_of_getElem? (i := 148) (by decide +kernel)) (by decide +kernel)
theorem k_149 : (Jvm.Cond.fieldLink "ReelOffice" (65 : Nat) "ReelOffice" "store" "LReelOffice$Store;") ∈ tb := mem_tb (List.mem_of_getElem? (i := 149) (by decide +kernel)) (by decide +kernel)
theorem k_150 : (Jvm.Cond.fieldLink "ReelOffice" (69 : Nat) "ReelOffice" "trial" "LReelOffice$Store;") ∈ tb := mem_tb (List.mem_of_getElem? (i := 150) (by decide +kernel)) (by decide +kernel)
theorem k_151 : (Jvm.Cond.fieldLink "ReelOffice" (19 : Nat) "ReelOffice" "plan" "LReelOffice$Plan;") ∈ tb := mem_tb (List.mem_of_getElem? (i := 151) (by decide +kernel)) (by decide +kernel)
theorem k_152 : (Jvm.Cond.fieldLink "ReelOffice" (26 : Nat) "ReelOffice" "writer" "LReelOffice$Writer;") ∈ tb := mem_tb (List.mem_of_getElem? (i := 152) (by decide +kernel)) (by decide +kernel)
theorem k_153 : (Jvm.Cond.fieldLink "ReelOffice" (33 : Nat) "ReelOffice" "row" "LReelOffice$Row;") ∈ tb := mem_tb (List.mem_of_getElem? (i := 153) (by decide +kernel)) (by decide +kernel)
theorem k_154 : (Jvm.Cond.fieldLink "ReelOffice" (39 : Nat) "ReelOffice" "tapes" "[LReelOffice$Tape;") ∈ tb := mem_tb (List.mem_of_getElem? (i := 154) (by decide +kernel)) (by decide +kernel)
theorem k_155 : (Jvm.Cond.fieldLink "ReelOffice" (43 : Nat) "ReelOffice" "tapeOfRole" "[I") ∈ tb := mem_tb (List.mem_of_getElem? (i := 155) (by decide +kernel)) (by decide +kernel)
theorem k_156 : (Jvm.Cond.fieldLink "ReelOffice" (47 : Nat) "ReelOffice" "cardsRead" "[I") ∈ tb := mem_tb (List.mem_of_getElem? (i := 156) (by decide +kernel)) (by decide +kernel)
theorem k_157 : (Jvm.Cond.fieldLink "ReelOffice" (50 : Nat) "ReelOffice" "cardsToRead" "[I") ∈ tb := mem_tb (List.mem_of_getElem? (i := 157) (by decide +kernel)) (by decide +kernel)
theorem k_158 : (Jvm.Cond.fieldLink "ReelOffice" (53 : Nat) "ReelOffice" "stage" "I") ∈ tb := mem_tb (List.mem_of_getElem? (i := 158) (by decide +kernel)) (by decide +kernel)
theorem k_159 : (Jvm.Cond.fieldLink "ReelOffice" (57 : Nat) "ReelOffice" "brokenSteps" "I") ∈ tb := mem_tb (List.mem_of_getElem? (i := 159) (by decide +kernel)) (by decide +kernel)
theorem k_189 : (Jvm.Cond.methodLink "ReelOffice" (108 : Nat) ({ cls := "ReelOffice$Deck", name := "cardCount", desc := "()I" } : Jvm.MethodName)) ∈ tb := mem_tb (List.mem_of_getElem? (i := 189) (by decide +kernel)) (by decide +kernel)
theorem k_190 : (Jvm.Cond.instanceMethod ({ cls := "ReelOffice$Deck", name := "cardCount", desc := "()I" } : Jvm.MethodName)) ∈ tb := mem_tb (List.mem_of_getElem? (i := 190) (by decide +kernel)) (by decide +kernel)
theorem k_191 : (Jvm.Cond.selects "ReelOffice$Deck" ({ cls := "ReelOffice$Deck", name := "cardCount", desc := "()I" } : Jvm.MethodName) ({ cls := "ReelOffice$Deck", name := "cardCount", desc := "()I" } : Jvm.MethodName)) ∈ tb := mem_tb (List.mem_of_getElem? (i := 191) (by decide +kernel)) (by decide +kernel)
theorem k_192 : (Jvm.Cond.code ({ cls := "ReelOffice$Deck", name := "cardCount", desc := "()I" } : Jvm.MethodName) prog_2_method_3_code (1 : Nat) (Option.some Jvm.ClassFile.FieldType.int)) ∈ tb := mem_tb (List.mem_of_getElem? (i := 192) (by decide +kernel)) (by decide +kernel)
theorem k_193 : (Jvm.Cond.methodLink "ReelOffice" (112 : Nat) ({ cls := "ReelOffice$Deck", name := "forgetAll", desc := "()V" } : Jvm.MethodName)) ∈ tb := mem_tb (List.mem_of_getElem? (i := 193) (by decide +kernel)) (by decide +kernel)
theorem k_194 : (Jvm.Cond.instanceMethod ({ cls := "ReelOffice$Deck", name := "forgetAll", desc := "()V" } : Jvm.MethodName)) ∈ tb := mem_tb (List.mem_of_getElem? (i := 194) (by decide +kernel)) (by decide +kernel)
theorem k_195 : (Jvm.Cond.selects "ReelOffice$Deck" ({ cls := "ReelOffice$Deck", name := "forgetAll", desc := "()V" } : Jvm.MethodName) ({ cls := "ReelOffice$Deck", name := "forgetAll", desc := "()V" } : Jvm.MethodName)) ∈ tb := mem_tb (List.mem_of_getElem? (i := 195) (by decide +kernel)) (by decide +kernel)
theorem k_196 : (Jvm.Cond.code ({ cls := "ReelOffice$Deck", name := "forgetAll", desc := "()V" } : Jvm.MethodName) prog_2_method_2_code (1 : Nat) (Option.none : Option Jvm.ClassFile.FieldType)) ∈ tb := mem_tb (List.mem_of_getElem? (i := 196) (by decide +kernel)) (by decide +kernel)
theorem k_197 : (Jvm.Cond.methodLink "ReelOffice" (115 : Nat) ({ cls := "ReelOffice$Store", name := "forgetAll", desc := "()V" } : Jvm.MethodName)) ∈ tb := mem_tb (List.mem_of_getElem? (i := 197) (by decide +kernel)) (by decide +kernel)
theorem k_198 : (Jvm.Cond.instanceMethod ({ cls := "ReelOffice$Store", name := "forgetAll", desc := "()V" } : Jvm.MethodName)) ∈ tb := mem_tb (List.mem_of_getElem? (i := 198) (by decide +kernel)) (by decide +kernel)
theorem k_199 : (Jvm.Cond.selects "ReelOffice$Store" ({ cls := "ReelOffice$Store", name := "forgetAll", desc := "()V" } : Jvm.MethodName) ({ cls := "ReelOffice$Store", name := "forgetAll", desc := "()V" } : Jvm.MethodName)) ∈ tb := mem_tb (List.mem_of_getElem? (i := 199) (by decide +kernel)) (by decide +kernel)
theorem k_200 : (Jvm.Cond.code ({ cls := "ReelOffice$Store", name := "forgetAll", desc := "()V" } : Jvm.MethodName) prog_5_method_2_code (1 : Nat) (Option.none : Option Jvm.ClassFile.FieldType)) ∈ tb := mem_tb (List.mem_of_getElem? (i := 200) (by decide +kernel)) (by decide +kernel)
theorem k_201 : (Jvm.Cond.methodLink "ReelOffice" (116 : Nat) ({ cls := "ReelOffice$Tape", name := "forgetAll", desc := "()V" } : Jvm.MethodName)) ∈ tb := mem_tb (List.mem_of_getElem? (i := 201) (by decide +kernel)) (by decide +kernel)
theorem k_202 : (Jvm.Cond.instanceMethod ({ cls := "ReelOffice$Tape", name := "forgetAll", desc := "()V" } : Jvm.MethodName)) ∈ tb := mem_tb (List.mem_of_getElem? (i := 202) (by decide +kernel)) (by decide +kernel)
theorem k_203 : (Jvm.Cond.selects "ReelOffice$Tape" ({ cls := "ReelOffice$Tape", name := "forgetAll", desc := "()V" } : Jvm.MethodName) ({ cls := "ReelOffice$Tape", name := "forgetAll", desc := "()V" } : Jvm.MethodName)) ∈ tb := mem_tb (List.mem_of_getElem? (i := 203) (by decide +kernel)) (by decide +kernel)
theorem k_204 : (Jvm.Cond.code ({ cls := "ReelOffice$Tape", name := "forgetAll", desc := "()V" } : Jvm.MethodName) prog_6_method_2_code (1 : Nat) (Option.none : Option Jvm.ClassFile.FieldType)) ∈ tb := mem_tb (List.mem_of_getElem? (i := 204) (by decide +kernel)) (by decide +kernel)
theorem k_205 : (Jvm.Cond.methodLink "ReelOffice" (117 : Nat) ({ cls := "ReelOffice$Writer", name := "forgetAll", desc := "()V" } : Jvm.MethodName)) ∈ tb := mem_tb (List.mem_of_getElem? (i := 205) (by decide +kernel)) (by decide +kernel)
theorem k_206 : (Jvm.Cond.instanceMethod ({ cls := "ReelOffice$Writer", name := "forgetAll", desc := "()V" } : Jvm.MethodName)) ∈ tb := mem_tb (List.mem_of_getElem? (i := 206) (by decide +kernel)) (by decide +kernel)
theorem k_207 : (Jvm.Cond.selects "ReelOffice$Writer" ({ cls := "ReelOffice$Writer", name := "forgetAll", desc := "()V" } : Jvm.MethodName) ({ cls := "ReelOffice$Writer", name := "forgetAll", desc := "()V" } : Jvm.MethodName)) ∈ tb := mem_tb (List.mem_of_getElem? (i := 207) (by decide +kernel)) (by decide +kernel)
theorem k_208 : (Jvm.Cond.code ({ cls := "ReelOffice$Writer", name := "forgetAll", desc := "()V" } : Jvm.MethodName) prog_7_method_2_code (1 : Nat) (Option.none : Option Jvm.ClassFile.FieldType)) ∈ tb := mem_tb (List.mem_of_getElem? (i := 208) (by decide +kernel)) (by decide +kernel)
theorem k_213 : (Jvm.Cond.methodLink "ReelOffice" (118 : Nat) ({ cls := "ReelOffice$Writer", name := "hasPower", desc := "()Z" } : Jvm.MethodName)) ∈ tb := mem_tb (List.mem_of_getElem? (i := 213) (by decide +kernel)) (by decide +kernel)
theorem k_214 : (Jvm.Cond.instanceMethod ({ cls := "ReelOffice$Writer", name := "hasPower", desc := "()Z" } : Jvm.MethodName)) ∈ tb := mem_tb (List.mem_of_getElem? (i := 214) (by decide +kernel)) (by decide +kernel)
theorem k_215 : (Jvm.Cond.selects "ReelOffice$Writer" ({ cls := "ReelOffice$Writer", name := "hasPower", desc := "()Z" } : Jvm.MethodName) ({ cls := "ReelOffice$Writer", name := "hasPower", desc := "()Z" } : Jvm.MethodName)) ∈ tb := mem_tb (List.mem_of_getElem? (i := 215) (by decide +kernel)) (by decide +kernel)
theorem k_216 : (Jvm.Cond.code ({ cls := "ReelOffice$Writer", name := "hasPower", desc := "()Z" } : Jvm.MethodName) prog_7_method_4_code (1 : Nat) (Option.some Jvm.ClassFile.FieldType.boolean)) ∈ tb := mem_tb (List.mem_of_getElem? (i := 216) (by decide +kernel)) (by decide +kernel)
theorem k_217 : (Jvm.Cond.methodLink "ReelOffice" (134 : Nat) ({ cls := "ReelOffice$Writer", name := "planCut", desc := "(I)V" } : Jvm.MethodName)) ∈ tb := mem_tb (List.mem_of_getElem? (i := 217) (by decide +kernel)) (by decide +kernel)
theorem k_218 : (Jvm.Cond.instanceMethod ({ cls := "ReelOffice$Writer", name := "planCut", desc := "(I)V" } : Jvm.MethodName)) ∈ tb := mem_tb (List.mem_of_getElem? (i := 218) (by decide +kernel)) (by decide +kernel)
theorem k_219 : (Jvm.Cond.selects "ReelOffice$Writer" ({ cls := "ReelOffice$Writer", name := "planCut", desc := "(I)V" } : Jvm.MethodName) ({ cls := "ReelOffice$Writer", name := "planCut", desc := "(I)V" } : Jvm.MethodName)) ∈ tb := mem_tb (List.mem_of_getElem? (i := 219) (by decide +kernel)) (by decide +kernel)
theorem k_220 : (Jvm.Cond.code ({ cls := "ReelOffice$Writer", name := "planCut", desc := "(I)V" } : Jvm.MethodName) prog_7_method_6_code (2 : Nat) (Option.none : Option Jvm.ClassFile.FieldType)) ∈ tb := mem_tb (List.mem_of_getElem? (i := 220) (by decide +kernel)) (by decide +kernel)
theorem k_225 : (Jvm.Cond.methodLink "ReelOffice" (137 : Nat) ({ cls := "ReelOffice$Writer", name := "switchOn", desc := "()V" } : Jvm.MethodName)) ∈ tb := mem_tb (List.mem_of_getElem? (i := 225) (by decide +kernel)) (by decide +kernel)
theorem k_226 : (Jvm.Cond.instanceMethod ({ cls := "ReelOffice$Writer", name := "switchOn", desc := "()V" } : Jvm.MethodName)) ∈ tb := mem_tb (List.mem_of_getElem? (i := 226) (by decide +kernel)) (by decide +kernel)
theorem k_227 : (Jvm.Cond.selects "ReelOffice$Writer" ({ cls := "ReelOffice$Writer", name := "switchOn", desc := "()V" } : Jvm.MethodName) ({ cls := "ReelOffice$Writer", name := "switchOn", desc := "()V" } : Jvm.MethodName)) ∈ tb := mem_tb (List.mem_of_getElem? (i := 227) (by decide +kernel)) (by decide +kernel)
theorem k_228 : (Jvm.Cond.code ({ cls := "ReelOffice$Writer", name := "switchOn", desc := "()V" } : Jvm.MethodName) prog_7_method_5_code (1 : Nat) (Option.none : Option Jvm.ClassFile.FieldType)) ∈ tb := mem_tb (List.mem_of_getElem? (i := 228) (by decide +kernel)) (by decide +kernel)
theorem k_237 : (Jvm.Cond.methodLink "ReelOffice" (140 : Nat) ({ cls := "ReelOffice$Plan", name := "height", desc := "()I" } : Jvm.MethodName)) ∈ tb := mem_tb (List.mem_of_getElem? (i := 237) (by decide +kernel)) (by decide +kernel)
theorem k_238 : (Jvm.Cond.instanceMethod ({ cls := "ReelOffice$Plan", name := "height", desc := "()I" } : Jvm.MethodName)) ∈ tb := mem_tb (List.mem_of_getElem? (i := 238) (by decide +kernel)) (by decide +kernel)
theorem k_239 : (Jvm.Cond.selects "ReelOffice$Plan" ({ cls := "ReelOffice$Plan", name := "height", desc := "()I" } : Jvm.MethodName) ({ cls := "ReelOffice$Plan", name := "height", desc := "()I" } : Jvm.MethodName)) ∈ tb := mem_tb (List.mem_of_getElem? (i := 239) (by decide +kernel)) (by decide +kernel)
theorem k_240 : (Jvm.Cond.code ({ cls := "ReelOffice$Plan", name := "height", desc := "()I" } : Jvm.MethodName) prog_3_method_3_code (1 : Nat) (Option.some Jvm.ClassFile.FieldType.int)) ∈ tb := mem_tb (List.mem_of_getElem? (i := 240) (by decide +kernel)) (by decide +kernel)
theorem k_245 : (Jvm.Cond.methodLink "ReelOffice" (127 : Nat) ({ cls := "ReelOffice", name := "isTape", desc := "(I)Z" } : Jvm.MethodName)) ∈ tb := mem_tb (List.mem_of_getElem? (i := 245) (by decide +kernel)) (by decide +kernel)
theorem k_246 : (Jvm.Cond.static ({ cls := "ReelOffice", name := "isTape", desc := "(I)Z" } : Jvm.MethodName)) ∈ tb := mem_tb (List.mem_of_getElem? (i := 246) (by decide +kernel)) (by decide +kernel)
theorem k_247 : (Jvm.Cond.code ({ cls := "ReelOffice", name := "isTape", desc := "(I)Z" } : Jvm.MethodName) prog_1_method_23_code (1 : Nat) (Option.some Jvm.ClassFile.FieldType.boolean)) ∈ tb := mem_tb (List.mem_of_getElem? (i := 247) (by decide +kernel)) (by decide +kernel)
theorem k_248 : (Jvm.Cond.methodLink "ReelOffice" (143 : Nat) ({ cls := "ReelOffice$Tape", name := "runCount", desc := "()I" } : Jvm.MethodName)) ∈ tb := mem_tb (List.mem_of_getElem? (i := 248) (by decide +kernel)) (by decide +kernel)
theorem k_249 : (Jvm.Cond.instanceMethod ({ cls := "ReelOffice$Tape", name := "runCount", desc := "()I" } : Jvm.MethodName)) ∈ tb := mem_tb (List.mem_of_getElem? (i := 249) (by decide +kernel)) (by decide +kernel)
theorem k_250 : (Jvm.Cond.selects "ReelOffice$Tape" ({ cls := "ReelOffice$Tape", name := "runCount", desc := "()I" } : Jvm.MethodName) ({ cls := "ReelOffice$Tape", name := "runCount", desc := "()I" } : Jvm.MethodName)) ∈ tb := mem_tb (List.mem_of_getElem? (i := 250) (by decide +kernel)) (by decide +kernel)
theorem k_251 : (Jvm.Cond.code ({ cls := "ReelOffice$Tape", name := "runCount", desc := "()I" } : Jvm.MethodName) prog_6_method_3_code (1 : Nat) (Option.some Jvm.ClassFile.FieldType.int)) ∈ tb := mem_tb (List.mem_of_getElem? (i := 251) (by decide +kernel)) (by decide +kernel)
theorem k_256 : (Jvm.Cond.methodLink "ReelOffice" (146 : Nat) ({ cls := "ReelOffice$Tape", name := "dummyCount", desc := "()I" } : Jvm.MethodName)) ∈ tb := mem_tb (List.mem_of_getElem? (i := 256) (by decide +kernel)) (by decide +kernel)
theorem k_257 : (Jvm.Cond.instanceMethod ({ cls := "ReelOffice$Tape", name := "dummyCount", desc := "()I" } : Jvm.MethodName)) ∈ tb := mem_tb (List.mem_of_getElem? (i := 257) (by decide +kernel)) (by decide +kernel)
theorem k_258 : (Jvm.Cond.selects "ReelOffice$Tape" ({ cls := "ReelOffice$Tape", name := "dummyCount", desc := "()I" } : Jvm.MethodName) ({ cls := "ReelOffice$Tape", name := "dummyCount", desc := "()I" } : Jvm.MethodName)) ∈ tb := mem_tb (List.mem_of_getElem? (i := 258) (by decide +kernel)) (by decide +kernel)
theorem k_259 : (Jvm.Cond.code ({ cls := "ReelOffice$Tape", name := "dummyCount", desc := "()I" } : Jvm.MethodName) prog_6_method_4_code (1 : Nat) (Option.some Jvm.ClassFile.FieldType.int)) ∈ tb := mem_tb (List.mem_of_getElem? (i := 259) (by decide +kernel)) (by decide +kernel)
theorem k_268 : (Jvm.Cond.methodLink "ReelOffice" (149 : Nat) ({ cls := "ReelOffice$Tape", name := "runLength", desc := "(I)I" } : Jvm.MethodName)) ∈ tb := mem_tb (List.mem_of_getElem? (i := 268) (by decide +kernel)) (by decide +kernel)
theorem k_269 : (Jvm.Cond.instanceMethod ({ cls := "ReelOffice$Tape", name := "runLength", desc := "(I)I" } : Jvm.MethodName)) ∈ tb := mem_tb (List.mem_of_getElem? (i := 269) (by decide +kernel)) (by decide +kernel)
theorem k_270 : (Jvm.Cond.selects "ReelOffice$Tape" ({ cls := "ReelOffice$Tape", name := "runLength", desc := "(I)I" } : Jvm.MethodName) ({ cls := "ReelOffice$Tape", name := "runLength", desc := "(I)I" } : Jvm.MethodName)) ∈ tb := mem_tb (List.mem_of_getElem? (i := 270) (by decide +kernel)) (by decide +kernel)
theorem k_271 : (Jvm.Cond.code ({ cls := "ReelOffice$Tape", name := "runLength", desc := "(I)I" } : Jvm.MethodName) prog_6_method_10_code (2 : Nat) (Option.some Jvm.ClassFile.FieldType.int)) ∈ tb := mem_tb (List.mem_of_getElem? (i := 271) (by decide +kernel)) (by decide +kernel)
theorem k_276 : (Jvm.Cond.methodLink "ReelOffice" (152 : Nat) ({ cls := "ReelOffice$Tape", name := "cardOfRun", desc := "(II)I" } : Jvm.MethodName)) ∈ tb := mem_tb (List.mem_of_getElem? (i := 276) (by decide +kernel)) (by decide +kernel)
theorem k_277 : (Jvm.Cond.instanceMethod ({ cls := "ReelOffice$Tape", name := "cardOfRun", desc := "(II)I" } : Jvm.MethodName)) ∈ tb := mem_tb (List.mem_of_getElem? (i := 277) (by decide +kernel)) (by decide +kernel)
theorem k_278 : (Jvm.Cond.selects "ReelOffice$Tape" ({ cls := "ReelOffice$Tape", name := "cardOfRun", desc := "(II)I" } : Jvm.MethodName) ({ cls := "ReelOffice$Tape", name := "cardOfRun", desc := "(II)I" } : Jvm.MethodName)) ∈ tb := mem_tb (List.mem_of_getElem? (i := 278) (by decide +kernel)) (by decide +kernel)
theorem k_279 : (Jvm.Cond.code ({ cls := "ReelOffice$Tape", name := "cardOfRun", desc := "(II)I" } : Jvm.MethodName) prog_6_method_11_code (5 : Nat) (Option.some Jvm.ClassFile.FieldType.int)) ∈ tb := mem_tb (List.mem_of_getElem? (i := 279) (by decide +kernel)) (by decide +kernel)
theorem k_280 : (Jvm.Cond.methodLink "ReelOffice$Tape" (31 : Nat) ({ cls := "ReelOffice$Tape", name := "runLength", desc := "(I)I" } : Jvm.MethodName)) ∈ tb := mem_tb (List.mem_of_getElem? (i := 280) (by decide +kernel)) (by decide +kernel)
theorem k_285 : (Jvm.Cond.methodLink "ReelOffice" (155 : Nat) ({ cls := "ReelOffice$Store", name := "holds", desc := "(I)Z" } : Jvm.MethodName)) ∈ tb := mem_tb (List.mem_of_getElem? (i := 285) (by decide +kernel)) (by decide +kernel)
theorem k_286 : (Jvm.Cond.instanceMethod ({ cls := "ReelOffice$Store", name := "holds", desc := "(I)Z" } : Jvm.MethodName)) ∈ tb := mem_tb (List.mem_of_getElem? (i := 286) (by decide +kernel)) (by decide +kernel)
theorem k_287 : (Jvm.Cond.selects "ReelOffice$Store" ({ cls := "ReelOffice$Store", name := "holds", desc := "(I)Z" } : Jvm.MethodName) ({ cls := "ReelOffice$Store", name := "holds", desc := "(I)Z" } : Jvm.MethodName)) ∈ tb := mem_tb (List.mem_of_getElem? (i := 287) (by decide +kernel)) (by decide +kernel)
theorem k_288 : (Jvm.Cond.code ({ cls := "ReelOffice$Store", name := "holds", desc := "(I)Z" } : Jvm.MethodName) prog_5_method_6_code (3 : Nat) (Option.some Jvm.ClassFile.FieldType.boolean)) ∈ tb := mem_tb (List.mem_of_getElem? (i := 288) (by decide +kernel)) (by decide +kernel)
theorem k_293 : (Jvm.Cond.methodLink "ReelOffice" (158 : Nat) ({ cls := "ReelOffice$Writer", name := "total", desc := "()I" } : Jvm.MethodName)) ∈ tb := mem_tb (List.mem_of_getElem? (i := 293) (by decide +kernel)) (by decide +kernel)
theorem k_294 : (Jvm.Cond.instanceMethod ({ cls := "ReelOffice$Writer", name := "total", desc := "()I" } : Jvm.MethodName)) ∈ tb := mem_tb (List.mem_of_getElem? (i := 294) (by decide +kernel)) (by decide +kernel)
theorem k_295 : (Jvm.Cond.selects "ReelOffice$Writer" ({ cls := "ReelOffice$Writer", name := "total", desc := "()I" } : Jvm.MethodName) ({ cls := "ReelOffice$Writer", name := "total", desc := "()I" } : Jvm.MethodName)) ∈ tb := mem_tb (List.mem_of_getElem? (i := 295) (by decide +kernel)) (by decide +kernel)
theorem k_296 : (Jvm.Cond.code ({ cls := "ReelOffice$Writer", name := "total", desc := "()I" } : Jvm.MethodName) prog_7_method_3_code (1 : Nat) (Option.some Jvm.ClassFile.FieldType.int)) ∈ tb := mem_tb (List.mem_of_getElem? (i := 296) (by decide +kernel)) (by decide +kernel)
theorem k_305 : (Jvm.Cond.methodLink "ReelOffice" (161 : Nat) ({ cls := "ReelOffice", name := "tapeInRole", desc := "(I)LReelOffice$Tape;" } : Jvm.MethodName)) ∈ tb := mem_tb (List.mem_of_getElem? (i := 305) (by decide +kernel)) (by decide +kernel)
theorem k_307 : (Jvm.Cond.instanceMethod ({ cls := "ReelOffice", name := "tapeInRole", desc := "(I)LReelOffice$Tape;" } : Jvm.MethodName)) ∈ tb := mem_tb (List.mem_of_getElem? (i := 307) (by decide +kernel)) (by decide +kernel)
theorem k_308 : (Jvm.Cond.code ({ cls := "ReelOffice", name := "tapeInRole", desc := "(I)LReelOffice$Tape;" } : Jvm.MethodName) prog_1_method_25_code (2 : Nat) (Option.some (Jvm.ClassFile.FieldType.object "ReelOffice$Tape"))) ∈ tb := mem_tb (List.mem_of_getElem? (i := 308) (by decide +kernel)) (by decide +kernel)
theorem k_313 : (Jvm.Cond.methodLink "ReelOffice" (165 : Nat) ({ cls := "ReelOffice$Deck", name := "hasCard", desc := "(I)Z" } : Jvm.MethodName)) ∈ tb := mem_tb (List.mem_of_getElem? (i := 313) (by decide +kernel)) (by decide +kernel)
theorem k_314 : (Jvm.Cond.instanceMethod ({ cls := "ReelOffice$Deck", name := "hasCard", desc := "(I)Z" } : Jvm.MethodName)) ∈ tb := mem_tb (List.mem_of_getElem? (i := 314) (by decide +kernel)) (by decide +kernel)
theorem k_315 : (Jvm.Cond.selects "ReelOffice$Deck" ({ cls := "ReelOffice$Deck", name := "hasCard", desc := "(I)Z" } : Jvm.MethodName) ({ cls := "ReelOffice$Deck", name := "hasCard", desc := "(I)Z" } : Jvm.MethodName)) ∈ tb := mem_tb (List.mem_of_getElem? (i := 315) (by decide +kernel)) (by decide +kernel)
theorem k_316 : (Jvm.Cond.code ({ cls := "ReelOffice$Deck", name := "hasCard", desc := "(I)Z" } : Jvm.MethodName) prog_2_method_6_code (2 : Nat) (Option.some Jvm.ClassFile.FieldType.boolean)) ∈ tb := mem_tb (List.mem_of_getElem? (i := 316) (by decide +kernel)) (by decide +kernel)
theorem k_317 : (Jvm.Cond.methodLink "ReelOffice" (168 : Nat) ({ cls := "ReelOffice$Deck", name := "comesBefore", desc := "(II)Z" } : Jvm.MethodName)) ∈ tb := mem_tb (List.mem_of_getElem? (i := 317) (by decide +kernel)) (by decide +kernel)
theorem k_318 : (Jvm.Cond.instanceMethod ({ cls := "ReelOffice$Deck", name := "comesBefore", desc := "(II)Z" } : Jvm.MethodName)) ∈ tb := mem_tb (List.mem_of_getElem? (i := 318) (by decide +kernel)) (by decide +kernel)
theorem k_319 : (Jvm.Cond.selects "ReelOffice$Deck" ({ cls := "ReelOffice$Deck", name := "comesBefore", desc := "(II)Z" } : Jvm.MethodName) ({ cls := "ReelOffice$Deck", name := "comesBefore", desc := "(II)Z" } : Jvm.MethodName)) ∈ tb := mem_tb (List.mem_of_getElem? (i := 319) (by decide +kernel)) (by decide +kernel)
theorem k_320 : (Jvm.Cond.code ({ cls := "ReelOffice$Deck", name := "comesBefore", desc := "(II)Z" } : Jvm.MethodName) prog_2_method_10_code (8 : Nat) (Option.some Jvm.ClassFile.FieldType.boolean)) ∈ tb := mem_tb (List.mem_of_getElem? (i := 320) (by decide +kernel)) (by decide +kernel)
theorem k_321 : (Jvm.Cond.methodLink "ReelOffice$Deck" (44 : Nat) ({ cls := "ReelOffice$Deck", name := "value", desc := "(II)I" } : Jvm.MethodName)) ∈ tb := mem_tb (List.mem_of_getElem? (i := 321) (by decide +kernel)) (by decide +kernel)
theorem k_322 : (Jvm.Cond.instanceMethod ({ cls := "ReelOffice$Deck", name := "value", desc := "(II)I" } : Jvm.MethodName)) ∈ tb := mem_tb (List.mem_of_getElem? (i := 322) (by decide +kernel)) (by decide +kernel)
theorem k_323 : (Jvm.Cond.selects "ReelOffice$Deck" ({ cls := "ReelOffice$Deck", name := "value", desc := "(II)I" } : Jvm.MethodName) ({ cls := "ReelOffice$Deck", name := "value", desc := "(II)I" } : Jvm.MethodName)) ∈ tb := mem_tb (List.mem_of_getElem? (i := 323) (by decide +kernel)) (by decide +kernel)
theorem k_324 : (Jvm.Cond.code ({ cls := "ReelOffice$Deck", name := "value", desc := "(II)I" } : Jvm.MethodName) prog_2_method_9_code (3 : Nat) (Option.some Jvm.ClassFile.FieldType.int)) ∈ tb := mem_tb (List.mem_of_getElem? (i := 324) (by decide +kernel)) (by decide +kernel)
theorem k_325 : (Jvm.Cond.methodLink "ReelOffice$Deck" (37 : Nat) ({ cls := "ReelOffice$Deck", name := "hasCard", desc := "(I)Z" } : Jvm.MethodName)) ∈ tb := mem_tb (List.mem_of_getElem? (i := 325) (by decide +kernel)) (by decide +kernel)
theorem k_327 : (Jvm.Cond.static ({ cls := "ReelOffice", name := "isField", desc := "(I)Z" } : Jvm.MethodName)) ∈ tb := mem_tb (List.mem_of_getElem? (i := 327) (by decide +kernel)) (by decide +kernel)
theorem k_328 : (Jvm.Cond.code ({ cls := "ReelOffice", name := "isField", desc := "(I)Z" } : Jvm.MethodName) prog_1_method_24_code (1 : Nat) (Option.some Jvm.ClassFile.FieldType.boolean)) ∈ tb := mem_tb (List.mem_of_getElem? (i := 328) (by decide +kernel)) (by decide +kernel)
theorem k_329 : (Jvm.Cond.methodLink "ReelOffice$Deck" (48 : Nat) ({ cls := "ReelOffice$Deck", name := "rank", desc := "(II)J" } : Jvm.MethodName)) ∈ tb := mem_tb (List.mem_of_getElem? (i := 329) (by decide +kernel)) (by decide +kernel)
theorem k_330 : (Jvm.Cond.static ({ cls := "ReelOffice$Deck", name := "rank", desc := "(II)J" } : Jvm.MethodName)) ∈ tb := mem_tb (List.mem_of_getElem? (i := 330) (by decide +kernel)) (by decide +kernel)
theorem k_331 : (Jvm.Cond.code ({ cls := "ReelOffice$Deck", name := "rank", desc := "(II)J" } : Jvm.MethodName) prog_2_method_11_code (4 : Nat) (Option.some Jvm.ClassFile.FieldType.long)) ∈ tb := mem_tb (List.mem_of_getElem? (i := 331) (by decide +kernel)) (by decide +kernel)
theorem k_332 : (Jvm.Cond.constantLong "ReelOffice$Deck" (52 : Nat) (4294967295 : Int64)) ∈ tb := mem_tb (List.mem_of_getElem? (i := 332) (by decide +kernel)) (by decide +kernel)
theorem k_337 : (Jvm.Cond.methodLink "ReelOffice" (172 : Nat) ({ cls := "ReelOffice$Deck", name := "value", desc := "(II)I" } : Jvm.MethodName)) ∈ tb := mem_tb (List.mem_of_getElem? (i := 337) (by decide +kernel)) (by decide +kernel)
theorem k_349 : (Jvm.Cond.methodLink "ReelOffice" (73 : Nat) ({ cls := "ReelOffice$Deck", name := "isFull", desc := "()Z" } : Jvm.MethodName)) ∈ tb := mem_tb (List.mem_of_getElem? (i := 349) (by decide +kernel)) (by decide +kernel)
theorem k_350 : (Jvm.Cond.instanceMethod ({ cls := "ReelOffice$Deck", name := "isFull", desc := "()Z" } : Jvm.MethodName)) ∈ tb := mem_tb (List.mem_of_getElem? (i := 350) (by decide +kernel)) (by decide +kernel)
theorem k_351 : (Jvm.Cond.selects "ReelOffice$Deck" ({ cls := "ReelOffice$Deck", name := "isFull", desc := "()Z" } : Jvm.MethodName) ({ cls := "ReelOffice$Deck", name := "isFull", desc := "()Z" } : Jvm.MethodName)) ∈ tb := mem_tb (List.mem_of_getElem? (i := 351) (by decide +kernel)) (by decide +kernel)
theorem k_352 : (Jvm.Cond.code ({ cls := "ReelOffice$Deck", name := "isFull", desc := "()Z" } : Jvm.MethodName) prog_2_method_4_code (1 : Nat) (Option.some Jvm.ClassFile.FieldType.boolean)) ∈ tb := mem_tb (List.mem_of_getElem? (i := 352) (by decide +kernel)) (by decide +kernel)
theorem k_353 : (Jvm.Cond.classLink "ReelOffice" (77 : Nat) "java/lang/IllegalStateException") ∈ tb := mem_tb (List.mem_of_getElem? (i := 353) (by decide +kernel)) (by decide +kernel)
theorem k_415 : (Jvm.Cond.methodLink "ReelOffice" (80 : Nat) ({ cls := "ReelOffice$Deck", name := "addCard", desc := "(II)I" } : Jvm.MethodName)) ∈ tb := mem_tb (List.mem_of_getElem? (i := 415) (by decide +kernel)) (by decide +kernel)
theorem k_416 : (Jvm.Cond.instanceMethod ({ cls := "ReelOffice$Deck", name := "addCard", desc := "(II)I" } : Jvm.MethodName)) ∈ tb := mem_tb (List.mem_of_getElem? (i := 416) (by decide +kernel)) (by decide +kernel)
theorem k_417 : (Jvm.Cond.selects "ReelOffice$Deck" ({ cls := "ReelOffice$Deck", name := "addCard", desc := "(II)I" } : Jvm.MethodName) ({ cls := "ReelOffice$Deck", name := "addCard", desc := "(II)I" } : Jvm.MethodName)) ∈ tb := mem_tb (List.mem_of_getElem? (i := 417) (by decide +kernel)) (by decide +kernel)
theorem k_418 : (Jvm.Cond.code ({ cls := "ReelOffice$Deck", name := "addCard", desc := "(II)I" } : Jvm.MethodName) prog_2_method_7_code (3 : Nat) (Option.some Jvm.ClassFile.FieldType.int)) ∈ tb := mem_tb (List.mem_of_getElem? (i := 418) (by decide +kernel)) (by decide +kernel)
theorem k_419 : (Jvm.Cond.methodLink "ReelOffice$Deck" (30 : Nat) ({ cls := "ReelOffice$Deck", name := "isFull", desc := "()Z" } : Jvm.MethodName)) ∈ tb := mem_tb (List.mem_of_getElem? (i := 419) (by decide +kernel)) (by decide +kernel)
theorem k_428 : (Jvm.Cond.methodLink "ReelOffice" (84 : Nat) ({ cls := "ReelOffice", name := "isField", desc := "(I)Z" } : Jvm.MethodName)) ∈ tb := mem_tb (List.mem_of_getElem? (i := 428) (by decide +kernel)) (by decide +kernel)
theorem k_429 : (Jvm.Cond.classLink "ReelOffice" (88 : Nat) "java/lang/IllegalArgumentException") ∈ tb := mem_tb (List.mem_of_getElem? (i := 429) (by decide +kernel)) (by decide +kernel)
theorem k_444 : (Jvm.Cond.methodLink "ReelOffice" (91 : Nat) ({ cls := "ReelOffice$Deck", name := "keyIsFull", desc := "()Z" } : Jvm.MethodName)) ∈ tb := mem_tb (List.mem_of_getElem? (i := 444) (by decide +kernel)) (by decide +kernel)
theorem k_445 : (Jvm.Cond.instanceMethod ({ cls := "ReelOffice$Deck", name := "keyIsFull", desc := "()Z" } : Jvm.MethodName)) ∈ tb := mem_tb (List.mem_of_getElem? (i := 445) (by decide +kernel)) (by decide +kernel)
theorem k_446 : (Jvm.Cond.selects "ReelOffice$Deck" ({ cls := "ReelOffice$Deck", name := "keyIsFull", desc := "()Z" } : Jvm.MethodName) ({ cls := "ReelOffice$Deck", name := "keyIsFull", desc := "()Z" } : Jvm.MethodName)) ∈ tb := mem_tb (List.mem_of_getElem? (i := 446) (by decide +kernel)) (by decide +kernel)
theorem k_447 : (Jvm.Cond.code ({ cls := "ReelOffice$Deck", name := "keyIsFull", desc := "()Z" } : Jvm.MethodName) prog_2_method_5_code (1 : Nat) (Option.some Jvm.ClassFile.FieldType.boolean)) ∈ tb := mem_tb (List.mem_of_getElem? (i := 447) (by decide +kernel)) (by decide +kernel)
theorem k_448 : (Jvm.Cond.methodLink "ReelOffice" (94 : Nat) ({ cls := "ReelOffice$Deck", name := "addPart", desc := "(II)I" } : Jvm.MethodName)) ∈ tb := mem_tb (List.mem_of_getElem? (i := 448) (by decide +kernel)) (by decide +kernel)
theorem k_449 : (Jvm.Cond.instanceMethod ({ cls := "ReelOffice$Deck", name := "addPart", desc := "(II)I" } : Jvm.MethodName)) ∈ tb := mem_tb (List.mem_of_getElem? (i := 449) (by decide +kernel)) (by decide +kernel)
theorem k_450 : (Jvm.Cond.selects "ReelOffice$Deck" ({ cls := "ReelOffice$Deck", name := "addPart", desc := "(II)I" } : Jvm.MethodName) ({ cls := "ReelOffice$Deck", name := "addPart", desc := "(II)I" } : Jvm.MethodName)) ∈ tb := mem_tb (List.mem_of_getElem? (i := 450) (by decide +kernel)) (by decide +kernel)
theorem k_451 : (Jvm.Cond.code ({ cls := "ReelOffice$Deck", name := "addPart", desc := "(II)I" } : Jvm.MethodName) prog_2_method_8_code (3 : Nat) (Option.some Jvm.ClassFile.FieldType.int)) ∈ tb := mem_tb (List.mem_of_getElem? (i := 451) (by decide +kernel)) (by decide +kernel)
theorem k_452 : (Jvm.Cond.methodLink "ReelOffice$Deck" (34 : Nat) ({ cls := "ReelOffice$Deck", name := "keyIsFull", desc := "()Z" } : Jvm.MethodName)) ∈ tb := mem_tb (List.mem_of_getElem? (i := 452) (by decide +kernel)) (by decide +kernel)
theorem k_460 : (Jvm.Cond.methodLink "ReelOffice" (97 : Nat) ({ cls := "ReelOffice$Plan", name := "begin", desc := "([LReelOffice$Tape;)V" } : Jvm.MethodName)) ∈ tb := mem_tb (List.mem_of_getElem? (i := 460) (by decide +kernel)) (by decide +kernel)
theorem k_461 : (Jvm.Cond.instanceMethod ({ cls := "ReelOffice$Plan", name := "begin", desc := "([LReelOffice$Tape;)V" } : Jvm.MethodName)) ∈ tb := mem_tb (List.mem_of_getElem? (i := 461) (by decide +kernel)) (by decide +kernel)
theorem k_462 : (Jvm.Cond.selects "ReelOffice$Plan" ({ cls := "ReelOffice$Plan", name := "begin", desc := "([LReelOffice$Tape;)V" } : Jvm.MethodName) ({ cls := "ReelOffice$Plan", name := "begin", desc := "([LReelOffice$Tape;)V" } : Jvm.MethodName)) ∈ tb := mem_tb (List.mem_of_getElem? (i := 462) (by decide +kernel)) (by decide +kernel)
theorem k_463 : (Jvm.Cond.code ({ cls := "ReelOffice$Plan", name := "begin", desc := "([LReelOffice$Tape;)V" } : Jvm.MethodName) prog_3_method_2_code (3 : Nat) (Option.none : Option Jvm.ClassFile.FieldType)) ∈ tb := mem_tb (List.mem_of_getElem? (i := 463) (by decide +kernel)) (by decide +kernel)
theorem k_464 : (Jvm.Cond.methodLink "ReelOffice$Plan" (22 : Nat) ({ cls := "ReelOffice$Tape", name := "addDummies", desc := "(I)V" } : Jvm.MethodName)) ∈ tb := mem_tb (List.mem_of_getElem? (i := 464) (by decide +kernel)) (by decide +kernel)
theorem k_465 : (Jvm.Cond.instanceMethod ({ cls := "ReelOffice$Tape", name := "addDummies", desc := "(I)V" } : Jvm.MethodName)) ∈ tb := mem_tb (List.mem_of_getElem? (i := 465) (by decide +kernel)) (by decide +kernel)
theorem k_466 : (Jvm.Cond.selects "ReelOffice$Tape" ({ cls := "ReelOffice$Tape", name := "addDummies", desc := "(I)V" } : Jvm.MethodName) ({ cls := "ReelOffice$Tape", name := "addDummies", desc := "(I)V" } : Jvm.MethodName)) ∈ tb := mem_tb (List.mem_of_getElem? (i := 466) (by decide +kernel)) (by decide +kernel)
theorem k_467 : (Jvm.Cond.code ({ cls := "ReelOffice$Tape", name := "addDummies", desc := "(I)V" } : Jvm.MethodName) prog_6_method_7_code (2 : Nat) (Option.none : Option Jvm.ClassFile.FieldType)) ∈ tb := mem_tb (List.mem_of_getElem? (i := 467) (by decide +kernel)) (by decide +kernel)
theorem k_468 : (Jvm.Cond.methodLink "ReelOffice" (101 : Nat) ({ cls := "ReelOffice$Store", name := "fillFrom", desc := "(LReelOffice$Deck;)V" } : Jvm.MethodName)) ∈ tb := mem_tb (List.mem_of_getElem? (i := 468) (by decide +kernel)) (by decide +kernel)
theorem k_469 : (Jvm.Cond.instanceMethod ({ cls := "ReelOffice$Store", name := "fillFrom", desc := "(LReelOffice$Deck;)V" } : Jvm.MethodName)) ∈ tb := mem_tb (List.mem_of_getElem? (i := 469) (by decide +kernel)) (by decide +kernel)
theorem k_470 : (Jvm.Cond.selects "ReelOffice$Store" ({ cls := "ReelOffice$Store", name := "fillFrom", desc := "(LReelOffice$Deck;)V" } : Jvm.MethodName) ({ cls := "ReelOffice$Store", name := "fillFrom", desc := "(LReelOffice$Deck;)V" } : Jvm.MethodName)) ∈ tb := mem_tb (List.mem_of_getElem? (i := 470) (by decide +kernel)) (by decide +kernel)
theorem k_471 : (Jvm.Cond.code ({ cls := "ReelOffice$Store", name := "fillFrom", desc := "(LReelOffice$Deck;)V" } : Jvm.MethodName) prog_5_method_4_code (3 : Nat) (Option.none : Option Jvm.ClassFile.FieldType)) ∈ tb := mem_tb (List.mem_of_getElem? (i := 471) (by decide +kernel)) (by decide +kernel)
theorem k_472 : (Jvm.Cond.methodLink "ReelOffice$Store" (29 : Nat) ({ cls := "ReelOffice$Deck", name := "cardCount", desc := "()I" } : Jvm.MethodName)) ∈ tb := mem_tb (List.mem_of_getElem? (i := 472) (by decide +kernel)) (by decide +kernel)
theorem k_473 : (Jvm.Cond.methodLink "ReelOffice$Store" (35 : Nat) ({ cls := "java/lang/Math", name := "min", desc := "(II)I" } : Jvm.MethodName)) ∈ tb := mem_tb (List.mem_of_getElem? (i := 473) (by decide +kernel)) (by decide +kernel)
theorem k_474 : (Jvm.Cond.static ({ cls := "java/lang/Math", name := "min", desc := "(II)I" } : Jvm.MethodName)) ∈ tb := mem_tb (List.mem_of_getElem? (i := 474) (by decide +kernel)) (by decide +kernel)
theorem k_475 : (Jvm.Cond.code ({ cls := "java/lang/Math", name := "min", desc := "(II)I" } : Jvm.MethodName) prog_13_method_69_code (2 : Nat) (Option.some Jvm.ClassFile.FieldType.int)) ∈ tb := mem_tb (List.mem_of_getElem? (i := 475) (by decide +kernel)) (by decide +kernel)
theorem k_476 : (Jvm.Cond.methodLink "ReelOffice" (105 : Nat) ({ cls := "ReelOffice$Store", name := "isEmpty", desc := "()Z" } : Jvm.MethodName)) ∈ tb := mem_tb (List.mem_of_getElem? (i := 476) (by decide +kernel)) (by decide +kernel)
theorem k_477 : (Jvm.Cond.instanceMethod ({ cls := "ReelOffice$Store", name := "isEmpty", desc := "()Z" } : Jvm.MethodName)) ∈ tb := mem_tb (List.mem_of_getElem? (i := 477) (by decide +kernel)) (by decide +kernel)
theorem k_478 : (Jvm.Cond.selects "ReelOffice$Store" ({ cls := "ReelOffice$Store", name := "isEmpty", desc := "()Z" } : Jvm.MethodName) ({ cls := "ReelOffice$Store", name := "isEmpty", desc := "()Z" } : Jvm.MethodName)) ∈ tb := mem_tb (List.mem_of_getElem? (i := 478) (by decide +kernel)) (by decide +kernel)
theorem k_479 : (Jvm.Cond.code ({ cls := "ReelOffice$Store", name := "isEmpty", desc := "()Z" } : Jvm.MethodName) prog_5_method_3_code (1 : Nat) (Option.some Jvm.ClassFile.FieldType.boolean)) ∈ tb := mem_tb (List.mem_of_getElem? (i := 479) (by decide +kernel)) (by decide +kernel)
theorem k_487 : (Jvm.Cond.methodLink "ReelOffice" (121 : Nat) ({ cls := "ReelOffice", name := "layRun", desc := "()Z" } : Jvm.MethodName)) ∈ tb := mem_tb (List.mem_of_getElem? (i := 487) (by decide +kernel)) (by decide +kernel)
theorem k_489 : (Jvm.Cond.instanceMethod ({ cls := "ReelOffice", name := "layRun", desc := "()Z" } : Jvm.MethodName)) ∈ tb := mem_tb (List.mem_of_getElem? (i := 489) (by decide +kernel)) (by decide +kernel)
theorem k_490 : (Jvm.Cond.code ({ cls := "ReelOffice", name := "layRun", desc := "()Z" } : Jvm.MethodName) prog_1_method_26_code (2 : Nat) (Option.some Jvm.ClassFile.FieldType.boolean)) ∈ tb := mem_tb (List.mem_of_getElem? (i := 490) (by decide +kernel)) (by decide +kernel)
theorem k_491 : (Jvm.Cond.methodLink "ReelOffice" (175 : Nat) ({ cls := "ReelOffice$Store", name := "copyFrom", desc := "(LReelOffice$Store;)V" } : Jvm.MethodName)) ∈ tb := mem_tb (List.mem_of_getElem? (i := 491) (by decide +kernel)) (by decide +kernel)
theorem k_492 : (Jvm.Cond.instanceMethod ({ cls := "ReelOffice$Store", name := "copyFrom", desc := "(LReelOffice$Store;)V" } : Jvm.MethodName)) ∈ tb := mem_tb (List.mem_of_getElem? (i := 492) (by decide +kernel)) (by decide +kernel)
theorem k_493 : (Jvm.Cond.selects "ReelOffice$Store" ({ cls := "ReelOffice$Store", name := "copyFrom", desc := "(LReelOffice$Store;)V" } : Jvm.MethodName) ({ cls := "ReelOffice$Store", name := "copyFrom", desc := "(LReelOffice$Store;)V" } : Jvm.MethodName)) ∈ tb := mem_tb (List.mem_of_getElem? (i := 493) (by decide +kernel)) (by decide +kernel)
theorem k_494 : (Jvm.Cond.code ({ cls := "ReelOffice$Store", name := "copyFrom", desc := "(LReelOffice$Store;)V" } : Jvm.MethodName) prog_5_method_5_code (3 : Nat) (Option.none : Option Jvm.ClassFile.FieldType)) ∈ tb := mem_tb (List.mem_of_getElem? (i := 494) (by decide +kernel)) (by decide +kernel)
theorem k_495 : (Jvm.Cond.methodLink "ReelOffice" (179 : Nat) ({ cls := "ReelOffice", name := "writeRunFromTrial", desc := "()Z" } : Jvm.MethodName)) ∈ tb := mem_tb (List.mem_of_getElem? (i := 495) (by decide +kernel)) (by decide +kernel)
theorem k_497 : (Jvm.Cond.instanceMethod ({ cls := "ReelOffice", name := "writeRunFromTrial", desc := "()Z" } : Jvm.MethodName)) ∈ tb := mem_tb (List.mem_of_getElem? (i := 497) (by decide +kernel)) (by decide +kernel)
theorem k_498 : (Jvm.Cond.code ({ cls := "ReelOffice", name := "writeRunFromTrial", desc := "()Z" } : Jvm.MethodName) prog_1_method_27_code (3 : Nat) (Option.some Jvm.ClassFile.FieldType.boolean)) ∈ tb := mem_tb (List.mem_of_getElem? (i := 498) (by decide +kernel)) (by decide +kernel)
theorem k_499 : (Jvm.Cond.methodLink "ReelOffice" (196 : Nat) ({ cls := "ReelOffice$Row", name := "forgetAll", desc := "()V" } : Jvm.MethodName)) ∈ tb := mem_tb (List.mem_of_getElem? (i := 499) (by decide +kernel)) (by decide +kernel)
theorem k_500 : (Jvm.Cond.instanceMethod ({ cls := "ReelOffice$Row", name := "forgetAll", desc := "()V" } : Jvm.MethodName)) ∈ tb := mem_tb (List.mem_of_getElem? (i := 500) (by decide +kernel)) (by decide +kernel)
theorem k_501 : (Jvm.Cond.selects "ReelOffice$Row" ({ cls := "ReelOffice$Row", name := "forgetAll", desc := "()V" } : Jvm.MethodName) ({ cls := "ReelOffice$Row", name := "forgetAll", desc := "()V" } : Jvm.MethodName)) ∈ tb := mem_tb (List.mem_of_getElem? (i := 501) (by decide +kernel)) (by decide +kernel)
theorem k_502 : (Jvm.Cond.code ({ cls := "ReelOffice$Row", name := "forgetAll", desc := "()V" } : Jvm.MethodName) prog_4_method_2_code (1 : Nat) (Option.none : Option Jvm.ClassFile.FieldType)) ∈ tb := mem_tb (List.mem_of_getElem? (i := 502) (by decide +kernel)) (by decide +kernel)
theorem k_503 : (Jvm.Cond.methodLink "ReelOffice" (197 : Nat) ({ cls := "ReelOffice$Store", name := "slotOfFirst", desc := "(LReelOffice$Deck;)I" } : Jvm.MethodName)) ∈ tb := mem_tb (List.mem_of_getElem? (i := 503) (by decide +kernel)) (by decide +kernel)
theorem k_504 : (Jvm.Cond.instanceMethod ({ cls := "ReelOffice$Store", name := "slotOfFirst", desc := "(LReelOffice$Deck;)I" } : Jvm.MethodName)) ∈ tb := mem_tb (List.mem_of_getElem? (i := 504) (by decide +kernel)) (by decide +kernel)
theorem k_505 : (Jvm.Cond.selects "ReelOffice$Store" ({ cls := "ReelOffice$Store", name := "slotOfFirst", desc := "(LReelOffice$Deck;)I" } : Jvm.MethodName) ({ cls := "ReelOffice$Store", name := "slotOfFirst", desc := "(LReelOffice$Deck;)I" } : Jvm.MethodName)) ∈ tb := mem_tb (List.mem_of_getElem? (i := 505) (by decide +kernel)) (by decide +kernel)
theorem k_506 : (Jvm.Cond.code ({ cls := "ReelOffice$Store", name := "slotOfFirst", desc := "(LReelOffice$Deck;)I" } : Jvm.MethodName) prog_5_method_8_code (4 : Nat) (Option.some Jvm.ClassFile.FieldType.int)) ∈ tb := mem_tb (List.mem_of_getElem? (i := 506) (by decide +kernel)) (by decide +kernel)
theorem k_507 : (Jvm.Cond.methodLink "ReelOffice$Store" (41 : Nat) ({ cls := "ReelOffice$Deck", name := "comesBefore", desc := "(II)Z" } : Jvm.MethodName)) ∈ tb := mem_tb (List.mem_of_getElem? (i := 507) (by decide +kernel)) (by decide +kernel)
theorem k_508 : (Jvm.Cond.methodLink "ReelOffice" (201 : Nat) ({ cls := "ReelOffice$Writer", name := "writeCard", desc := "()Z" } : Jvm.MethodName)) ∈ tb := mem_tb (List.mem_of_getElem? (i := 508) (by decide +kernel)) (by decide +kernel)
theorem k_509 : (Jvm.Cond.instanceMethod ({ cls := "ReelOffice$Writer", name := "writeCard", desc := "()Z" } : Jvm.MethodName)) ∈ tb := mem_tb (List.mem_of_getElem? (i := 509) (by decide +kernel)) (by decide +kernel)
theorem k_510 : (Jvm.Cond.selects "ReelOffice$Writer" ({ cls := "ReelOffice$Writer", name := "writeCard", desc := "()Z" } : Jvm.MethodName) ({ cls := "ReelOffice$Writer", name := "writeCard", desc := "()Z" } : Jvm.MethodName)) ∈ tb := mem_tb (List.mem_of_getElem? (i := 510) (by decide +kernel)) (by decide +kernel)
theorem k_511 : (Jvm.Cond.code ({ cls := "ReelOffice$Writer", name := "writeCard", desc := "()Z" } : Jvm.MethodName) prog_7_method_7_code (1 : Nat) (Option.some Jvm.ClassFile.FieldType.boolean)) ∈ tb := mem_tb (List.mem_of_getElem? (i := 511) (by decide +kernel)) (by decide +kernel)
theorem k_512 : (Jvm.Cond.methodLink "ReelOffice" (204 : Nat) ({ cls := "ReelOffice$Store", name := "cardIn", desc := "(I)I" } : Jvm.MethodName)) ∈ tb := mem_tb (List.mem_of_getElem? (i := 512) (by decide +kernel)) (by decide +kernel)
theorem k_513 : (Jvm.Cond.instanceMethod ({ cls := "ReelOffice$Store", name := "cardIn", desc := "(I)I" } : Jvm.MethodName)) ∈ tb := mem_tb (List.mem_of_getElem? (i := 513) (by decide +kernel)) (by decide +kernel)
theorem k_514 : (Jvm.Cond.selects "ReelOffice$Store" ({ cls := "ReelOffice$Store", name := "cardIn", desc := "(I)I" } : Jvm.MethodName) ({ cls := "ReelOffice$Store", name := "cardIn", desc := "(I)I" } : Jvm.MethodName)) ∈ tb := mem_tb (List.mem_of_getElem? (i := 514) (by decide +kernel)) (by decide +kernel)
theorem k_515 : (Jvm.Cond.code ({ cls := "ReelOffice$Store", name := "cardIn", desc := "(I)I" } : Jvm.MethodName) prog_5_method_7_code (2 : Nat) (Option.some Jvm.ClassFile.FieldType.int)) ∈ tb := mem_tb (List.mem_of_getElem? (i := 515) (by decide +kernel)) (by decide +kernel)
theorem k_516 : (Jvm.Cond.methodLink "ReelOffice" (207 : Nat) ({ cls := "ReelOffice$Row", name := "add", desc := "(I)V" } : Jvm.MethodName)) ∈ tb := mem_tb (List.mem_of_getElem? (i := 516) (by decide +kernel)) (by decide +kernel)
theorem k_517 : (Jvm.Cond.instanceMethod ({ cls := "ReelOffice$Row", name := "add", desc := "(I)V" } : Jvm.MethodName)) ∈ tb := mem_tb (List.mem_of_getElem? (i := 517) (by decide +kernel)) (by decide +kernel)
theorem k_518 : (Jvm.Cond.selects "ReelOffice$Row" ({ cls := "ReelOffice$Row", name := "add", desc := "(I)V" } : Jvm.MethodName) ({ cls := "ReelOffice$Row", name := "add", desc := "(I)V" } : Jvm.MethodName)) ∈ tb := mem_tb (List.mem_of_getElem? (i := 518) (by decide +kernel)) (by decide +kernel)
theorem k_519 : (Jvm.Cond.code ({ cls := "ReelOffice$Row", name := "add", desc := "(I)V" } : Jvm.MethodName) prog_4_method_3_code (2 : Nat) (Option.none : Option Jvm.ClassFile.FieldType)) ∈ tb := mem_tb (List.mem_of_getElem? (i := 519) (by decide +kernel)) (by decide +kernel)
theorem k_520 : (Jvm.Cond.methodLink "ReelOffice" (210 : Nat) ({ cls := "ReelOffice$Store", name := "replaceCard", desc := "(ILReelOffice$Deck;)V" } : Jvm.MethodName)) ∈ tb := mem_tb (List.mem_of_getElem? (i := 520) (by decide +kernel)) (by decide +kernel)
theorem k_521 : (Jvm.Cond.instanceMethod ({ cls := "ReelOffice$Store", name := "replaceCard", desc := "(ILReelOffice$Deck;)V" } : Jvm.MethodName)) ∈ tb := mem_tb (List.mem_of_getElem? (i := 521) (by decide +kernel)) (by decide +kernel)
theorem k_522 : (Jvm.Cond.selects "ReelOffice$Store" ({ cls := "ReelOffice$Store", name := "replaceCard", desc := "(ILReelOffice$Deck;)V" } : Jvm.MethodName) ({ cls := "ReelOffice$Store", name := "replaceCard", desc := "(ILReelOffice$Deck;)V" } : Jvm.MethodName)) ∈ tb := mem_tb (List.mem_of_getElem? (i := 522) (by decide +kernel)) (by decide +kernel)
theorem k_523 : (Jvm.Cond.code ({ cls := "ReelOffice$Store", name := "replaceCard", desc := "(ILReelOffice$Deck;)V" } : Jvm.MethodName) prog_5_method_9_code (3 : Nat) (Option.none : Option Jvm.ClassFile.FieldType)) ∈ tb := mem_tb (List.mem_of_getElem? (i := 523) (by decide +kernel)) (by decide +kernel)
theorem k_524 : (Jvm.Cond.methodLink "ReelOffice$Store" (45 : Nat) ({ cls := "ReelOffice$Deck", name := "hasCard", desc := "(I)Z" } : Jvm.MethodName)) ∈ tb := mem_tb (List.mem_of_getElem? (i := 524) (by decide +kernel)) (by decide +kernel)
theorem k_525 : (Jvm.Cond.methodLink "ReelOffice" (182 : Nat) ({ cls := "ReelOffice$Store", name := "turnToNextRun", desc := "()V" } : Jvm.MethodName)) ∈ tb := mem_tb (List.mem_of_getElem? (i := 525) (by decide +kernel)) (by decide +kernel)
theorem k_526 : (Jvm.Cond.instanceMethod ({ cls := "ReelOffice$Store", name := "turnToNextRun", desc := "()V" } : Jvm.MethodName)) ∈ tb := mem_tb (List.mem_of_getElem? (i := 526) (by decide +kernel)) (by decide +kernel)
theorem k_527 : (Jvm.Cond.selects "ReelOffice$Store" ({ cls := "ReelOffice$Store", name := "turnToNextRun", desc := "()V" } : Jvm.MethodName) ({ cls := "ReelOffice$Store", name := "turnToNextRun", desc := "()V" } : Jvm.MethodName)) ∈ tb := mem_tb (List.mem_of_getElem? (i := 527) (by decide +kernel)) (by decide +kernel)
theorem k_528 : (Jvm.Cond.code ({ cls := "ReelOffice$Store", name := "turnToNextRun", desc := "()V" } : Jvm.MethodName) prog_5_method_10_code (2 : Nat) (Option.none : Option Jvm.ClassFile.FieldType)) ∈ tb := mem_tb (List.mem_of_getElem? (i := 528) (by decide +kernel)) (by decide +kernel)
theorem k_529 : (Jvm.Cond.methodLink "ReelOffice" (185 : Nat) ({ cls := "ReelOffice$Plan", name := "placeOfNextRun", desc := "([LReelOffice$Tape;)I" } : Jvm.MethodName)) ∈ tb := mem_tb (List.mem_of_getElem? (i := 529) (by decide +kernel)) (by decide +kernel)
theorem k_530 : (Jvm.Cond.instanceMethod ({ cls := "ReelOffice$Plan", name := "placeOfNextRun", desc := "([LReelOffice$Tape;)I" } : Jvm.MethodName)) ∈ tb := mem_tb (List.mem_of_getElem? (i := 530) (by decide +kernel)) (by decide +kernel)
theorem k_531 : (Jvm.Cond.selects "ReelOffice$Plan" ({ cls := "ReelOffice$Plan", name := "placeOfNextRun", desc := "([LReelOffice$Tape;)I" } : Jvm.MethodName) ({ cls := "ReelOffice$Plan", name := "placeOfNextRun", desc := "([LReelOffice$Tape;)I" } : Jvm.MethodName)) ∈ tb := mem_tb (List.mem_of_getElem? (i := 531) (by decide +kernel)) (by decide +kernel)
theorem k_532 : (Jvm.Cond.code ({ cls := "ReelOffice$Plan", name := "placeOfNextRun", desc := "([LReelOffice$Tape;)I" } : Jvm.MethodName) prog_3_method_5_code (3 : Nat) (Option.some Jvm.ClassFile.FieldType.int)) ∈ tb := mem_tb (List.mem_of_getElem? (i := 532) (by decide +kernel)) (by decide +kernel)
theorem k_533 : (Jvm.Cond.methodLink "ReelOffice$Plan" (28 : Nat) ({ cls := "ReelOffice$Tape", name := "dummyCount", desc := "()I" } : Jvm.MethodName)) ∈ tb := mem_tb (List.mem_of_getElem? (i := 533) (by decide +kernel)) (by decide +kernel)
theorem k_534 : (Jvm.Cond.methodLink "ReelOffice$Plan" (32 : Nat) ({ cls := "ReelOffice$Plan", name := "goUp", desc := "([LReelOffice$Tape;)V" } : Jvm.MethodName)) ∈ tb := mem_tb (List.mem_of_getElem? (i := 534) (by decide +kernel)) (by decide +kernel)
theorem k_536 : (Jvm.Cond.instanceMethod ({ cls := "ReelOffice$Plan", name := "goUp", desc := "([LReelOffice$Tape;)V" } : Jvm.MethodName)) ∈ tb := mem_tb (List.mem_of_getElem? (i := 536) (by decide +kernel)) (by decide +kernel)
theorem k_537 : (Jvm.Cond.code ({ cls := "ReelOffice$Plan", name := "goUp", desc := "([LReelOffice$Tape;)V" } : Jvm.MethodName) prog_3_method_6_code (5 : Nat) (Option.none : Option Jvm.ClassFile.FieldType)) ∈ tb := mem_tb (List.mem_of_getElem? (i := 537) (by decide +kernel)) (by decide +kernel)
theorem k_538 : (Jvm.Cond.methodLink "ReelOffice$Plan" (36 : Nat) ({ cls := "ReelOffice$Plan", name := "growTo", desc := "(II[LReelOffice$Tape;)V" } : Jvm.MethodName)) ∈ tb := mem_tb (List.mem_of_getElem? (i := 538) (by decide +kernel)) (by decide +kernel)
theorem k_540 : (Jvm.Cond.instanceMethod ({ cls := "ReelOffice$Plan", name := "growTo", desc := "(II[LReelOffice$Tape;)V" } : Jvm.MethodName)) ∈ tb := mem_tb (List.mem_of_getElem? (i := 540) (by decide +kernel)) (by decide +kernel)
theorem k_541 : (Jvm.Cond.code ({ cls := "ReelOffice$Plan", name := "growTo", desc := "(II[LReelOffice$Tape;)V" } : Jvm.MethodName) prog_3_method_7_code (4 : Nat) (Option.none : Option Jvm.ClassFile.FieldType)) ∈ tb := mem_tb (List.mem_of_getElem? (i := 541) (by decide +kernel)) (by decide +kernel)
theorem k_542 : (Jvm.Cond.methodLink "ReelOffice" (189 : Nat) ({ cls := "ReelOffice$Tape", name := "addDummies", desc := "(I)V" } : Jvm.MethodName)) ∈ tb := mem_tb (List.mem_of_getElem? (i := 542) (by decide +kernel)) (by decide +kernel)
theorem k_543 : (Jvm.Cond.methodLink "ReelOffice" (192 : Nat) ({ cls := "ReelOffice$Tape", name := "append", desc := "(LReelOffice$Row;)V" } : Jvm.MethodName)) ∈ tb := mem_tb (List.mem_of_getElem? (i := 543) (by decide +kernel)) (by decide +kernel)
theorem k_544 : (Jvm.Cond.instanceMethod ({ cls := "ReelOffice$Tape", name := "append", desc := "(LReelOffice$Row;)V" } : Jvm.MethodName)) ∈ tb := mem_tb (List.mem_of_getElem? (i := 544) (by decide +kernel)) (by decide +kernel)
theorem k_545 : (Jvm.Cond.selects "ReelOffice$Tape" ({ cls := "ReelOffice$Tape", name := "append", desc := "(LReelOffice$Row;)V" } : Jvm.MethodName) ({ cls := "ReelOffice$Tape", name := "append", desc := "(LReelOffice$Row;)V" } : Jvm.MethodName)) ∈ tb := mem_tb (List.mem_of_getElem? (i := 545) (by decide +kernel)) (by decide +kernel)
theorem k_546 : (Jvm.Cond.code ({ cls := "ReelOffice$Tape", name := "append", desc := "(LReelOffice$Row;)V" } : Jvm.MethodName) prog_6_method_12_code (2 : Nat) (Option.none : Option Jvm.ClassFile.FieldType)) ∈ tb := mem_tb (List.mem_of_getElem? (i := 546) (by decide +kernel)) (by decide +kernel)
theorem k_547 : (Jvm.Cond.methodLink "ReelOffice$Tape" (41 : Nat) ({ cls := "java/lang/System", name := "arraycopy", desc := "(Ljava/lang/Object;ILjava/lang/Object;II)V" } : Jvm.MethodName)) ∈ tb := mem_tb (List.mem_of_getElem? (i := 547) (by decide +kernel)) (by decide +kernel)
theorem k_548 : (Jvm.Cond.static ({ cls := "java/lang/System", name := "arraycopy", desc := "(Ljava/lang/Object;ILjava/lang/Object;II)V" } : Jvm.MethodName)) ∈ tb := mem_tb (List.mem_of_getElem? (i := 548) (by decide +kernel)) (by decide +kernel)
theorem k_549 : (Jvm.Cond.native ({ cls := "java/lang/System", name := "arraycopy", desc := "(Ljava/lang/Object;ILjava/lang/Object;II)V" } : Jvm.MethodName)) ∈ tb := mem_tb (List.mem_of_getElem? (i := 549) (by decide +kernel)) (by decide +kernel)
theorem k_550 : (Jvm.Cond.methodLink "ReelOffice" (124 : Nat) ({ cls := "ReelOffice", name := "mergeRuns", desc := "()Z" } : Jvm.MethodName)) ∈ tb := mem_tb (List.mem_of_getElem? (i := 550) (by decide +kernel)) (by decide +kernel)
theorem k_552 : (Jvm.Cond.instanceMethod ({ cls := "ReelOffice", name := "mergeRuns", desc := "()Z" } : Jvm.MethodName)) ∈ tb := mem_tb (List.mem_of_getElem? (i := 552) (by decide +kernel)) (by decide +kernel)
theorem k_553 : (Jvm.Cond.code ({ cls := "ReelOffice", name := "mergeRuns", desc := "()Z" } : Jvm.MethodName) prog_1_method_28_code (1 : Nat) (Option.some Jvm.ClassFile.FieldType.boolean)) ∈ tb := mem_tb (List.mem_of_getElem? (i := 553) (by decide +kernel)) (by decide +kernel)
theorem k_554 : (Jvm.Cond.methodLink "ReelOffice" (214 : Nat) ({ cls := "ReelOffice", name := "everySourceHasDummy", desc := "()Z" } : Jvm.MethodName)) ∈ tb := mem_tb (List.mem_of_getElem? (i := 554) (by decide +kernel)) (by decide +kernel)
theorem k_556 : (Jvm.Cond.instanceMethod ({ cls := "ReelOffice", name := "everySourceHasDummy", desc := "()Z" } : Jvm.MethodName)) ∈ tb := mem_tb (List.mem_of_getElem? (i := 556) (by decide +kernel)) (by decide +kernel)
theorem k_557 : (Jvm.Cond.code ({ cls := "ReelOffice", name := "everySourceHasDummy", desc := "()Z" } : Jvm.MethodName) prog_1_method_29_code (2 : Nat) (Option.some Jvm.ClassFile.FieldType.boolean)) ∈ tb := mem_tb (List.mem_of_getElem? (i := 557) (by decide +kernel)) (by decide +kernel)
theorem k_558 : (Jvm.Cond.methodLink "ReelOffice" (232 : Nat) ({ cls := "ReelOffice$Tape", name := "hasDummy", desc := "()Z" } : Jvm.MethodName)) ∈ tb := mem_tb (List.mem_of_getElem? (i := 558) (by decide +kernel)) (by decide +kernel)
theorem k_559 : (Jvm.Cond.instanceMethod ({ cls := "ReelOffice$Tape", name := "hasDummy", desc := "()Z" } : Jvm.MethodName)) ∈ tb := mem_tb (List.mem_of_getElem? (i := 559) (by decide +kernel)) (by decide +kernel)
theorem k_560 : (Jvm.Cond.selects "ReelOffice$Tape" ({ cls := "ReelOffice$Tape", name := "hasDummy", desc := "()Z" } : Jvm.MethodName) ({ cls := "ReelOffice$Tape", name := "hasDummy", desc := "()Z" } : Jvm.MethodName)) ∈ tb := mem_tb (List.mem_of_getElem? (i := 560) (by decide +kernel)) (by decide +kernel)
theorem k_561 : (Jvm.Cond.code ({ cls := "ReelOffice$Tape", name := "hasDummy", desc := "()Z" } : Jvm.MethodName) prog_6_method_5_code (1 : Nat) (Option.some Jvm.ClassFile.FieldType.boolean)) ∈ tb := mem_tb (List.mem_of_getElem? (i := 561) (by decide +kernel)) (by decide +kernel)
theorem k_562 : (Jvm.Cond.methodLink "ReelOffice" (217 : Nat) ({ cls := "ReelOffice", name := "sourcesCanBeRead", desc := "()Z" } : Jvm.MethodName)) ∈ tb := mem_tb (List.mem_of_getElem? (i := 562) (by decide +kernel)) (by decide +kernel)
theorem k_564 : (Jvm.Cond.instanceMethod ({ cls := "ReelOffice", name := "sourcesCanBeRead", desc := "()Z" } : Jvm.MethodName)) ∈ tb := mem_tb (List.mem_of_getElem? (i := 564) (by decide +kernel)) (by decide +kernel)
theorem k_565 : (Jvm.Cond.code ({ cls := "ReelOffice", name := "sourcesCanBeRead", desc := "()Z" } : Jvm.MethodName) prog_1_method_30_code (4 : Nat) (Option.some Jvm.ClassFile.FieldType.boolean)) ∈ tb := mem_tb (List.mem_of_getElem? (i := 565) (by decide +kernel)) (by decide +kernel)
theorem k_566 : (Jvm.Cond.methodLink "ReelOffice" (235 : Nat) ({ cls := "ReelOffice$Tape", name := "useFault", desc := "()Z" } : Jvm.MethodName)) ∈ tb := mem_tb (List.mem_of_getElem? (i := 566) (by decide +kernel)) (by decide +kernel)
theorem k_567 : (Jvm.Cond.instanceMethod ({ cls := "ReelOffice$Tape", name := "useFault", desc := "()Z" } : Jvm.MethodName)) ∈ tb := mem_tb (List.mem_of_getElem? (i := 567) (by decide +kernel)) (by decide +kernel)
theorem k_568 : (Jvm.Cond.selects "ReelOffice$Tape" ({ cls := "ReelOffice$Tape", name := "useFault", desc := "()Z" } : Jvm.MethodName) ({ cls := "ReelOffice$Tape", name := "useFault", desc := "()Z" } : Jvm.MethodName)) ∈ tb := mem_tb (List.mem_of_getElem? (i := 568) (by decide +kernel)) (by decide +kernel)
theorem k_569 : (Jvm.Cond.code ({ cls := "ReelOffice$Tape", name := "useFault", desc := "()Z" } : Jvm.MethodName) prog_6_method_9_code (1 : Nat) (Option.some Jvm.ClassFile.FieldType.boolean)) ∈ tb := mem_tb (List.mem_of_getElem? (i := 569) (by decide +kernel)) (by decide +kernel)
theorem k_570 : (Jvm.Cond.methodLink "ReelOffice" (220 : Nat) ({ cls := "ReelOffice", name := "writeMergedRun", desc := "()Z" } : Jvm.MethodName)) ∈ tb := mem_tb (List.mem_of_getElem? (i := 570) (by decide +kernel)) (by decide +kernel)
theorem k_572 : (Jvm.Cond.instanceMethod ({ cls := "ReelOffice", name := "writeMergedRun", desc := "()Z" } : Jvm.MethodName)) ∈ tb := mem_tb (List.mem_of_getElem? (i := 572) (by decide +kernel)) (by decide +kernel)
theorem k_573 : (Jvm.Cond.code ({ cls := "ReelOffice", name := "writeMergedRun", desc := "()Z" } : Jvm.MethodName) prog_1_method_31_code (3 : Nat) (Option.some Jvm.ClassFile.FieldType.boolean)) ∈ tb := mem_tb (List.mem_of_getElem? (i := 573) (by decide +kernel)) (by decide +kernel)
theorem k_574 : (Jvm.Cond.methodLink "ReelOffice" (238 : Nat) ({ cls := "ReelOffice", name := "sourceOfFirstCard", desc := "()I" } : Jvm.MethodName)) ∈ tb := mem_tb (List.mem_of_getElem? (i := 574) (by decide +kernel)) (by decide +kernel)
theorem k_576 : (Jvm.Cond.instanceMethod ({ cls := "ReelOffice", name := "sourceOfFirstCard", desc := "()I" } : Jvm.MethodName)) ∈ tb := mem_tb (List.mem_of_getElem? (i := 576) (by decide +kernel)) (by decide +kernel)
theorem k_577 : (Jvm.Cond.code ({ cls := "ReelOffice", name := "sourceOfFirstCard", desc := "()I" } : Jvm.MethodName) prog_1_method_32_code (3 : Nat) (Option.some Jvm.ClassFile.FieldType.int)) ∈ tb := mem_tb (List.mem_of_getElem? (i := 577) (by decide +kernel)) (by decide +kernel)
theorem k_578 : (Jvm.Cond.methodLink "ReelOffice" (241 : Nat) ({ cls := "ReelOffice", name := "nextCardOf", desc := "(I)I" } : Jvm.MethodName)) ∈ tb := mem_tb (List.mem_of_getElem? (i := 578) (by decide +kernel)) (by decide +kernel)
theorem k_580 : (Jvm.Cond.instanceMethod ({ cls := "ReelOffice", name := "nextCardOf", desc := "(I)I" } : Jvm.MethodName)) ∈ tb := mem_tb (List.mem_of_getElem? (i := 580) (by decide +kernel)) (by decide +kernel)
theorem k_581 : (Jvm.Cond.code ({ cls := "ReelOffice", name := "nextCardOf", desc := "(I)I" } : Jvm.MethodName) prog_1_method_33_code (2 : Nat) (Option.some Jvm.ClassFile.FieldType.int)) ∈ tb := mem_tb (List.mem_of_getElem? (i := 581) (by decide +kernel)) (by decide +kernel)
theorem k_582 : (Jvm.Cond.methodLink "ReelOffice" (223 : Nat) ({ cls := "ReelOffice", name := "takeFromSources", desc := "()V" } : Jvm.MethodName)) ∈ tb := mem_tb (List.mem_of_getElem? (i := 582) (by decide +kernel)) (by decide +kernel)
theorem k_584 : (Jvm.Cond.instanceMethod ({ cls := "ReelOffice", name := "takeFromSources", desc := "()V" } : Jvm.MethodName)) ∈ tb := mem_tb (List.mem_of_getElem? (i := 584) (by decide +kernel)) (by decide +kernel)
theorem k_585 : (Jvm.Cond.code ({ cls := "ReelOffice", name := "takeFromSources", desc := "()V" } : Jvm.MethodName) prog_1_method_34_code (3 : Nat) (Option.none : Option Jvm.ClassFile.FieldType)) ∈ tb := mem_tb (List.mem_of_getElem? (i := 585) (by decide +kernel)) (by decide +kernel)
theorem k_586 : (Jvm.Cond.methodLink "ReelOffice" (244 : Nat) ({ cls := "ReelOffice$Tape", name := "takeFirstRun", desc := "()V" } : Jvm.MethodName)) ∈ tb := mem_tb (List.mem_of_getElem? (i := 586) (by decide +kernel)) (by decide +kernel)
theorem k_587 : (Jvm.Cond.instanceMethod ({ cls := "ReelOffice$Tape", name := "takeFirstRun", desc := "()V" } : Jvm.MethodName)) ∈ tb := mem_tb (List.mem_of_getElem? (i := 587) (by decide +kernel)) (by decide +kernel)
theorem k_588 : (Jvm.Cond.selects "ReelOffice$Tape" ({ cls := "ReelOffice$Tape", name := "takeFirstRun", desc := "()V" } : Jvm.MethodName) ({ cls := "ReelOffice$Tape", name := "takeFirstRun", desc := "()V" } : Jvm.MethodName)) ∈ tb := mem_tb (List.mem_of_getElem? (i := 588) (by decide +kernel)) (by decide +kernel)
theorem k_589 : (Jvm.Cond.code ({ cls := "ReelOffice$Tape", name := "takeFirstRun", desc := "()V" } : Jvm.MethodName) prog_6_method_13_code (2 : Nat) (Option.none : Option Jvm.ClassFile.FieldType)) ∈ tb := mem_tb (List.mem_of_getElem? (i := 589) (by decide +kernel)) (by decide +kernel)
theorem k_590 : (Jvm.Cond.methodLink "ReelOffice" (226 : Nat) ({ cls := "ReelOffice$Tape", name := "isBare", desc := "()Z" } : Jvm.MethodName)) ∈ tb := mem_tb (List.mem_of_getElem? (i := 590) (by decide +kernel)) (by decide +kernel)
theorem k_591 : (Jvm.Cond.instanceMethod ({ cls := "ReelOffice$Tape", name := "isBare", desc := "()Z" } : Jvm.MethodName)) ∈ tb := mem_tb (List.mem_of_getElem? (i := 591) (by decide +kernel)) (by decide +kernel)
theorem k_592 : (Jvm.Cond.selects "ReelOffice$Tape" ({ cls := "ReelOffice$Tape", name := "isBare", desc := "()Z" } : Jvm.MethodName) ({ cls := "ReelOffice$Tape", name := "isBare", desc := "()Z" } : Jvm.MethodName)) ∈ tb := mem_tb (List.mem_of_getElem? (i := 592) (by decide +kernel)) (by decide +kernel)
theorem k_593 : (Jvm.Cond.code ({ cls := "ReelOffice$Tape", name := "isBare", desc := "()Z" } : Jvm.MethodName) prog_6_method_6_code (1 : Nat) (Option.some Jvm.ClassFile.FieldType.boolean)) ∈ tb := mem_tb (List.mem_of_getElem? (i := 593) (by decide +kernel)) (by decide +kernel)
theorem k_594 : (Jvm.Cond.methodLink "ReelOffice" (229 : Nat) ({ cls := "ReelOffice", name := "endLevel", desc := "()V" } : Jvm.MethodName)) ∈ tb := mem_tb (List.mem_of_getElem? (i := 594) (by decide +kernel)) (by decide +kernel)
theorem k_596 : (Jvm.Cond.instanceMethod ({ cls := "ReelOffice", name := "endLevel", desc := "()V" } : Jvm.MethodName)) ∈ tb := mem_tb (List.mem_of_getElem? (i := 596) (by decide +kernel)) (by decide +kernel)
theorem k_597 : (Jvm.Cond.code ({ cls := "ReelOffice", name := "endLevel", desc := "()V" } : Jvm.MethodName) prog_1_method_35_code (3 : Nat) (Option.none : Option Jvm.ClassFile.FieldType)) ∈ tb := mem_tb (List.mem_of_getElem? (i := 597) (by decide +kernel)) (by decide +kernel)
theorem k_598 : (Jvm.Cond.methodLink "ReelOffice" (247 : Nat) ({ cls := "ReelOffice$Plan", name := "goDown", desc := "()V" } : Jvm.MethodName)) ∈ tb := mem_tb (List.mem_of_getElem? (i := 598) (by decide +kernel)) (by decide +kernel)
theorem k_599 : (Jvm.Cond.instanceMethod ({ cls := "ReelOffice$Plan", name := "goDown", desc := "()V" } : Jvm.MethodName)) ∈ tb := mem_tb (List.mem_of_getElem? (i := 599) (by decide +kernel)) (by decide +kernel)
theorem k_600 : (Jvm.Cond.selects "ReelOffice$Plan" ({ cls := "ReelOffice$Plan", name := "goDown", desc := "()V" } : Jvm.MethodName) ({ cls := "ReelOffice$Plan", name := "goDown", desc := "()V" } : Jvm.MethodName)) ∈ tb := mem_tb (List.mem_of_getElem? (i := 600) (by decide +kernel)) (by decide +kernel)
theorem k_601 : (Jvm.Cond.code ({ cls := "ReelOffice$Plan", name := "goDown", desc := "()V" } : Jvm.MethodName) prog_3_method_4_code (1 : Nat) (Option.none : Option Jvm.ClassFile.FieldType)) ∈ tb := mem_tb (List.mem_of_getElem? (i := 601) (by decide +kernel)) (by decide +kernel)
theorem k_609 : (Jvm.Cond.methodLink "ReelOffice" (130 : Nat) ({ cls := "ReelOffice$Tape", name := "replaceFaults", desc := "(I)I" } : Jvm.MethodName)) ∈ tb := mem_tb (List.mem_of_getElem? (i := 609) (by decide +kernel)) (by decide +kernel)
theorem k_610 : (Jvm.Cond.instanceMethod ({ cls := "ReelOffice$Tape", name := "replaceFaults", desc := "(I)I" } : Jvm.MethodName)) ∈ tb := mem_tb (List.mem_of_getElem? (i := 610) (by decide +kernel)) (by decide +kernel)
theorem k_611 : (Jvm.Cond.selects "ReelOffice$Tape" ({ cls := "ReelOffice$Tape", name := "replaceFaults", desc := "(I)I" } : Jvm.MethodName) ({ cls := "ReelOffice$Tape", name := "replaceFaults", desc := "(I)I" } : Jvm.MethodName)) ∈ tb := mem_tb (List.mem_of_getElem? (i := 611) (by decide +kernel)) (by decide +kernel)
theorem k_612 : (Jvm.Cond.code ({ cls := "ReelOffice$Tape", name := "replaceFaults", desc := "(I)I" } : Jvm.MethodName) prog_6_method_8_code (3 : Nat) (Option.some Jvm.ClassFile.FieldType.int)) ∈ tb := mem_tb (List.mem_of_getElem? (i := 612) (by decide +kernel)) (by decide +kernel)
theorem k_618 : (Jvm.Cond.methodLink "ReelOfficeModel" (1 : Nat) ({ cls := "java/lang/Object", name := "<init>", desc := "()V" } : Jvm.MethodName)) ∈ tb := mem_tb (List.mem_of_getElem? (i := 618) (by decide +kernel)) (by decide +kernel)
theorem k_619 : (Jvm.Cond.fieldLink "ReelOfficeModel" (70 : Nat) "ReelOfficeModel" "code" "I") ∈ tb := mem_tb (List.mem_of_getElem? (i := 619) (by decide +kernel)) (by decide +kernel)
theorem k_620 : (Jvm.Cond.fieldLink "ReelOfficeModel" (67 : Nat) "ReelOfficeModel" "size" "I") ∈ tb := mem_tb (List.mem_of_getElem? (i := 620) (by decide +kernel)) (by decide +kernel)
theorem k_621 : (Jvm.Cond.fieldLink "ReelOfficeModel" (76 : Nat) "ReelOfficeModel" "cards" "I") ∈ tb := mem_tb (List.mem_of_getElem? (i := 621) (by decide +kernel)) (by decide +kernel)
theorem k_622 : (Jvm.Cond.fieldLink "ReelOfficeModel" (7 : Nat) "ReelOfficeModel" "fields" "[I") ∈ tb := mem_tb (List.mem_of_getElem? (i := 622) (by decide +kernel)) (by decide +kernel)
theorem k_623 : (Jvm.Cond.fieldLink "ReelOfficeModel" (79 : Nat) "ReelOfficeModel" "parts" "I") ∈ tb := mem_tb (List.mem_of_getElem? (i := 623) (by decide +kernel)) (by decide +kernel)
theorem k_624 : (Jvm.Cond.fieldLink "ReelOfficeModel" (13 : Nat) "ReelOfficeModel" "partFields" "[I") ∈ tb := mem_tb (List.mem_of_getElem? (i := 624) (by decide +kernel)) (by decide +kernel)
theorem k_625 : (Jvm.Cond.fieldLink "ReelOfficeModel" (16 : Nat) "ReelOfficeModel" "ways" "[I") ∈ tb := mem_tb (List.mem_of_getElem? (i := 625) (by decide +kernel)) (by decide +kernel)
theorem k_626 : (Jvm.Cond.fieldLink "ReelOfficeModel" (73 : Nat) "ReelOfficeModel" "phase" "I") ∈ tb := mem_tb (List.mem_of_getElem? (i := 626) (by decide +kernel)) (by decide +kernel)
theorem k_627 : (Jvm.Cond.fieldLink "ReelOfficeModel" (19 : Nat) "ReelOfficeModel" "power" "Z") ∈ tb := mem_tb (List.mem_of_getElem? (i := 627) (by decide +kernel)) (by decide +kernel)
theorem k_628 : (Jvm.Cond.fieldLink "ReelOfficeModel" (23 : Nat) "ReelOfficeModel" "cut" "I") ∈ tb := mem_tb (List.mem_of_getElem? (i := 628) (by decide +kernel)) (by decide +kernel)
theorem k_629 : (Jvm.Cond.fieldLink "ReelOfficeModel" (114 : Nat) "ReelOfficeModel" "written" "I") ∈ tb := mem_tb (List.mem_of_getElem? (i := 629) (by decide +kernel)) (by decide +kernel)
theorem k_630 : (Jvm.Cond.fieldLink "ReelOfficeModel" (117 : Nat) "ReelOfficeModel" "broken" "I") ∈ tb := mem_tb (List.mem_of_getElem? (i := 630) (by decide +kernel)) (by decide +kernel)
theorem k_631 : (Jvm.Cond.fieldLink "ReelOfficeModel" (27 : Nat) "ReelOfficeModel" "faults" "[I") ∈ tb := mem_tb (List.mem_of_getElem? (i := 631) (by decide +kernel)) (by decide +kernel)
theorem k_632 : (Jvm.Cond.fieldLink "ReelOfficeModel" (96 : Nat) "ReelOfficeModel" "held" "I") ∈ tb := mem_tb (List.mem_of_getElem? (i := 632) (by decide +kernel)) (by decide +kernel)
theorem k_633 : (Jvm.Cond.fieldLink "ReelOfficeModel" (30 : Nat) "ReelOfficeModel" "memory" "[I") ∈ tb := mem_tb (List.mem_of_getElem? (i := 633) (by decide +kernel)) (by decide +kernel)
theorem k_634 : (Jvm.Cond.fieldLink "ReelOfficeModel" (33 : Nat) "ReelOfficeModel" "later" "[Z") ∈ tb := mem_tb (List.mem_of_getElem? (i := 634) (by decide +kernel)) (by decide +kernel)
theorem k_635 : (Jvm.Cond.fieldLink "ReelOfficeModel" (99 : Nat) "ReelOfficeModel" "next" "I") ∈ tb := mem_tb (List.mem_of_getElem? (i := 635) (by decide +kernel)) (by decide +kernel)
theorem k_636 : (Jvm.Cond.fieldLink "ReelOfficeModel" (102 : Nat) "ReelOfficeModel" "made" "I") ∈ tb := mem_tb (List.mem_of_getElem? (i := 636) (by decide +kernel)) (by decide +kernel)
theorem k_637 : (Jvm.Cond.fieldLink "ReelOfficeModel" (37 : Nat) "ReelOfficeModel" "numbers" "[I") ∈ tb := mem_tb (List.mem_of_getElem? (i := 637) (by decide +kernel)) (by decide +kernel)
theorem k_638 : (Jvm.Cond.fieldLink "ReelOfficeModel" (105 : Nat) "ReelOfficeModel" "level" "I") ∈ tb := mem_tb (List.mem_of_getElem? (i := 638) (by decide +kernel)) (by decide +kernel)
theorem k_639 : (Jvm.Cond.fieldLink "ReelOfficeModel" (108 : Nat) "ReelOfficeModel" "place" "I") ∈ tb := mem_tb (List.mem_of_getElem? (i := 639) (by decide +kernel)) (by decide +kernel)
theorem k_640 : (Jvm.Cond.fieldLink "ReelOfficeModel" (40 : Nat) "ReelOfficeModel" "tapes" "[I") ∈ tb := mem_tb (List.mem_of_getElem? (i := 640) (by decide +kernel)) (by decide +kernel)
theorem k_641 : (Jvm.Cond.fieldLink "ReelOfficeModel" (43 : Nat) "ReelOfficeModel" "lengths" "[I") ∈ tb := mem_tb (List.mem_of_getElem? (i := 641) (by decide +kernel)) (by decide +kernel)
theorem k_642 : (Jvm.Cond.fieldLink "ReelOfficeModel" (46 : Nat) "ReelOfficeModel" "runs" "[I") ∈ tb := mem_tb (List.mem_of_getElem? (i := 642) (by decide +kernel)) (by decide +kernel)
theorem k_643 : (Jvm.Cond.fieldLink "ReelOfficeModel" (49 : Nat) "ReelOfficeModel" "dummies" "[I") ∈ tb := mem_tb (List.mem_of_getElem? (i := 643) (by decide +kernel)) (by decide +kernel)
theorem k_644 : (Jvm.Cond.fieldLink "ReelOfficeModel" (52 : Nat) "ReelOfficeModel" "roles" "[I") ∈ tb := mem_tb (List.mem_of_getElem? (i := 644) (by decide +kernel)) (by decide +kernel)
theorem k_645 : (Jvm.Cond.fieldLink "ReelOfficeModel" (123 : Nat) "ReelOfficeModel" "asideHeld" "I") ∈ tb := mem_tb (List.mem_of_getElem? (i := 645) (by decide +kernel)) (by decide +kernel)
theorem k_646 : (Jvm.Cond.fieldLink "ReelOfficeModel" (55 : Nat) "ReelOfficeModel" "asideMemory" "[I") ∈ tb := mem_tb (List.mem_of_getElem? (i := 646) (by decide +kernel)) (by decide +kernel)
theorem k_647 : (Jvm.Cond.fieldLink "ReelOfficeModel" (58 : Nat) "ReelOfficeModel" "asideLater" "[Z") ∈ tb := mem_tb (List.mem_of_getElem? (i := 647) (by decide +kernel)) (by decide +kernel)
theorem k_648 : (Jvm.Cond.fieldLink "ReelOfficeModel" (126 : Nat) "ReelOfficeModel" "asideNext" "I") ∈ tb := mem_tb (List.mem_of_getElem? (i := 648) (by decide +kernel)) (by decide +kernel)
theorem k_649 : (Jvm.Cond.fieldLink "ReelOfficeModel" (120 : Nat) "ReelOfficeModel" "count" "I") ∈ tb := mem_tb (List.mem_of_getElem? (i := 649) (by decide +kernel)) (by decide +kernel)
theorem k_650 : (Jvm.Cond.fieldLink "ReelOfficeModel" (61 : Nat) "ReelOfficeModel" "run" "[I") ∈ tb := mem_tb (List.mem_of_getElem? (i := 650) (by decide +kernel)) (by decide +kernel)
theorem k_651 : (Jvm.Cond.fieldLink "ReelOfficeModel" (64 : Nat) "ReelOfficeModel" "heads" "[I") ∈ tb := mem_tb (List.mem_of_getElem? (i := 651) (by decide +kernel)) (by decide +kernel)
theorem k_735 : (Jvm.Cond.methodLink "ReelOfficeModel" (88 : Nat) ({ cls := "ReelOfficeModel", name := "isCard", desc := "(I)Z" } : Jvm.MethodName)) ∈ tb := mem_tb (List.mem_of_getElem? (i := 735) (by decide +kernel)) (by decide +kernel)
theorem k_737 : (Jvm.Cond.instanceMethod ({ cls := "ReelOfficeModel", name := "isCard", desc := "(I)Z" } : Jvm.MethodName)) ∈ tb := mem_tb (List.mem_of_getElem? (i := 737) (by decide +kernel)) (by decide +kernel)
theorem k_738 : (Jvm.Cond.code ({ cls := "ReelOfficeModel", name := "isCard", desc := "(I)Z" } : Jvm.MethodName) prog_9_method_7_code (2 : Nat) (Option.some Jvm.ClassFile.FieldType.boolean)) ∈ tb := mem_tb (List.mem_of_getElem? (i := 738) (by decide +kernel)) (by decide +kernel)
theorem k_739 : (Jvm.Cond.methodLink "ReelOfficeModel" (92 : Nat) ({ cls := "ReelOfficeModel", name := "comesFirst", desc := "(II)Z" } : Jvm.MethodName)) ∈ tb := mem_tb (List.mem_of_getElem? (i := 739) (by decide +kernel)) (by decide +kernel)
theorem k_741 : (Jvm.Cond.instanceMethod ({ cls := "ReelOfficeModel", name := "comesFirst", desc := "(II)Z" } : Jvm.MethodName)) ∈ tb := mem_tb (List.mem_of_getElem? (i := 741) (by decide +kernel)) (by decide +kernel)
theorem k_742 : (Jvm.Cond.code ({ cls := "ReelOfficeModel", name := "comesFirst", desc := "(II)Z" } : Jvm.MethodName) prog_9_method_6_code (8 : Nat) (Option.some Jvm.ClassFile.FieldType.boolean)) ∈ tb := mem_tb (List.mem_of_getElem? (i := 742) (by decide +kernel)) (by decide +kernel)
theorem k_743 : (Jvm.Cond.methodLink "ReelOfficeModel" (84 : Nat) ({ cls := "ReelOfficeModel", name := "standing", desc := "(II)J" } : Jvm.MethodName)) ∈ tb := mem_tb (List.mem_of_getElem? (i := 743) (by decide +kernel)) (by decide +kernel)
theorem k_744 : (Jvm.Cond.static ({ cls := "ReelOfficeModel", name := "standing", desc := "(II)J" } : Jvm.MethodName)) ∈ tb := mem_tb (List.mem_of_getElem? (i := 744) (by decide +kernel)) (by decide +kernel)
theorem k_745 : (Jvm.Cond.code ({ cls := "ReelOfficeModel", name := "standing", desc := "(II)J" } : Jvm.MethodName) prog_9_method_5_code (2 : Nat) (Option.some Jvm.ClassFile.FieldType.long)) ∈ tb := mem_tb (List.mem_of_getElem? (i := 745) (by decide +kernel)) (by decide +kernel)
theorem k_746 : (Jvm.Cond.constantLong "ReelOfficeModel" (82 : Nat) (4294967295 : Int64)) ∈ tb := mem_tb (List.mem_of_getElem? (i := 746) (by decide +kernel)) (by decide +kernel)
theorem k_755 : (Jvm.Cond.methodLink "ReelOfficeModel" (111 : Nat) ({ cls := "ReelOfficeModel", name := "reset", desc := "()V" } : Jvm.MethodName)) ∈ tb := mem_tb (List.mem_of_getElem? (i := 755) (by decide +kernel)) (by decide +kernel)
theorem k_757 : (Jvm.Cond.instanceMethod ({ cls := "ReelOfficeModel", name := "reset", desc := "()V" } : Jvm.MethodName)) ∈ tb := mem_tb (List.mem_of_getElem? (i := 757) (by decide +kernel)) (by decide +kernel)
theorem k_758 : (Jvm.Cond.code ({ cls := "ReelOfficeModel", name := "reset", desc := "()V" } : Jvm.MethodName) prog_9_method_10_code (2 : Nat) (Option.none : Option Jvm.ClassFile.FieldType)) ∈ tb := mem_tb (List.mem_of_getElem? (i := 758) (by decide +kernel)) (by decide +kernel)
theorem k_767 : (Jvm.Cond.methodLink "ReelOfficeModel" (169 : Nat) ({ cls := "ReelOfficeModel", name := "lay", desc := "()Z" } : Jvm.MethodName)) ∈ tb := mem_tb (List.mem_of_getElem? (i := 767) (by decide +kernel)) (by decide +kernel)
theorem k_769 : (Jvm.Cond.instanceMethod ({ cls := "ReelOfficeModel", name := "lay", desc := "()Z" } : Jvm.MethodName)) ∈ tb := mem_tb (List.mem_of_getElem? (i := 769) (by decide +kernel)) (by decide +kernel)
theorem k_770 : (Jvm.Cond.code ({ cls := "ReelOfficeModel", name := "lay", desc := "()Z" } : Jvm.MethodName) prog_9_method_22_code (1 : Nat) (Option.some Jvm.ClassFile.FieldType.boolean)) ∈ tb := mem_tb (List.mem_of_getElem? (i := 770) (by decide +kernel)) (by decide +kernel)
theorem k_771 : (Jvm.Cond.methodLink "ReelOfficeModel" (140 : Nat) ({ cls := "ReelOfficeModel", name := "putAside", desc := "()V" } : Jvm.MethodName)) ∈ tb := mem_tb (List.mem_of_getElem? (i := 771) (by decide +kernel)) (by decide +kernel)
theorem k_773 : (Jvm.Cond.instanceMethod ({ cls := "ReelOfficeModel", name := "putAside", desc := "()V" } : Jvm.MethodName)) ∈ tb := mem_tb (List.mem_of_getElem? (i := 773) (by decide +kernel)) (by decide +kernel)
theorem k_774 : (Jvm.Cond.code ({ cls := "ReelOfficeModel", name := "putAside", desc := "()V" } : Jvm.MethodName) prog_9_method_15_code (2 : Nat) (Option.none : Option Jvm.ClassFile.FieldType)) ∈ tb := mem_tb (List.mem_of_getElem? (i := 774) (by decide +kernel)) (by decide +kernel)
theorem k_775 : (Jvm.Cond.methodLink "ReelOfficeModel" (143 : Nat) ({ cls := "ReelOfficeModel", name := "makeRun", desc := "()Z" } : Jvm.MethodName)) ∈ tb := mem_tb (List.mem_of_getElem? (i := 775) (by decide +kernel)) (by decide +kernel)
theorem k_777 : (Jvm.Cond.instanceMethod ({ cls := "ReelOfficeModel", name := "makeRun", desc := "()Z" } : Jvm.MethodName)) ∈ tb := mem_tb (List.mem_of_getElem? (i := 777) (by decide +kernel)) (by decide +kernel)
theorem k_778 : (Jvm.Cond.code ({ cls := "ReelOfficeModel", name := "makeRun", desc := "()Z" } : Jvm.MethodName) prog_9_method_17_code (3 : Nat) (Option.some Jvm.ClassFile.FieldType.boolean)) ∈ tb := mem_tb (List.mem_of_getElem? (i := 778) (by decide +kernel)) (by decide +kernel)
theorem k_779 : (Jvm.Cond.methodLink "ReelOfficeModel" (129 : Nat) ({ cls := "ReelOfficeModel", name := "first", desc := "()I" } : Jvm.MethodName)) ∈ tb := mem_tb (List.mem_of_getElem? (i := 779) (by decide +kernel)) (by decide +kernel)
theorem k_781 : (Jvm.Cond.instanceMethod ({ cls := "ReelOfficeModel", name := "first", desc := "()I" } : Jvm.MethodName)) ∈ tb := mem_tb (List.mem_of_getElem? (i := 781) (by decide +kernel)) (by decide +kernel)
theorem k_782 : (Jvm.Cond.code ({ cls := "ReelOfficeModel", name := "first", desc := "()I" } : Jvm.MethodName) prog_9_method_14_code (3 : Nat) (Option.some Jvm.ClassFile.FieldType.int)) ∈ tb := mem_tb (List.mem_of_getElem? (i := 782) (by decide +kernel)) (by decide +kernel)
theorem k_783 : (Jvm.Cond.methodLink "ReelOfficeModel" (133 : Nat) ({ cls := "ReelOfficeModel", name := "write", desc := "(I)Z" } : Jvm.MethodName)) ∈ tb := mem_tb (List.mem_of_getElem? (i := 783) (by decide +kernel)) (by decide +kernel)
theorem k_785 : (Jvm.Cond.instanceMethod ({ cls := "ReelOfficeModel", name := "write", desc := "(I)Z" } : Jvm.MethodName)) ∈ tb := mem_tb (List.mem_of_getElem? (i := 785) (by decide +kernel)) (by decide +kernel)
theorem k_786 : (Jvm.Cond.code ({ cls := "ReelOfficeModel", name := "write", desc := "(I)Z" } : Jvm.MethodName) prog_9_method_13_code (2 : Nat) (Option.some Jvm.ClassFile.FieldType.boolean)) ∈ tb := mem_tb (List.mem_of_getElem? (i := 786) (by decide +kernel)) (by decide +kernel)
theorem k_787 : (Jvm.Cond.methodLink "ReelOfficeModel" (147 : Nat) ({ cls := "ReelOfficeModel", name := "takeBack", desc := "()V" } : Jvm.MethodName)) ∈ tb := mem_tb (List.mem_of_getElem? (i := 787) (by decide +kernel)) (by decide +kernel)
theorem k_789 : (Jvm.Cond.instanceMethod ({ cls := "ReelOfficeModel", name := "takeBack", desc := "()V" } : Jvm.MethodName)) ∈ tb := mem_tb (List.mem_of_getElem? (i := 789) (by decide +kernel)) (by decide +kernel)
theorem k_790 : (Jvm.Cond.code ({ cls := "ReelOfficeModel", name := "takeBack", desc := "()V" } : Jvm.MethodName) prog_9_method_16_code (2 : Nat) (Option.none : Option Jvm.ClassFile.FieldType)) ∈ tb := mem_tb (List.mem_of_getElem? (i := 790) (by decide +kernel)) (by decide +kernel)
theorem k_791 : (Jvm.Cond.methodLink "ReelOfficeModel" (150 : Nat) ({ cls := "ReelOfficeModel", name := "findPlace", desc := "()V" } : Jvm.MethodName)) ∈ tb := mem_tb (List.mem_of_getElem? (i := 791) (by decide +kernel)) (by decide +kernel)
theorem k_793 : (Jvm.Cond.instanceMethod ({ cls := "ReelOfficeModel", name := "findPlace", desc := "()V" } : Jvm.MethodName)) ∈ tb := mem_tb (List.mem_of_getElem? (i := 793) (by decide +kernel)) (by decide +kernel)
theorem k_794 : (Jvm.Cond.code ({ cls := "ReelOfficeModel", name := "findPlace", desc := "()V" } : Jvm.MethodName) prog_9_method_18_code (4 : Nat) (Option.none : Option Jvm.ClassFile.FieldType)) ∈ tb := mem_tb (List.mem_of_getElem? (i := 794) (by decide +kernel)) (by decide +kernel)
theorem k_795 : (Jvm.Cond.methodLink "ReelOfficeModel" (153 : Nat) ({ cls := "ReelOfficeModel", name := "append", desc := "(I)V" } : Jvm.MethodName)) ∈ tb := mem_tb (List.mem_of_getElem? (i := 795) (by decide +kernel)) (by decide +kernel)
theorem k_797 : (Jvm.Cond.instanceMethod ({ cls := "ReelOfficeModel", name := "append", desc := "(I)V" } : Jvm.MethodName)) ∈ tb := mem_tb (List.mem_of_getElem? (i := 797) (by decide +kernel)) (by decide +kernel)
theorem k_798 : (Jvm.Cond.code ({ cls := "ReelOfficeModel", name := "append", desc := "(I)V" } : Jvm.MethodName) prog_9_method_20_code (4 : Nat) (Option.none : Option Jvm.ClassFile.FieldType)) ∈ tb := mem_tb (List.mem_of_getElem? (i := 798) (by decide +kernel)) (by decide +kernel)
theorem k_799 : (Jvm.Cond.methodLink "ReelOfficeModel" (136 : Nat) ({ cls := "ReelOfficeModel", name := "cardsOn", desc := "(I)I" } : Jvm.MethodName)) ∈ tb := mem_tb (List.mem_of_getElem? (i := 799) (by decide +kernel)) (by decide +kernel)
theorem k_801 : (Jvm.Cond.instanceMethod ({ cls := "ReelOfficeModel", name := "cardsOn", desc := "(I)I" } : Jvm.MethodName)) ∈ tb := mem_tb (List.mem_of_getElem? (i := 801) (by decide +kernel)) (by decide +kernel)
theorem k_802 : (Jvm.Cond.code ({ cls := "ReelOfficeModel", name := "cardsOn", desc := "(I)I" } : Jvm.MethodName) prog_9_method_19_code (4 : Nat) (Option.some Jvm.ClassFile.FieldType.int)) ∈ tb := mem_tb (List.mem_of_getElem? (i := 802) (by decide +kernel)) (by decide +kernel)
theorem k_803 : (Jvm.Cond.methodLink "ReelOfficeModel" (172 : Nat) ({ cls := "ReelOfficeModel", name := "merge", desc := "()Z" } : Jvm.MethodName)) ∈ tb := mem_tb (List.mem_of_getElem? (i := 803) (by decide +kernel)) (by decide +kernel)
theorem k_805 : (Jvm.Cond.instanceMethod ({ cls := "ReelOfficeModel", name := "merge", desc := "()Z" } : Jvm.MethodName)) ∈ tb := mem_tb (List.mem_of_getElem? (i := 805) (by decide +kernel)) (by decide +kernel)
theorem k_806 : (Jvm.Cond.code ({ cls := "ReelOfficeModel", name := "merge", desc := "()Z" } : Jvm.MethodName) prog_9_method_26_code (4 : Nat) (Option.some Jvm.ClassFile.FieldType.boolean)) ∈ tb := mem_tb (List.mem_of_getElem? (i := 806) (by decide +kernel)) (by decide +kernel)
theorem k_807 : (Jvm.Cond.methodLink "ReelOfficeModel" (157 : Nat) ({ cls := "ReelOfficeModel", name := "isReadable", desc := "()Z" } : Jvm.MethodName)) ∈ tb := mem_tb (List.mem_of_getElem? (i := 807) (by decide +kernel)) (by decide +kernel)
theorem k_809 : (Jvm.Cond.instanceMethod ({ cls := "ReelOfficeModel", name := "isReadable", desc := "()Z" } : Jvm.MethodName)) ∈ tb := mem_tb (List.mem_of_getElem? (i := 809) (by decide +kernel)) (by decide +kernel)
theorem k_810 : (Jvm.Cond.code ({ cls := "ReelOfficeModel", name := "isReadable", desc := "()Z" } : Jvm.MethodName) prog_9_method_23_code (4 : Nat) (Option.some Jvm.ClassFile.FieldType.boolean)) ∈ tb := mem_tb (List.mem_of_getElem? (i := 810) (by decide +kernel)) (by decide +kernel)
theorem k_811 : (Jvm.Cond.methodLink "ReelOfficeModel" (160 : Nat) ({ cls := "ReelOfficeModel", name := "mergeRuns", desc := "()Z" } : Jvm.MethodName)) ∈ tb := mem_tb (List.mem_of_getElem? (i := 811) (by decide +kernel)) (by decide +kernel)
theorem k_813 : (Jvm.Cond.instanceMethod ({ cls := "ReelOfficeModel", name := "mergeRuns", desc := "()Z" } : Jvm.MethodName)) ∈ tb := mem_tb (List.mem_of_getElem? (i := 813) (by decide +kernel)) (by decide +kernel)
theorem k_814 : (Jvm.Cond.code ({ cls := "ReelOfficeModel", name := "mergeRuns", desc := "()Z" } : Jvm.MethodName) prog_9_method_24_code (7 : Nat) (Option.some Jvm.ClassFile.FieldType.boolean)) ∈ tb := mem_tb (List.mem_of_getElem? (i := 814) (by decide +kernel)) (by decide +kernel)
theorem k_815 : (Jvm.Cond.methodLink "ReelOfficeModel" (163 : Nat) ({ cls := "ReelOfficeModel", name := "takeOff", desc := "(I)V" } : Jvm.MethodName)) ∈ tb := mem_tb (List.mem_of_getElem? (i := 815) (by decide +kernel)) (by decide +kernel)
theorem k_817 : (Jvm.Cond.instanceMethod ({ cls := "ReelOfficeModel", name := "takeOff", desc := "(I)V" } : Jvm.MethodName)) ∈ tb := mem_tb (List.mem_of_getElem? (i := 817) (by decide +kernel)) (by decide +kernel)
theorem k_818 : (Jvm.Cond.code ({ cls := "ReelOfficeModel", name := "takeOff", desc := "(I)V" } : Jvm.MethodName) prog_9_method_21_code (5 : Nat) (Option.none : Option Jvm.ClassFile.FieldType)) ∈ tb := mem_tb (List.mem_of_getElem? (i := 818) (by decide +kernel)) (by decide +kernel)
theorem k_819 : (Jvm.Cond.methodLink "ReelOfficeModel" (166 : Nat) ({ cls := "ReelOfficeModel", name := "turn", desc := "()V" } : Jvm.MethodName)) ∈ tb := mem_tb (List.mem_of_getElem? (i := 819) (by decide +kernel)) (by decide +kernel)
theorem k_821 : (Jvm.Cond.instanceMethod ({ cls := "ReelOfficeModel", name := "turn", desc := "()V" } : Jvm.MethodName)) ∈ tb := mem_tb (List.mem_of_getElem? (i := 821) (by decide +kernel)) (by decide +kernel)
theorem k_822 : (Jvm.Cond.code ({ cls := "ReelOfficeModel", name := "turn", desc := "()V" } : Jvm.MethodName) prog_9_method_25_code (2 : Nat) (Option.none : Option Jvm.ClassFile.FieldType)) ∈ tb := mem_tb (List.mem_of_getElem? (i := 822) (by decide +kernel)) (by decide +kernel)
theorem k_827 : (Jvm.Cond.methodLink "ReelOfficeModel" (175 : Nat) ({ cls := "ReelOfficeModel", name := "isTape", desc := "(I)Z" } : Jvm.MethodName)) ∈ tb := mem_tb (List.mem_of_getElem? (i := 827) (by decide +kernel)) (by decide +kernel)
theorem k_828 : (Jvm.Cond.static ({ cls := "ReelOfficeModel", name := "isTape", desc := "(I)Z" } : Jvm.MethodName)) ∈ tb := mem_tb (List.mem_of_getElem? (i := 828) (by decide +kernel)) (by decide +kernel)
theorem k_829 : (Jvm.Cond.code ({ cls := "ReelOfficeModel", name := "isTape", desc := "(I)Z" } : Jvm.MethodName) prog_9_method_28_code (1 : Nat) (Option.some Jvm.ClassFile.FieldType.boolean)) ∈ tb := mem_tb (List.mem_of_getElem? (i := 829) (by decide +kernel)) (by decide +kernel)
theorem k_863 : (Jvm.Cond.instanceMethod ({ cls := "ReelOfficeModel", name := "at", desc := "(III)I" } : Jvm.MethodName)) ∈ tb := mem_tb (List.mem_of_getElem? (i := 863) (by decide +kernel)) (by decide +kernel)
theorem k_864 : (Jvm.Cond.selects "ReelOfficeModel" ({ cls := "ReelOfficeModel", name := "at", desc := "(III)I" } : Jvm.MethodName) ({ cls := "ReelOfficeModel", name := "at", desc := "(III)I" } : Jvm.MethodName)) ∈ tb := mem_tb (List.mem_of_getElem? (i := 864) (by decide +kernel)) (by decide +kernel)
theorem k_865 : (Jvm.Cond.code ({ cls := "ReelOfficeModel", name := "at", desc := "(III)I" } : Jvm.MethodName) prog_9_method_38_code (6 : Nat) (Option.some Jvm.ClassFile.FieldType.int)) ∈ tb := mem_tb (List.mem_of_getElem? (i := 865) (by decide +kernel)) (by decide +kernel)
theorem k_882 : (Jvm.Cond.methodLink "ReelOfficeModel" (178 : Nat) ({ cls := "ReelOfficeModel", name := "at", desc := "(III)I" } : Jvm.MethodName)) ∈ tb := mem_tb (List.mem_of_getElem? (i := 882) (by decide +kernel)) (by decide +kernel)
theorem ks_O_tapeInRole : Cond.selects R_O y_O_tapeInRole y_O_tapeInRole ∈ tb := mem_tbs (List.mem_map.mpr ⟨(y_O_tapeInRole, 12), by decide +kernel, rfl⟩) (by decide +kernel)
theorem ks_O_takeFromSources : Cond.selects R_O y_O_takeFromSources y_O_takeFromSources ∈ tb := mem_tbs (List.mem_map.mpr ⟨(y_O_takeFromSources, 12), by decide +kernel, rfl⟩) (by decide +kernel)
theorem ks_O_endLevel : Cond.selects R_O y_O_endLevel y_O_endLevel ∈ tb := mem_tbs (List.mem_map.mpr ⟨(y_O_endLevel, 12), by decide +kernel, rfl⟩) (by decide +kernel)
theorem ks_O_everySourceHasDummy : Cond.selects R_O y_O_everySourceHasDummy y_O_everySourceHasDummy ∈ tb := mem_tbs (List.mem_map.mpr ⟨(y_O_everySourceHasDummy, 12), by decide +kernel, rfl⟩) (by decide +kernel)
theorem ks_O_sourcesCanBeRead : Cond.selects R_O y_O_sourcesCanBeRead y_O_sourcesCanBeRead ∈ tb := mem_tbs (List.mem_map.mpr ⟨(y_O_sourcesCanBeRead, 12), by decide +kernel, rfl⟩) (by decide +kernel)
theorem ks_O_nextCardOf : Cond.selects R_O y_O_nextCardOf y_O_nextCardOf ∈ tb := mem_tbs (List.mem_map.mpr ⟨(y_O_nextCardOf, 12), by decide +kernel, rfl⟩) (by decide +kernel)
theorem ks_O_sourceOfFirstCard : Cond.selects R_O y_O_sourceOfFirstCard y_O_sourceOfFirstCard ∈ tb := mem_tbs (List.mem_map.mpr ⟨(y_O_sourceOfFirstCard, 12), by decide +kernel, rfl⟩) (by decide +kernel)
theorem ks_O_writeMergedRun : Cond.selects R_O y_O_writeMergedRun y_O_writeMergedRun ∈ tb := mem_tbs (List.mem_map.mpr ⟨(y_O_writeMergedRun, 12), by decide +kernel, rfl⟩) (by decide +kernel)
theorem ks_O_mergeRuns : Cond.selects R_O y_O_mergeRuns y_O_mergeRuns ∈ tb := mem_tbs (List.mem_map.mpr ⟨(y_O_mergeRuns, 12), by decide +kernel, rfl⟩) (by decide +kernel)
theorem ks_O_writeRunFromTrial : Cond.selects R_O y_O_writeRunFromTrial y_O_writeRunFromTrial ∈ tb := mem_tbs (List.mem_map.mpr ⟨(y_O_writeRunFromTrial, 12), by decide +kernel, rfl⟩) (by decide +kernel)
theorem ks_P_growTo : Cond.selects R_P y_P_growTo y_P_growTo ∈ tb := mem_tbs (List.mem_map.mpr ⟨(y_P_growTo, 3), by decide +kernel, rfl⟩) (by decide +kernel)
theorem ks_P_goUp : Cond.selects R_P y_P_goUp y_P_goUp ∈ tb := mem_tbs (List.mem_map.mpr ⟨(y_P_goUp, 3), by decide +kernel, rfl⟩) (by decide +kernel)
theorem ks_O_layRun : Cond.selects R_O y_O_layRun y_O_layRun ∈ tb := mem_tbs (List.mem_map.mpr ⟨(y_O_layRun, 12), by decide +kernel, rfl⟩) (by decide +kernel)
theorem ks_M_isCard : Cond.selects R_M y_M_isCard y_M_isCard ∈ tb := mem_tbs (List.mem_map.mpr ⟨(y_M_isCard, 33), by decide +kernel, rfl⟩) (by decide +kernel)
theorem ks_M_comesFirst : Cond.selects R_M y_M_comesFirst y_M_comesFirst ∈ tb := mem_tbs (List.mem_map.mpr ⟨(y_M_comesFirst, 33), by decide +kernel, rfl⟩) (by decide +kernel)
theorem ks_M_reset : Cond.selects R_M y_M_reset y_M_reset ∈ tb := mem_tbs (List.mem_map.mpr ⟨(y_M_reset, 33), by decide +kernel, rfl⟩) (by decide +kernel)
theorem ks_M_write : Cond.selects R_M y_M_write y_M_write ∈ tb := mem_tbs (List.mem_map.mpr ⟨(y_M_write, 33), by decide +kernel, rfl⟩) (by decide +kernel)
theorem ks_M_first : Cond.selects R_M y_M_first y_M_first ∈ tb := mem_tbs (List.mem_map.mpr ⟨(y_M_first, 33), by decide +kernel, rfl⟩) (by decide +kernel)
theorem ks_M_cardsOn : Cond.selects R_M y_M_cardsOn y_M_cardsOn ∈ tb := mem_tbs (List.mem_map.mpr ⟨(y_M_cardsOn, 33), by decide +kernel, rfl⟩) (by decide +kernel)
theorem ks_M_append : Cond.selects R_M y_M_append y_M_append ∈ tb := mem_tbs (List.mem_map.mpr ⟨(y_M_append, 33), by decide +kernel, rfl⟩) (by decide +kernel)
theorem ks_M_putAside : Cond.selects R_M y_M_putAside y_M_putAside ∈ tb := mem_tbs (List.mem_map.mpr ⟨(y_M_putAside, 33), by decide +kernel, rfl⟩) (by decide +kernel)
theorem ks_M_makeRun : Cond.selects R_M y_M_makeRun y_M_makeRun ∈ tb := mem_tbs (List.mem_map.mpr ⟨(y_M_makeRun, 33), by decide +kernel, rfl⟩) (by decide +kernel)
theorem ks_M_takeBack : Cond.selects R_M y_M_takeBack y_M_takeBack ∈ tb := mem_tbs (List.mem_map.mpr ⟨(y_M_takeBack, 33), by decide +kernel, rfl⟩) (by decide +kernel)
theorem ks_M_findPlace : Cond.selects R_M y_M_findPlace y_M_findPlace ∈ tb := mem_tbs (List.mem_map.mpr ⟨(y_M_findPlace, 33), by decide +kernel, rfl⟩) (by decide +kernel)
theorem ks_M_turn : Cond.selects R_M y_M_turn y_M_turn ∈ tb := mem_tbs (List.mem_map.mpr ⟨(y_M_turn, 33), by decide +kernel, rfl⟩) (by decide +kernel)
theorem ks_M_takeOff : Cond.selects R_M y_M_takeOff y_M_takeOff ∈ tb := mem_tbs (List.mem_map.mpr ⟨(y_M_takeOff, 33), by decide +kernel, rfl⟩) (by decide +kernel)
theorem ks_M_isReadable : Cond.selects R_M y_M_isReadable y_M_isReadable ∈ tb := mem_tbs (List.mem_map.mpr ⟨(y_M_isReadable, 33), by decide +kernel, rfl⟩) (by decide +kernel)
theorem ks_M_mergeRuns : Cond.selects R_M y_M_mergeRuns y_M_mergeRuns ∈ tb := mem_tbs (List.mem_map.mpr ⟨(y_M_mergeRuns, 33), by decide +kernel, rfl⟩) (by decide +kernel)
theorem ks_M_merge : Cond.selects R_M y_M_merge y_M_merge ∈ tb := mem_tbs (List.mem_map.mpr ⟨(y_M_merge, 33), by decide +kernel, rfl⟩) (by decide +kernel)
theorem ks_M_lay : Cond.selects R_M y_M_lay y_M_lay ∈ tb := mem_tbs (List.mem_map.mpr ⟨(y_M_lay, 33), by decide +kernel, rfl⟩) (by decide +kernel)
def nwW (U : State) : Prop := va_Nw (Jvm.Cond.methodLinkNest "ReelOffice" (9 : Nat) ({ cls := "ReelOffice$Deck", name := "<init>", desc := "()V" } : Jvm.MethodName) "ReelOffice") U ∧ va_Nw (Jvm.Cond.methodLinkNest "ReelOffice" (18 : Nat) ({ cls := "ReelOffice$Plan", name := "<init>", desc := "()V" } : Jvm.MethodName) "ReelOffice") U ∧ va_Nw (Jvm.Cond.methodLinkNest "ReelOffice" (25 : Nat) ({ cls := "ReelOffice$Writer", name := "<init>", desc := "()V" } : Jvm.MethodName) "ReelOffice") U ∧ va_Nw (Jvm.Cond.methodLinkNest "ReelOffice" (32 : Nat) ({ cls := "ReelOffice$Row", name := "<init>", desc := "()V" } : Jvm.MethodName) "ReelOffice") U ∧ va_Nw (Jvm.Cond.fieldLinkNest "ReelOffice$Tape" (40 : Nat) "ReelOffice$Row" "cards" "[I" "ReelOffice") U ∧ va_Nw (Jvm.Cond.fieldLinkNest "ReelOffice$Tape" (35 : Nat) "ReelOffice$Row" "size" "I" "ReelOffice") U ∧ va_Nw (Jvm.Cond.methodLinkNest "ReelOffice" (72 : Nat) ({ cls := "ReelOffice$Tape", name := "<init>", desc := "()V" } : Jvm.MethodName) "ReelOffice") U ∧ va_Nw (Jvm.Cond.methodLinkNest "ReelOffice$Deck" (41 : Nat) ({ cls := "ReelOffice", name := "isField", desc := "(I)Z" } : Jvm.MethodName) "ReelOffice") U ∧ va_AO "ReelOffice$Tape" U ∧ va_AI U
theorem nw_warm {s U : State} (hW : s.WarmedH U.vm) (h : nwW s) : nwW U := by
  obtain ⟨h0, h1, h2, h3, h4, h5, h6, h7, a1, a2⟩ := h
  exact ⟨va_Nw.warmM hW h0, va_Nw.warmM hW h1, va_Nw.warmM hW h2, va_Nw.warmM hW h3, va_Nw.warmF hW h4, va_Nw.warmF hW h5, va_Nw.warmM hW h6, va_Nw.warmM hW h7, a1.moved hW.alike, a2.moved hW.alike⟩
theorem nw_same {u U : State} (e : u.vm = U.vm) (h : nwW u) : nwW U := by
  obtain ⟨h0, h1, h2, h3, h4, h5, h6, h7, a1, a2⟩ := h
  have hal : u.vm.Alike U.vm := by rw [e]; exact Vm.Alike.refl _
  exact ⟨va_Nw.same rfl e h0, va_Nw.same rfl e h1, va_Nw.same rfl e h2, va_Nw.same rfl e h3, va_Nw.same rfl e h4, va_Nw.same rfl e h5, va_Nw.same rfl e h6, va_Nw.same rfl e h7, a1.moved hal, a2.moved hal⟩
theorem in_O : ∀ w ∈ u_ws R_O F_O 12, w ∈ tb := by decide +kernel
theorem in_D : ∀ w ∈ u_ws R_D F_D 5, w ∈ tb := by decide +kernel
theorem in_S : ∀ w ∈ u_ws R_S F_S 5, w ∈ tb := by decide +kernel
theorem in_P : ∀ w ∈ u_ws R_P F_P 3, w ∈ tb := by decide +kernel
theorem in_V : ∀ w ∈ u_ws R_V F_V 4, w ∈ tb := by decide +kernel
theorem in_R : ∀ w ∈ u_ws R_R F_R 2, w ∈ tb := by decide +kernel
theorem in_T : ∀ w ∈ u_ws R_T F_T 6, w ∈ tb := by decide +kernel
theorem in_M : ∀ w ∈ u_ws R_M F_M 33, w ∈ tb := by decide +kernel
end
section
def wX (ad : Nat → Nat → Nat) (cs : Nat → ClassId) (σ : SX) : va_W := [(ad 0 0, .inr (0, [.ref (ad 1 0), .ref (ad 2 0), .ref (ad 3 0), .ref (ad 4 0), .ref (ad 5 0), .ref (ad 6 0), .ref (ad 0 9), .ref (ad 0 1), .ref (ad 0 2), .ref (ad 0 3), .int ((σ 0).1 0), .int ((σ 0).1 1)])),
  (ad 1 0, .inr (1, [.ref (ad 1 9), .ref (ad 1 3), .ref (ad 1 4), .int ((σ 1).1 0), .int ((σ 1).1 1)])),
  (ad 1 9, .inl (cs 3, 2, .inr (.inr (.inr (.inr (fun i => some (ad 1 (1 + i)))))))),
  (ad 1 1, .inl (cs 0, 150, .inl ((σ 1).2 1))),
  (ad 1 2, .inl (cs 0, 150, .inl ((σ 1).2 2))),
  (ad 1 3, .inl (cs 0, 3, .inl ((σ 1).2 3))),
  (ad 1 4, .inl (cs 0, 3, .inl ((σ 1).2 4))),
  (ad 2 0, .inr (2, [.int ((σ 2).1 0), .ref (ad 2 1), .ref (ad 2 2), .int ((σ 2).1 1), .int ((σ 2).1 2)])),
  (ad 2 1, .inl (cs 0, 8, .inl ((σ 2).2 1))),
  (ad 2 2, .inl (cs 1, 8, .inl ((σ 2).2 2))),
  (ad 3 0, .inr (2, [.int ((σ 3).1 0), .ref (ad 3 1), .ref (ad 3 2), .int ((σ 3).1 1), .int ((σ 3).1 2)])),
  (ad 3 1, .inl (cs 0, 8, .inl ((σ 3).2 1))),
  (ad 3 2, .inl (cs 1, 8, .inl ((σ 3).2 2))),
  (ad 4 0, .inr (3, [.ref (ad 4 1), .int ((σ 4).1 0), .int ((σ 4).1 1)])),
  (ad 4 1, .inl (cs 0, 3, .inl ((σ 4).2 1))),
  (ad 5 0, .inr (4, [.int ((σ 5).1 0), .int ((σ 5).1 1), .int ((σ 5).1 2), .int ((σ 5).1 3)])),
  (ad 6 0, .inr (5, [.ref (ad 6 1), .int ((σ 6).1 0)])),
  (ad 6 1, .inl (cs 0, 150, .inl ((σ 6).2 1))),
  (ad 0 9, .inl (cs 2, 4, .inr (.inr (.inr (.inr (fun i => some (ad (7 + i) 0))))))),
  (ad 7 0, .inr (6, [.ref (ad 7 1), .ref (ad 7 2), .int ((σ 7).1 0), .int ((σ 7).1 1), .int ((σ 7).1 2), .int ((σ 7).1 3)])),
  (ad 7 1, .inl (cs 0, 150, .inl ((σ 7).2 1))),
  (ad 7 2, .inl (cs 0, 150, .inl ((σ 7).2 2))),
  (ad 8 0, .inr (6, [.ref (ad 8 1), .ref (ad 8 2), .int ((σ 8).1 0), .int ((σ 8).1 1), .int ((σ 8).1 2), .int ((σ 8).1 3)])),
  (ad 8 1, .inl (cs 0, 150, .inl ((σ 8).2 1))),
  (ad 8 2, .inl (cs 0, 150, .inl ((σ 8).2 2))),
  (ad 9 0, .inr (6, [.ref (ad 9 1), .ref (ad 9 2), .int ((σ 9).1 0), .int ((σ 9).1 1), .int ((σ 9).1 2), .int ((σ 9).1 3)])),
  (ad 9 1, .inl (cs 0, 150, .inl ((σ 9).2 1))),
  (ad 9 2, .inl (cs 0, 150, .inl ((σ 9).2 2))),
  (ad 10 0, .inr (6, [.ref (ad 10 1), .ref (ad 10 2), .int ((σ 10).1 0), .int ((σ 10).1 1), .int ((σ 10).1 2), .int ((σ 10).1 3)])),
  (ad 10 1, .inl (cs 0, 150, .inl ((σ 10).2 1))),
  (ad 10 2, .inl (cs 0, 150, .inl ((σ 10).2 2))),
  (ad 0 1, .inl (cs 0, 4, .inl ((σ 0).2 1))),
  (ad 0 2, .inl (cs 0, 3, .inl ((σ 0).2 2))),
  (ad 0 3, .inl (cs 0, 3, .inl ((σ 0).2 3)))]
def wM (ad : Nat → Nat → Nat) (cs : Nat → ClassId) (σ : SX) : va_W := [(ad 0 0, .inr (7, [.int ((σ 0).1 0), .int ((σ 0).1 1), .int ((σ 0).1 2), .ref (ad 0 1), .int ((σ 0).1 3), .ref (ad 0 2), .ref (ad 0 3), .int ((σ 0).1 4), .int ((σ 0).1 5), .int ((σ 0).1 6), .int ((σ 0).1 7), .int ((σ 0).1 8), .ref (ad 0 4), .int ((σ 0).1 9), .ref (ad 0 5), .ref (ad 0 6), .int ((σ 0).1 10), .int ((σ 0).1 11), .ref (ad 0 7), .int ((σ 0).1 12), .int ((σ 0).1 13), .ref (ad 0 8), .ref (ad 0 9), .ref (ad 0 10), .ref (ad 0 11), .ref (ad 0 12), .int ((σ 0).1 14), .ref (ad 0 13), .ref (ad 0 14), .int ((σ 0).1 15), .int ((σ 0).1 16), .ref (ad 0 15), .ref (ad 0 16)])),
  (ad 0 1, .inl (cs 0, 300, .inl ((σ 0).2 1))),
  (ad 0 2, .inl (cs 0, 3, .inl ((σ 0).2 2))),
  (ad 0 3, .inl (cs 0, 3, .inl ((σ 0).2 3))),
  (ad 0 4, .inl (cs 0, 4, .inl ((σ 0).2 4))),
  (ad 0 5, .inl (cs 0, 8, .inl ((σ 0).2 5))),
  (ad 0 6, .inl (cs 1, 8, .inl ((σ 0).2 6))),
  (ad 0 7, .inl (cs 0, 3, .inl ((σ 0).2 7))),
  (ad 0 8, .inl (cs 0, 600, .inl ((σ 0).2 8))),
  (ad 0 9, .inl (cs 0, 600, .inl ((σ 0).2 9))),
  (ad 0 10, .inl (cs 0, 4, .inl ((σ 0).2 10))),
  (ad 0 11, .inl (cs 0, 4, .inl ((σ 0).2 11))),
  (ad 0 12, .inl (cs 0, 4, .inl ((σ 0).2 12))),
  (ad 0 13, .inl (cs 0, 8, .inl ((σ 0).2 13))),
  (ad 0 14, .inl (cs 1, 8, .inl ((σ 0).2 14))),
  (ad 0 15, .inl (cs 0, 150, .inl ((σ 0).2 15))),
  (ad 0 16, .inl (cs 0, 3, .inl ((σ 0).2 16)))]
theorem g_O {ad : Nat → Nat → Nat} {cs : Nat → ClassId} {σ : SX} : (wX ad cs σ)[0]? = some (ad 0 0, .inr (0, [.ref (ad 1 0), .ref (ad 2 0), .ref (ad 3 0), .ref (ad 4 0), .ref (ad 5 0), .ref (ad 6 0), .ref (ad 0 9), .ref (ad 0 1), .ref (ad 0 2), .ref (ad 0 3), .int ((σ 0).1 0), .int ((σ 0).1 1)])) := rfl
theorem g_O_a1 {ad : Nat → Nat → Nat} {cs : Nat → ClassId} {σ : SX} : (wX ad cs σ)[31]? = some (ad 0 1, .inl (cs 0, 4, .inl ((σ 0).2 1))) := rfl
theorem u_O_1 {ad : Nat → Nat → Nat} {cs : Nat → ClassId} {σ : SX} {f : Nat → Int32} : (wX ad cs σ).set 31 (ad 0 1, .inl (cs 0, 4, .inl f)) = wX ad cs (w2 σ 0 1 f) := rfl
theorem t_O_1 {ad : Nat → Nat → Nat} {cs : Nat → ClassId} {σ : SX} {ii xx : Int32} : (wX ad cs σ).set 31 (ad 0 1, .inl (cs 0, 4, .inl (upd ((σ 0).2 1) ii.toNatClampNeg xx))) = wX ad cs (w3 σ 0 1 ii xx) := u_O_1
theorem g_O_a2 {ad : Nat → Nat → Nat} {cs : Nat → ClassId} {σ : SX} : (wX ad cs σ)[32]? = some (ad 0 2, .inl (cs 0, 3, .inl ((σ 0).2 2))) := rfl
theorem u_O_2 {ad : Nat → Nat → Nat} {cs : Nat → ClassId} {σ : SX} {f : Nat → Int32} : (wX ad cs σ).set 32 (ad 0 2, .inl (cs 0, 3, .inl f)) = wX ad cs (w2 σ 0 2 f) := rfl
theorem t_O_2 {ad : Nat → Nat → Nat} {cs : Nat → ClassId} {σ : SX} {ii xx : Int32} : (wX ad cs σ).set 32 (ad 0 2, .inl (cs 0, 3, .inl (upd ((σ 0).2 2) ii.toNatClampNeg xx))) = wX ad cs (w3 σ 0 2 ii xx) := u_O_2
theorem g_O_a3 {ad : Nat → Nat → Nat} {cs : Nat → ClassId} {σ : SX} : (wX ad cs σ)[33]? = some (ad 0 3, .inl (cs 0, 3, .inl ((σ 0).2 3))) := rfl
theorem u_O_3 {ad : Nat → Nat → Nat} {cs : Nat → ClassId} {σ : SX} {f : Nat → Int32} : (wX ad cs σ).set 33 (ad 0 3, .inl (cs 0, 3, .inl f)) = wX ad cs (w2 σ 0 3 f) := rfl
theorem t_O_3 {ad : Nat → Nat → Nat} {cs : Nat → ClassId} {σ : SX} {ii xx : Int32} : (wX ad cs σ).set 33 (ad 0 3, .inl (cs 0, 3, .inl (upd ((σ 0).2 3) ii.toNatClampNeg xx))) = wX ad cs (w3 σ 0 3 ii xx) := u_O_3
theorem s_O_0 {ad : Nat → Nat → Nat} {cs : Nat → ClassId} {σ : SX} {v : Int32} : (wX ad cs σ).set 0 (ad 0 0, .inr (0, ([.ref (ad 1 0), .ref (ad 2 0), .ref (ad 3 0), .ref (ad 4 0), .ref (ad 5 0), .ref (ad 6 0), .ref (ad 0 9), .ref (ad 0 1), .ref (ad 0 2), .ref (ad 0 3), .int ((σ 0).1 0), .int ((σ 0).1 1)] : List Value).set 10 (.int v))) = wX ad cs (w1 σ 0 0 v) := rfl
theorem s_O_1 {ad : Nat → Nat → Nat} {cs : Nat → ClassId} {σ : SX} {v : Int32} : (wX ad cs σ).set 0 (ad 0 0, .inr (0, ([.ref (ad 1 0), .ref (ad 2 0), .ref (ad 3 0), .ref (ad 4 0), .ref (ad 5 0), .ref (ad 6 0), .ref (ad 0 9), .ref (ad 0 1), .ref (ad 0 2), .ref (ad 0 3), .int ((σ 0).1 0), .int ((σ 0).1 1)] : List Value).set 11 (.int v))) = wX ad cs (w1 σ 0 1 v) := rfl
theorem g_D {ad : Nat → Nat → Nat} {cs : Nat → ClassId} {σ : SX} : (wX ad cs σ)[1]? = some (ad 1 0, .inr (1, [.ref (ad 1 9), .ref (ad 1 3), .ref (ad 1 4), .int ((σ 1).1 0), .int ((σ 1).1 1)])) := rfl
theorem g_D_a1 {ad : Nat → Nat → Nat} {cs : Nat → ClassId} {σ : SX} : (wX ad cs σ)[3]? = some (ad 1 1, .inl (cs 0, 150, .inl ((σ 1).2 1))) := rfl
theorem u_D_1 {ad : Nat → Nat → Nat} {cs : Nat → ClassId} {σ : SX} {f : Nat → Int32} : (wX ad cs σ).set 3 (ad 1 1, .inl (cs 0, 150, .inl f)) = wX ad cs (w2 σ 1 1 f) := rfl
theorem t_D_1 {ad : Nat → Nat → Nat} {cs : Nat → ClassId} {σ : SX} {ii xx : Int32} : (wX ad cs σ).set 3 (ad 1 1, .inl (cs 0, 150, .inl (upd ((σ 1).2 1) ii.toNatClampNeg xx))) = wX ad cs (w3 σ 1 1 ii xx) := u_D_1
theorem g_D_a2 {ad : Nat → Nat → Nat} {cs : Nat → ClassId} {σ : SX} : (wX ad cs σ)[4]? = some (ad 1 2, .inl (cs 0, 150, .inl ((σ 1).2 2))) := rfl
theorem u_D_2 {ad : Nat → Nat → Nat} {cs : Nat → ClassId} {σ : SX} {f : Nat → Int32} : (wX ad cs σ).set 4 (ad 1 2, .inl (cs 0, 150, .inl f)) = wX ad cs (w2 σ 1 2 f) := rfl
theorem t_D_2 {ad : Nat → Nat → Nat} {cs : Nat → ClassId} {σ : SX} {ii xx : Int32} : (wX ad cs σ).set 4 (ad 1 2, .inl (cs 0, 150, .inl (upd ((σ 1).2 2) ii.toNatClampNeg xx))) = wX ad cs (w3 σ 1 2 ii xx) := u_D_2
theorem g_D_a3 {ad : Nat → Nat → Nat} {cs : Nat → ClassId} {σ : SX} : (wX ad cs σ)[5]? = some (ad 1 3, .inl (cs 0, 3, .inl ((σ 1).2 3))) := rfl
theorem u_D_3 {ad : Nat → Nat → Nat} {cs : Nat → ClassId} {σ : SX} {f : Nat → Int32} : (wX ad cs σ).set 5 (ad 1 3, .inl (cs 0, 3, .inl f)) = wX ad cs (w2 σ 1 3 f) := rfl
theorem t_D_3 {ad : Nat → Nat → Nat} {cs : Nat → ClassId} {σ : SX} {ii xx : Int32} : (wX ad cs σ).set 5 (ad 1 3, .inl (cs 0, 3, .inl (upd ((σ 1).2 3) ii.toNatClampNeg xx))) = wX ad cs (w3 σ 1 3 ii xx) := u_D_3
theorem g_D_a4 {ad : Nat → Nat → Nat} {cs : Nat → ClassId} {σ : SX} : (wX ad cs σ)[6]? = some (ad 1 4, .inl (cs 0, 3, .inl ((σ 1).2 4))) := rfl
theorem u_D_4 {ad : Nat → Nat → Nat} {cs : Nat → ClassId} {σ : SX} {f : Nat → Int32} : (wX ad cs σ).set 6 (ad 1 4, .inl (cs 0, 3, .inl f)) = wX ad cs (w2 σ 1 4 f) := rfl
theorem t_D_4 {ad : Nat → Nat → Nat} {cs : Nat → ClassId} {σ : SX} {ii xx : Int32} : (wX ad cs σ).set 6 (ad 1 4, .inl (cs 0, 3, .inl (upd ((σ 1).2 4) ii.toNatClampNeg xx))) = wX ad cs (w3 σ 1 4 ii xx) := u_D_4
theorem s_D_0 {ad : Nat → Nat → Nat} {cs : Nat → ClassId} {σ : SX} {v : Int32} : (wX ad cs σ).set 1 (ad 1 0, .inr (1, ([.ref (ad 1 9), .ref (ad 1 3), .ref (ad 1 4), .int ((σ 1).1 0), .int ((σ 1).1 1)] : List Value).set 3 (.int v))) = wX ad cs (w1 σ 1 0 v) := rfl
theorem s_D_1 {ad : Nat → Nat → Nat} {cs : Nat → ClassId} {σ : SX} {v : Int32} : (wX ad cs σ).set 1 (ad 1 0, .inr (1, ([.ref (ad 1 9), .ref (ad 1 3), .ref (ad 1 4), .int ((σ 1).1 0), .int ((σ 1).1 1)] : List Value).set 4 (.int v))) = wX ad cs (w1 σ 1 1 v) := rfl
theorem g_S {ad : Nat → Nat → Nat} {cs : Nat → ClassId} {σ : SX} {j : Nat} (hj : j = 2 ∨ j = 3) : (wX ad cs σ)[(3 * j + 1)]? = some (ad j 0, .inr (2, [.int ((σ j).1 0), .ref (ad j 1), .ref (ad j 2), .int ((σ j).1 1), .int ((σ j).1 2)])) := by rcases hj with rfl | rfl <;> rfl
theorem g_S_a1 {ad : Nat → Nat → Nat} {cs : Nat → ClassId} {σ : SX} {j : Nat} (hj : j = 2 ∨ j = 3) : (wX ad cs σ)[(3 * j + 2)]? = some (ad j 1, .inl (cs 0, 8, .inl ((σ j).2 1))) := by rcases hj with rfl | rfl <;> rfl
theorem u_S_1 {ad : Nat → Nat → Nat} {cs : Nat → ClassId} {σ : SX} {j : Nat} (hj : j = 2 ∨ j = 3) {f : Nat → Int32} : (wX ad cs σ).set (3 * j + 2) (ad j 1, .inl (cs 0, 8, .inl f)) = wX ad cs (w2 σ j 1 f) := by rcases hj with rfl | rfl <;> rfl
theorem t_S_1 {ad : Nat → Nat → Nat} {cs : Nat → ClassId} {σ : SX} {j : Nat} (hj : j = 2 ∨ j = 3) {ii xx : Int32} : (wX ad cs σ).set (3 * j + 2) (ad j 1, .inl (cs 0, 8, .inl (upd ((σ j).2 1) ii.toNatClampNeg xx))) = wX ad cs (w3 σ j 1 ii xx) := u_S_1 hj
theorem g_S_a2 {ad : Nat → Nat → Nat} {cs : Nat → ClassId} {σ : SX} {j : Nat} (hj : j = 2 ∨ j = 3) : (wX ad cs σ)[(3 * j + 3)]? = some (ad j 2, .inl (cs 1, 8, .inl ((σ j).2 2))) := by rcases hj with rfl | rfl <;> rfl
theorem u_S_2 {ad : Nat → Nat → Nat} {cs : Nat → ClassId} {σ : SX} {j : Nat} (hj : j = 2 ∨ j = 3) {f : Nat → Int32} : (wX ad cs σ).set (3 * j + 3) (ad j 2, .inl (cs 1, 8, .inl f)) = wX ad cs (w2 σ j 2 f) := by rcases hj with rfl | rfl <;> rfl
theorem t_S_2 {ad : Nat → Nat → Nat} {cs : Nat → ClassId} {σ : SX} {j : Nat} (hj : j = 2 ∨ j = 3) {ii xx : Int32} : (wX ad cs σ).set (3 * j + 3) (ad j 2, .inl (cs 1, 8, .inl (upd ((σ j).2 2) ii.toNatClampNeg xx))) = wX ad cs (w3 σ j 2 ii xx) := u_S_2 hj
theorem s_S_0 {ad : Nat → Nat → Nat} {cs : Nat → ClassId} {σ : SX} {j : Nat} (hj : j = 2 ∨ j = 3) {v : Int32} : (wX ad cs σ).set (3 * j + 1) (ad j 0, .inr (2, ([.int ((σ j).1 0), .ref (ad j 1), .ref (ad j 2), .int ((σ j).1 1), .int ((σ j).1 2)] : List Value).set 0 (.int v))) = wX ad cs (w1 σ j 0 v) := by rcases hj with rfl | rfl <;> rfl
theorem s_S_1 {ad : Nat → Nat → Nat} {cs : Nat → ClassId} {σ : SX} {j : Nat} (hj : j = 2 ∨ j = 3) {v : Int32} : (wX ad cs σ).set (3 * j + 1) (ad j 0, .inr (2, ([.int ((σ j).1 0), .ref (ad j 1), .ref (ad j 2), .int ((σ j).1 1), .int ((σ j).1 2)] : List Value).set 3 (.int v))) = wX ad cs (w1 σ j 1 v) := by rcases hj with rfl | rfl <;> rfl
theorem s_S_2 {ad : Nat → Nat → Nat} {cs : Nat → ClassId} {σ : SX} {j : Nat} (hj : j = 2 ∨ j = 3) {v : Int32} : (wX ad cs σ).set (3 * j + 1) (ad j 0, .inr (2, ([.int ((σ j).1 0), .ref (ad j 1), .ref (ad j 2), .int ((σ j).1 1), .int ((σ j).1 2)] : List Value).set 4 (.int v))) = wX ad cs (w1 σ j 2 v) := by rcases hj with rfl | rfl <;> rfl
theorem g_P {ad : Nat → Nat → Nat} {cs : Nat → ClassId} {σ : SX} : (wX ad cs σ)[13]? = some (ad 4 0, .inr (3, [.ref (ad 4 1), .int ((σ 4).1 0), .int ((σ 4).1 1)])) := rfl
theorem g_P_a1 {ad : Nat → Nat → Nat} {cs : Nat → ClassId} {σ : SX} : (wX ad cs σ)[14]? = some (ad 4 1, .inl (cs 0, 3, .inl ((σ 4).2 1))) := rfl
theorem u_P_1 {ad : Nat → Nat → Nat} {cs : Nat → ClassId} {σ : SX} {f : Nat → Int32} : (wX ad cs σ).set 14 (ad 4 1, .inl (cs 0, 3, .inl f)) = wX ad cs (w2 σ 4 1 f) := rfl
theorem t_P_1 {ad : Nat → Nat → Nat} {cs : Nat → ClassId} {σ : SX} {ii xx : Int32} : (wX ad cs σ).set 14 (ad 4 1, .inl (cs 0, 3, .inl (upd ((σ 4).2 1) ii.toNatClampNeg xx))) = wX ad cs (w3 σ 4 1 ii xx) := u_P_1
theorem s_P_0 {ad : Nat → Nat → Nat} {cs : Nat → ClassId} {σ : SX} {v : Int32} : (wX ad cs σ).set 13 (ad 4 0, .inr (3, ([.ref (ad 4 1), .int ((σ 4).1 0), .int ((σ 4).1 1)] : List Value).set 1 (.int v))) = wX ad cs (w1 σ 4 0 v) := rfl
theorem s_P_1 {ad : Nat → Nat → Nat} {cs : Nat → ClassId} {σ : SX} {v : Int32} : (wX ad cs σ).set 13 (ad 4 0, .inr (3, ([.ref (ad 4 1), .int ((σ 4).1 0), .int ((σ 4).1 1)] : List Value).set 2 (.int v))) = wX ad cs (w1 σ 4 1 v) := rfl
theorem g_V {ad : Nat → Nat → Nat} {cs : Nat → ClassId} {σ : SX} : (wX ad cs σ)[15]? = some (ad 5 0, .inr (4, [.int ((σ 5).1 0), .int ((σ 5).1 1), .int ((σ 5).1 2), .int ((σ 5).1 3)])) := rfl
theorem s_V_0 {ad : Nat → Nat → Nat} {cs : Nat → ClassId} {σ : SX} {v : Int32} : (wX ad cs σ).set 15 (ad 5 0, .inr (4, ([.int ((σ 5).1 0), .int ((σ 5).1 1), .int ((σ 5).1 2), .int ((σ 5).1 3)] : List Value).set 0 (.int v))) = wX ad cs (w1 σ 5 0 v) := rfl
theorem s_V_1 {ad : Nat → Nat → Nat} {cs : Nat → ClassId} {σ : SX} {v : Int32} : (wX ad cs σ).set 15 (ad 5 0, .inr (4, ([.int ((σ 5).1 0), .int ((σ 5).1 1), .int ((σ 5).1 2), .int ((σ 5).1 3)] : List Value).set 1 (.int v))) = wX ad cs (w1 σ 5 1 v) := rfl
theorem s_V_2 {ad : Nat → Nat → Nat} {cs : Nat → ClassId} {σ : SX} {v : Int32} : (wX ad cs σ).set 15 (ad 5 0, .inr (4, ([.int ((σ 5).1 0), .int ((σ 5).1 1), .int ((σ 5).1 2), .int ((σ 5).1 3)] : List Value).set 2 (.int v))) = wX ad cs (w1 σ 5 2 v) := rfl
theorem s_V_3 {ad : Nat → Nat → Nat} {cs : Nat → ClassId} {σ : SX} {v : Int32} : (wX ad cs σ).set 15 (ad 5 0, .inr (4, ([.int ((σ 5).1 0), .int ((σ 5).1 1), .int ((σ 5).1 2), .int ((σ 5).1 3)] : List Value).set 3 (.int v))) = wX ad cs (w1 σ 5 3 v) := rfl
theorem g_R {ad : Nat → Nat → Nat} {cs : Nat → ClassId} {σ : SX} : (wX ad cs σ)[16]? = some (ad 6 0, .inr (5, [.ref (ad 6 1), .int ((σ 6).1 0)])) := rfl
theorem g_R_a1 {ad : Nat → Nat → Nat} {cs : Nat → ClassId} {σ : SX} : (wX ad cs σ)[17]? = some (ad 6 1, .inl (cs 0, 150, .inl ((σ 6).2 1))) := rfl
theorem u_R_1 {ad : Nat → Nat → Nat} {cs : Nat → ClassId} {σ : SX} {f : Nat → Int32} : (wX ad cs σ).set 17 (ad 6 1, .inl (cs 0, 150, .inl f)) = wX ad cs (w2 σ 6 1 f) := rfl
theorem t_R_1 {ad : Nat → Nat → Nat} {cs : Nat → ClassId} {σ : SX} {ii xx : Int32} : (wX ad cs σ).set 17 (ad 6 1, .inl (cs 0, 150, .inl (upd ((σ 6).2 1) ii.toNatClampNeg xx))) = wX ad cs (w3 σ 6 1 ii xx) := u_R_1
theorem s_R_0 {ad : Nat → Nat → Nat} {cs : Nat → ClassId} {σ : SX} {v : Int32} : (wX ad cs σ).set 16 (ad 6 0, .inr (5, ([.ref (ad 6 1), .int ((σ 6).1 0)] : List Value).set 1 (.int v))) = wX ad cs (w1 σ 6 0 v) := rfl
theorem g_T {ad : Nat → Nat → Nat} {cs : Nat → ClassId} {σ : SX} {i : Nat} (hi : i < 4) : (wX ad cs σ)[(19 + 3 * i)]? = some (ad (7 + i) 0, .inr (6, [.ref (ad (7 + i) 1), .ref (ad (7 + i) 2), .int ((σ (7 + i)).1 0), .int ((σ (7 + i)).1 1), .int ((σ (7 + i)).1 2), .int ((σ (7 + i)).1 3)])) := by rcases (show i = 0 ∨ i = 1 ∨ i = 2 ∨ i = 3 by omega) with rfl | rfl | rfl | rfl <;> rfl
theorem g_T_a1 {ad : Nat → Nat → Nat} {cs : Nat → ClassId} {σ : SX} {i : Nat} (hi : i < 4) : (wX ad cs σ)[(19 + 3 * i + 1)]? = some (ad (7 + i) 1, .inl (cs 0, 150, .inl ((σ (7 + i)).2 1))) := by rcases (show i = 0 ∨ i = 1 ∨ i = 2 ∨ i = 3 by omega) with rfl | rfl | rfl | rfl <;> rfl
theorem u_T_1 {ad : Nat → Nat → Nat} {cs : Nat → ClassId} {σ : SX} {i : Nat} (hi : i < 4) {f : Nat → Int32} : (wX ad cs σ).set (19 + 3 * i + 1) (ad (7 + i) 1, .inl (cs 0, 150, .inl f)) = wX ad cs (w2 σ (7 + i) 1 f) := by rcases (show i = 0 ∨ i = 1 ∨ i = 2 ∨ i = 3 by omega) with rfl | rfl | rfl | rfl <;> rfl
theorem t_T_1 {ad : Nat → Nat → Nat} {cs : Nat → ClassId} {σ : SX} {i : Nat} (hi : i < 4) {ii xx : Int32} : (wX ad cs σ).set (19 + 3 * i + 1) (ad (7 + i) 1, .inl (cs 0, 150, .inl (upd ((σ (7 + i)).2 1) ii.toNatClampNeg xx))) = wX ad cs (w3 σ (7 + i) 1 ii xx) := u_T_1 hi
theorem g_T_a2 {ad : Nat → Nat → Nat} {cs : Nat → ClassId} {σ : SX} {i : Nat} (hi : i < 4) : (wX ad cs σ)[(19 + 3 * i + 2)]? = some (ad (7 + i) 2, .inl (cs 0, 150, .inl ((σ (7 + i)).2 2))) := by rcases (show i = 0 ∨ i = 1 ∨ i = 2 ∨ i = 3 by omega) with rfl | rfl | rfl | rfl <;> rfl
theorem u_T_2 {ad : Nat → Nat → Nat} {cs : Nat → ClassId} {σ : SX} {i : Nat} (hi : i < 4) {f : Nat → Int32} : (wX ad cs σ).set (19 + 3 * i + 2) (ad (7 + i) 2, .inl (cs 0, 150, .inl f)) = wX ad cs (w2 σ (7 + i) 2 f) := by rcases (show i = 0 ∨ i = 1 ∨ i = 2 ∨ i = 3 by omega) with rfl | rfl | rfl | rfl <;> rfl
theorem t_T_2 {ad : Nat → Nat → Nat} {cs : Nat → ClassId} {σ : SX} {i : Nat} (hi : i < 4) {ii xx : Int32} : (wX ad cs σ).set (19 + 3 * i + 2) (ad (7 + i) 2, .inl (cs 0, 150, .inl (upd ((σ (7 + i)).2 2) ii.toNatClampNeg xx))) = wX ad cs (w3 σ (7 + i) 2 ii xx) := u_T_2 hi
theorem s_T_0 {ad : Nat → Nat → Nat} {cs : Nat → ClassId} {σ : SX} {i : Nat} (hi : i < 4) {v : Int32} : (wX ad cs σ).set (19 + 3 * i) (ad (7 + i) 0, .inr (6, ([.ref (ad (7 + i) 1), .ref (ad (7 + i) 2), .int ((σ (7 + i)).1 0), .int ((σ (7 + i)).1 1), .int ((σ (7 + i)).1 2), .int ((σ (7 + i)).1 3)] : List Value).set 2 (.int v))) = wX ad cs (w1 σ (7 + i) 0 v) := by rcases (show i = 0 ∨ i = 1 ∨ i = 2 ∨ i = 3 by omega) with rfl | rfl | rfl | rfl <;> rfl
theorem s_T_1 {ad : Nat → Nat → Nat} {cs : Nat → ClassId} {σ : SX} {i : Nat} (hi : i < 4) {v : Int32} : (wX ad cs σ).set (19 + 3 * i) (ad (7 + i) 0, .inr (6, ([.ref (ad (7 + i) 1), .ref (ad (7 + i) 2), .int ((σ (7 + i)).1 0), .int ((σ (7 + i)).1 1), .int ((σ (7 + i)).1 2), .int ((σ (7 + i)).1 3)] : List Value).set 3 (.int v))) = wX ad cs (w1 σ (7 + i) 1 v) := by rcases (show i = 0 ∨ i = 1 ∨ i = 2 ∨ i = 3 by omega) with rfl | rfl | rfl | rfl <;> rfl
theorem s_T_2 {ad : Nat → Nat → Nat} {cs : Nat → ClassId} {σ : SX} {i : Nat} (hi : i < 4) {v : Int32} : (wX ad cs σ).set (19 + 3 * i) (ad (7 + i) 0, .inr (6, ([.ref (ad (7 + i) 1), .ref (ad (7 + i) 2), .int ((σ (7 + i)).1 0), .int ((σ (7 + i)).1 1), .int ((σ (7 + i)).1 2), .int ((σ (7 + i)).1 3)] : List Value).set 4 (.int v))) = wX ad cs (w1 σ (7 + i) 2 v) := by rcases (show i = 0 ∨ i = 1 ∨ i = 2 ∨ i = 3 by omega) with rfl | rfl | rfl | rfl <;> rfl
theorem s_T_3 {ad : Nat → Nat → Nat} {cs : Nat → ClassId} {σ : SX} {i : Nat} (hi : i < 4) {v : Int32} : (wX ad cs σ).set (19 + 3 * i) (ad (7 + i) 0, .inr (6, ([.ref (ad (7 + i) 1), .ref (ad (7 + i) 2), .int ((σ (7 + i)).1 0), .int ((σ (7 + i)).1 1), .int ((σ (7 + i)).1 2), .int ((σ (7 + i)).1 3)] : List Value).set 5 (.int v))) = wX ad cs (w1 σ (7 + i) 3 v) := by rcases (show i = 0 ∨ i = 1 ∨ i = 2 ∨ i = 3 by omega) with rfl | rfl | rfl | rfl <;> rfl
theorem g_M {ad : Nat → Nat → Nat} {cs : Nat → ClassId} {σ : SX} : (wM ad cs σ)[0]? = some (ad 0 0, .inr (7, [.int ((σ 0).1 0), .int ((σ 0).1 1), .int ((σ 0).1 2), .ref (ad 0 1), .int ((σ 0).1 3), .ref (ad 0 2), .ref (ad 0 3), .int ((σ 0).1 4), .int ((σ 0).1 5), .int ((σ 0).1 6), .int ((σ 0).1 7), .int ((σ 0).1 8), .ref (ad 0 4), .int ((σ 0).1 9), .ref (ad 0 5), .ref (ad 0 6), .int ((σ 0).1 10), .int ((σ 0).1 11), .ref (ad 0 7), .int ((σ 0).1 12), .int ((σ 0).1 13), .ref (ad 0 8), .ref (ad 0 9), .ref (ad 0 10), .ref (ad 0 11), .ref (ad 0 12), .int ((σ 0).1 14), .ref (ad 0 13), .ref (ad 0 14), .int ((σ 0).1 15), .int ((σ 0).1 16), .ref (ad 0 15), .ref (ad 0 16)])) := rfl
theorem g_M_a1 {ad : Nat → Nat → Nat} {cs : Nat → ClassId} {σ : SX} : (wM ad cs σ)[1]? = some (ad 0 1, .inl (cs 0, 300, .inl ((σ 0).2 1))) := rfl
theorem u_M_1 {ad : Nat → Nat → Nat} {cs : Nat → ClassId} {σ : SX} {f : Nat → Int32} : (wM ad cs σ).set 1 (ad 0 1, .inl (cs 0, 300, .inl f)) = wM ad cs (w2 σ 0 1 f) := rfl
theorem t_M_1 {ad : Nat → Nat → Nat} {cs : Nat → ClassId} {σ : SX} {ii xx : Int32} : (wM ad cs σ).set 1 (ad 0 1, .inl (cs 0, 300, .inl (upd ((σ 0).2 1) ii.toNatClampNeg xx))) = wM ad cs (w3 σ 0 1 ii xx) := u_M_1
theorem g_M_a2 {ad : Nat → Nat → Nat} {cs : Nat → ClassId} {σ : SX} : (wM ad cs σ)[2]? = some (ad 0 2, .inl (cs 0, 3, .inl ((σ 0).2 2))) := rfl
theorem u_M_2 {ad : Nat → Nat → Nat} {cs : Nat → ClassId} {σ : SX} {f : Nat → Int32} : (wM ad cs σ).set 2 (ad 0 2, .inl (cs 0, 3, .inl f)) = wM ad cs (w2 σ 0 2 f) := rfl
theorem t_M_2 {ad : Nat → Nat → Nat} {cs : Nat → ClassId} {σ : SX} {ii xx : Int32} : (wM ad cs σ).set 2 (ad 0 2, .inl (cs 0, 3, .inl (upd ((σ 0).2 2) ii.toNatClampNeg xx))) = wM ad cs (w3 σ 0 2 ii xx) := u_M_2
theorem g_M_a3 {ad : Nat → Nat → Nat} {cs : Nat → ClassId} {σ : SX} : (wM ad cs σ)[3]? = some (ad 0 3, .inl (cs 0, 3, .inl ((σ 0).2 3))) := rfl
theorem u_M_3 {ad : Nat → Nat → Nat} {cs : Nat → ClassId} {σ : SX} {f : Nat → Int32} : (wM ad cs σ).set 3 (ad 0 3, .inl (cs 0, 3, .inl f)) = wM ad cs (w2 σ 0 3 f) := rfl
theorem t_M_3 {ad : Nat → Nat → Nat} {cs : Nat → ClassId} {σ : SX} {ii xx : Int32} : (wM ad cs σ).set 3 (ad 0 3, .inl (cs 0, 3, .inl (upd ((σ 0).2 3) ii.toNatClampNeg xx))) = wM ad cs (w3 σ 0 3 ii xx) := u_M_3
theorem g_M_a4 {ad : Nat → Nat → Nat} {cs : Nat → ClassId} {σ : SX} : (wM ad cs σ)[4]? = some (ad 0 4, .inl (cs 0, 4, .inl ((σ 0).2 4))) := rfl
theorem u_M_4 {ad : Nat → Nat → Nat} {cs : Nat → ClassId} {σ : SX} {f : Nat → Int32} : (wM ad cs σ).set 4 (ad 0 4, .inl (cs 0, 4, .inl f)) = wM ad cs (w2 σ 0 4 f) := rfl
theorem t_M_4 {ad : Nat → Nat → Nat} {cs : Nat → ClassId} {σ : SX} {ii xx : Int32} : (wM ad cs σ).set 4 (ad 0 4, .inl (cs 0, 4, .inl (upd ((σ 0).2 4) ii.toNatClampNeg xx))) = wM ad cs (w3 σ 0 4 ii xx) := u_M_4
theorem g_M_a5 {ad : Nat → Nat → Nat} {cs : Nat → ClassId} {σ : SX} : (wM ad cs σ)[5]? = some (ad 0 5, .inl (cs 0, 8, .inl ((σ 0).2 5))) := rfl
theorem u_M_5 {ad : Nat → Nat → Nat} {cs : Nat → ClassId} {σ : SX} {f : Nat → Int32} : (wM ad cs σ).set 5 (ad 0 5, .inl (cs 0, 8, .inl f)) = wM ad cs (w2 σ 0 5 f) := rfl
theorem t_M_5 {ad : Nat → Nat → Nat} {cs : Nat → ClassId} {σ : SX} {ii xx : Int32} : (wM ad cs σ).set 5 (ad 0 5, .inl (cs 0, 8, .inl (upd ((σ 0).2 5) ii.toNatClampNeg xx))) = wM ad cs (w3 σ 0 5 ii xx) := u_M_5
theorem g_M_a6 {ad : Nat → Nat → Nat} {cs : Nat → ClassId} {σ : SX} : (wM ad cs σ)[6]? = some (ad 0 6, .inl (cs 1, 8, .inl ((σ 0).2 6))) := rfl
theorem u_M_6 {ad : Nat → Nat → Nat} {cs : Nat → ClassId} {σ : SX} {f : Nat → Int32} : (wM ad cs σ).set 6 (ad 0 6, .inl (cs 1, 8, .inl f)) = wM ad cs (w2 σ 0 6 f) := rfl
theorem t_M_6 {ad : Nat → Nat → Nat} {cs : Nat → ClassId} {σ : SX} {ii xx : Int32} : (wM ad cs σ).set 6 (ad 0 6, .inl (cs 1, 8, .inl (upd ((σ 0).2 6) ii.toNatClampNeg xx))) = wM ad cs (w3 σ 0 6 ii xx) := u_M_6
theorem g_M_a7 {ad : Nat → Nat → Nat} {cs : Nat → ClassId} {σ : SX} : (wM ad cs σ)[7]? = some (ad 0 7, .inl (cs 0, 3, .inl ((σ 0).2 7))) := rfl
theorem u_M_7 {ad : Nat → Nat → Nat} {cs : Nat → ClassId} {σ : SX} {f : Nat → Int32} : (wM ad cs σ).set 7 (ad 0 7, .inl (cs 0, 3, .inl f)) = wM ad cs (w2 σ 0 7 f) := rfl
theorem t_M_7 {ad : Nat → Nat → Nat} {cs : Nat → ClassId} {σ : SX} {ii xx : Int32} : (wM ad cs σ).set 7 (ad 0 7, .inl (cs 0, 3, .inl (upd ((σ 0).2 7) ii.toNatClampNeg xx))) = wM ad cs (w3 σ 0 7 ii xx) := u_M_7
theorem g_M_a8 {ad : Nat → Nat → Nat} {cs : Nat → ClassId} {σ : SX} : (wM ad cs σ)[8]? = some (ad 0 8, .inl (cs 0, 600, .inl ((σ 0).2 8))) := rfl
theorem u_M_8 {ad : Nat → Nat → Nat} {cs : Nat → ClassId} {σ : SX} {f : Nat → Int32} : (wM ad cs σ).set 8 (ad 0 8, .inl (cs 0, 600, .inl f)) = wM ad cs (w2 σ 0 8 f) := rfl
theorem t_M_8 {ad : Nat → Nat → Nat} {cs : Nat → ClassId} {σ : SX} {ii xx : Int32} : (wM ad cs σ).set 8 (ad 0 8, .inl (cs 0, 600, .inl (upd ((σ 0).2 8) ii.toNatClampNeg xx))) = wM ad cs (w3 σ 0 8 ii xx) := u_M_8
theorem g_M_a9 {ad : Nat → Nat → Nat} {cs : Nat → ClassId} {σ : SX} : (wM ad cs σ)[9]? = some (ad 0 9, .inl (cs 0, 600, .inl ((σ 0).2 9))) := rfl
theorem u_M_9 {ad : Nat → Nat → Nat} {cs : Nat → ClassId} {σ : SX} {f : Nat → Int32} : (wM ad cs σ).set 9 (ad 0 9, .inl (cs 0, 600, .inl f)) = wM ad cs (w2 σ 0 9 f) := rfl
theorem t_M_9 {ad : Nat → Nat → Nat} {cs : Nat → ClassId} {σ : SX} {ii xx : Int32} : (wM ad cs σ).set 9 (ad 0 9, .inl (cs 0, 600, .inl (upd ((σ 0).2 9) ii.toNatClampNeg xx))) = wM ad cs (w3 σ 0 9 ii xx) := u_M_9
theorem g_M_a10 {ad : Nat → Nat → Nat} {cs : Nat → ClassId} {σ : SX} : (wM ad cs σ)[10]? = some (ad 0 10, .inl (cs 0, 4, .inl ((σ 0).2 10))) := rfl
theorem u_M_10 {ad : Nat → Nat → Nat} {cs : Nat → ClassId} {σ : SX} {f : Nat → Int32} : (wM ad cs σ).set 10 (ad 0 10, .inl (cs 0, 4, .inl f)) = wM ad cs (w2 σ 0 10 f) := rfl
theorem t_M_10 {ad : Nat → Nat → Nat} {cs : Nat → ClassId} {σ : SX} {ii xx : Int32} : (wM ad cs σ).set 10 (ad 0 10, .inl (cs 0, 4, .inl (upd ((σ 0).2 10) ii.toNatClampNeg xx))) = wM ad cs (w3 σ 0 10 ii xx) := u_M_10
theorem g_M_a11 {ad : Nat → Nat → Nat} {cs : Nat → ClassId} {σ : SX} : (wM ad cs σ)[11]? = some (ad 0 11, .inl (cs 0, 4, .inl ((σ 0).2 11))) := rfl
theorem u_M_11 {ad : Nat → Nat → Nat} {cs : Nat → ClassId} {σ : SX} {f : Nat → Int32} : (wM ad cs σ).set 11 (ad 0 11, .inl (cs 0, 4, .inl f)) = wM ad cs (w2 σ 0 11 f) := rfl
theorem t_M_11 {ad : Nat → Nat → Nat} {cs : Nat → ClassId} {σ : SX} {ii xx : Int32} : (wM ad cs σ).set 11 (ad 0 11, .inl (cs 0, 4, .inl (upd ((σ 0).2 11) ii.toNatClampNeg xx))) = wM ad cs (w3 σ 0 11 ii xx) := u_M_11
theorem g_M_a12 {ad : Nat → Nat → Nat} {cs : Nat → ClassId} {σ : SX} : (wM ad cs σ)[12]? = some (ad 0 12, .inl (cs 0, 4, .inl ((σ 0).2 12))) := rfl
theorem u_M_12 {ad : Nat → Nat → Nat} {cs : Nat → ClassId} {σ : SX} {f : Nat → Int32} : (wM ad cs σ).set 12 (ad 0 12, .inl (cs 0, 4, .inl f)) = wM ad cs (w2 σ 0 12 f) := rfl
theorem t_M_12 {ad : Nat → Nat → Nat} {cs : Nat → ClassId} {σ : SX} {ii xx : Int32} : (wM ad cs σ).set 12 (ad 0 12, .inl (cs 0, 4, .inl (upd ((σ 0).2 12) ii.toNatClampNeg xx))) = wM ad cs (w3 σ 0 12 ii xx) := u_M_12
theorem g_M_a13 {ad : Nat → Nat → Nat} {cs : Nat → ClassId} {σ : SX} : (wM ad cs σ)[13]? = some (ad 0 13, .inl (cs 0, 8, .inl ((σ 0).2 13))) := rfl
theorem u_M_13 {ad : Nat → Nat → Nat} {cs : Nat → ClassId} {σ : SX} {f : Nat → Int32} : (wM ad cs σ).set 13 (ad 0 13, .inl (cs 0, 8, .inl f)) = wM ad cs (w2 σ 0 13 f) := rfl
theorem t_M_13 {ad : Nat → Nat → Nat} {cs : Nat → ClassId} {σ : SX} {ii xx : Int32} : (wM ad cs σ).set 13 (ad 0 13, .inl (cs 0, 8, .inl (upd ((σ 0).2 13) ii.toNatClampNeg xx))) = wM ad cs (w3 σ 0 13 ii xx) := u_M_13
theorem g_M_a14 {ad : Nat → Nat → Nat} {cs : Nat → ClassId} {σ : SX} : (wM ad cs σ)[14]? = some (ad 0 14, .inl (cs 1, 8, .inl ((σ 0).2 14))) := rfl
theorem u_M_14 {ad : Nat → Nat → Nat} {cs : Nat → ClassId} {σ : SX} {f : Nat → Int32} : (wM ad cs σ).set 14 (ad 0 14, .inl (cs 1, 8, .inl f)) = wM ad cs (w2 σ 0 14 f) := rfl
theorem t_M_14 {ad : Nat → Nat → Nat} {cs : Nat → ClassId} {σ : SX} {ii xx : Int32} : (wM ad cs σ).set 14 (ad 0 14, .inl (cs 1, 8, .inl (upd ((σ 0).2 14) ii.toNatClampNeg xx))) = wM ad cs (w3 σ 0 14 ii xx) := u_M_14
theorem g_M_a15 {ad : Nat → Nat → Nat} {cs : Nat → ClassId} {σ : SX} : (wM ad cs σ)[15]? = some (ad 0 15, .inl (cs 0, 150, .inl ((σ 0).2 15))) := rfl
theorem u_M_15 {ad : Nat → Nat → Nat} {cs : Nat → ClassId} {σ : SX} {f : Nat → Int32} : (wM ad cs σ).set 15 (ad 0 15, .inl (cs 0, 150, .inl f)) = wM ad cs (w2 σ 0 15 f) := rfl
theorem t_M_15 {ad : Nat → Nat → Nat} {cs : Nat → ClassId} {σ : SX} {ii xx : Int32} : (wM ad cs σ).set 15 (ad 0 15, .inl (cs 0, 150, .inl (upd ((σ 0).2 15) ii.toNatClampNeg xx))) = wM ad cs (w3 σ 0 15 ii xx) := u_M_15
theorem g_M_a16 {ad : Nat → Nat → Nat} {cs : Nat → ClassId} {σ : SX} : (wM ad cs σ)[16]? = some (ad 0 16, .inl (cs 0, 3, .inl ((σ 0).2 16))) := rfl
theorem u_M_16 {ad : Nat → Nat → Nat} {cs : Nat → ClassId} {σ : SX} {f : Nat → Int32} : (wM ad cs σ).set 16 (ad 0 16, .inl (cs 0, 3, .inl f)) = wM ad cs (w2 σ 0 16 f) := rfl
theorem t_M_16 {ad : Nat → Nat → Nat} {cs : Nat → ClassId} {σ : SX} {ii xx : Int32} : (wM ad cs σ).set 16 (ad 0 16, .inl (cs 0, 3, .inl (upd ((σ 0).2 16) ii.toNatClampNeg xx))) = wM ad cs (w3 σ 0 16 ii xx) := u_M_16
theorem s_M_0 {ad : Nat → Nat → Nat} {cs : Nat → ClassId} {σ : SX} {v : Int32} : (wM ad cs σ).set 0 (ad 0 0, .inr (7, ([.int ((σ 0).1 0), .int ((σ 0).1 1), .int ((σ 0).1 2), .ref (ad 0 1), .int ((σ 0).1 3), .ref (ad 0 2), .ref (ad 0 3), .int ((σ 0).1 4), .int ((σ 0).1 5), .int ((σ 0).1 6), .int ((σ 0).1 7), .int ((σ 0).1 8), .ref (ad 0 4), .int ((σ 0).1 9), .ref (ad 0 5), .ref (ad 0 6), .int ((σ 0).1 10), .int ((σ 0).1 11), .ref (ad 0 7), .int ((σ 0).1 12), .int ((σ 0).1 13), .ref (ad 0 8), .ref (ad 0 9), .ref (ad 0 10), .ref (ad 0 11), .ref (ad 0 12), .int ((σ 0).1 14), .ref (ad 0 13), .ref (ad 0 14), .int ((σ 0).1 15), .int ((σ 0).1 16), .ref (ad 0 15), .ref (ad 0 16)] : List Value).set 0 (.int v))) = wM ad cs (w1 σ 0 0 v) := rfl
theorem s_M_1 {ad : Nat → Nat → Nat} {cs : Nat → ClassId} {σ : SX} {v : Int32} : (wM ad cs σ).set 0 (ad 0 0, .inr (7, ([.int ((σ 0).1 0), .int ((σ 0).1 1), .int ((σ 0).1 2), .ref (ad 0 1), .int ((σ 0).1 3), .ref (ad 0 2), .ref (ad 0 3), .int ((σ 0).1 4), .int ((σ 0).1 5), .int ((σ 0).1 6), .int ((σ 0).1 7), .int ((σ 0).1 8), .ref (ad 0 4), .int ((σ 0).1 9), .ref (ad 0 5), .ref (ad 0 6), .int ((σ 0).1 10), .int ((σ 0).1 11), .ref (ad 0 7), .int ((σ 0).1 12), .int ((σ 0).1 13), .ref (ad 0 8), .ref (ad 0 9), .ref (ad 0 10), .ref (ad 0 11), .ref (ad 0 12), .int ((σ 0).1 14), .ref (ad 0 13), .ref (ad 0 14), .int ((σ 0).1 15), .int ((σ 0).1 16), .ref (ad 0 15), .ref (ad 0 16)] : List Value).set 1 (.int v))) = wM ad cs (w1 σ 0 1 v) := rfl
theorem s_M_2 {ad : Nat → Nat → Nat} {cs : Nat → ClassId} {σ : SX} {v : Int32} : (wM ad cs σ).set 0 (ad 0 0, .inr (7, ([.int ((σ 0).1 0), .int ((σ 0).1 1), .int ((σ 0).1 2), .ref (ad 0 1), .int ((σ 0).1 3), .ref (ad 0 2), .ref (ad 0 3), .int ((σ 0).1 4), .int ((σ 0).1 5), .int ((σ 0).1 6), .int ((σ 0).1 7), .int ((σ 0).1 8), .ref (ad 0 4), .int ((σ 0).1 9), .ref (ad 0 5), .ref (ad 0 6), .int ((σ 0).1 10), .int ((σ 0).1 11), .ref (ad 0 7), .int ((σ 0).1 12), .int ((σ 0).1 13), .ref (ad 0 8), .ref (ad 0 9), .ref (ad 0 10), .ref (ad 0 11), .ref (ad 0 12), .int ((σ 0).1 14), .ref (ad 0 13), .ref (ad 0 14), .int ((σ 0).1 15), .int ((σ 0).1 16), .ref (ad 0 15), .ref (ad 0 16)] : List Value).set 2 (.int v))) = wM ad cs (w1 σ 0 2 v) := rfl
theorem s_M_3 {ad : Nat → Nat → Nat} {cs : Nat → ClassId} {σ : SX} {v : Int32} : (wM ad cs σ).set 0 (ad 0 0, .inr (7, ([.int ((σ 0).1 0), .int ((σ 0).1 1), .int ((σ 0).1 2), .ref (ad 0 1), .int ((σ 0).1 3), .ref (ad 0 2), .ref (ad 0 3), .int ((σ 0).1 4), .int ((σ 0).1 5), .int ((σ 0).1 6), .int ((σ 0).1 7), .int ((σ 0).1 8), .ref (ad 0 4), .int ((σ 0).1 9), .ref (ad 0 5), .ref (ad 0 6), .int ((σ 0).1 10), .int ((σ 0).1 11), .ref (ad 0 7), .int ((σ 0).1 12), .int ((σ 0).1 13), .ref (ad 0 8), .ref (ad 0 9), .ref (ad 0 10), .ref (ad 0 11), .ref (ad 0 12), .int ((σ 0).1 14), .ref (ad 0 13), .ref (ad 0 14), .int ((σ 0).1 15), .int ((σ 0).1 16), .ref (ad 0 15), .ref (ad 0 16)] : List Value).set 4 (.int v))) = wM ad cs (w1 σ 0 3 v) := rfl
theorem s_M_4 {ad : Nat → Nat → Nat} {cs : Nat → ClassId} {σ : SX} {v : Int32} : (wM ad cs σ).set 0 (ad 0 0, .inr (7, ([.int ((σ 0).1 0), .int ((σ 0).1 1), .int ((σ 0).1 2), .ref (ad 0 1), .int ((σ 0).1 3), .ref (ad 0 2), .ref (ad 0 3), .int ((σ 0).1 4), .int ((σ 0).1 5), .int ((σ 0).1 6), .int ((σ 0).1 7), .int ((σ 0).1 8), .ref (ad 0 4), .int ((σ 0).1 9), .ref (ad 0 5), .ref (ad 0 6), .int ((σ 0).1 10), .int ((σ 0).1 11), .ref (ad 0 7), .int ((σ 0).1 12), .int ((σ 0).1 13), .ref (ad 0 8), .ref (ad 0 9), .ref (ad 0 10), .ref (ad 0 11), .ref (ad 0 12), .int ((σ 0).1 14), .ref (ad 0 13), .ref (ad 0 14), .int ((σ 0).1 15), .int ((σ 0).1 16), .ref (ad 0 15), .ref (ad 0 16)] : List Value).set 7 (.int v))) = wM ad cs (w1 σ 0 4 v) := rfl
theorem s_M_5 {ad : Nat → Nat → Nat} {cs : Nat → ClassId} {σ : SX} {v : Int32} : (wM ad cs σ).set 0 (ad 0 0, .inr (7, ([.int ((σ 0).1 0), .int ((σ 0).1 1), .int ((σ 0).1 2), .ref (ad 0 1), .int ((σ 0).1 3), .ref (ad 0 2), .ref (ad 0 3), .int ((σ 0).1 4), .int ((σ 0).1 5), .int ((σ 0).1 6), .int ((σ 0).1 7), .int ((σ 0).1 8), .ref (ad 0 4), .int ((σ 0).1 9), .ref (ad 0 5), .ref (ad 0 6), .int ((σ 0).1 10), .int ((σ 0).1 11), .ref (ad 0 7), .int ((σ 0).1 12), .int ((σ 0).1 13), .ref (ad 0 8), .ref (ad 0 9), .ref (ad 0 10), .ref (ad 0 11), .ref (ad 0 12), .int ((σ 0).1 14), .ref (ad 0 13), .ref (ad 0 14), .int ((σ 0).1 15), .int ((σ 0).1 16), .ref (ad 0 15), .ref (ad 0 16)] : List Value).set 8 (.int v))) = wM ad cs (w1 σ 0 5 v) := rfl
theorem s_M_6 {ad : Nat → Nat → Nat} {cs : Nat → ClassId} {σ : SX} {v : Int32} : (wM ad cs σ).set 0 (ad 0 0, .inr (7, ([.int ((σ 0).1 0), .int ((σ 0).1 1), .int ((σ 0).1 2), .ref (ad 0 1), .int ((σ 0).1 3), .ref (ad 0 2), .ref (ad 0 3), .int ((σ 0).1 4), .int ((σ 0).1 5), .int ((σ 0).1 6), .int ((σ 0).1 7), .int ((σ 0).1 8), .ref (ad 0 4), .int ((σ 0).1 9), .ref (ad 0 5), .ref (ad 0 6), .int ((σ 0).1 10), .int ((σ 0).1 11), .ref (ad 0 7), .int ((σ 0).1 12), .int ((σ 0).1 13), .ref (ad 0 8), .ref (ad 0 9), .ref (ad 0 10), .ref (ad 0 11), .ref (ad 0 12), .int ((σ 0).1 14), .ref (ad 0 13), .ref (ad 0 14), .int ((σ 0).1 15), .int ((σ 0).1 16), .ref (ad 0 15), .ref (ad 0 16)] : List Value).set 9 (.int v))) = wM ad cs (w1 σ 0 6 v) := rfl
theorem s_M_7 {ad : Nat → Nat → Nat} {cs : Nat → ClassId} {σ : SX} {v : Int32} : (wM ad cs σ).set 0 (ad 0 0, .inr (7, ([.int ((σ 0).1 0), .int ((σ 0).1 1), .int ((σ 0).1 2), .ref (ad 0 1), .int ((σ 0).1 3), .ref (ad 0 2), .ref (ad 0 3), .int ((σ 0).1 4), .int ((σ 0).1 5), .int ((σ 0).1 6), .int ((σ 0).1 7), .int ((σ 0).1 8), .ref (ad 0 4), .int ((σ 0).1 9), .ref (ad 0 5), .ref (ad 0 6), .int ((σ 0).1 10), .int ((σ 0).1 11), .ref (ad 0 7), .int ((σ 0).1 12), .int ((σ 0).1 13), .ref (ad 0 8), .ref (ad 0 9), .ref (ad 0 10), .ref (ad 0 11), .ref (ad 0 12), .int ((σ 0).1 14), .ref (ad 0 13), .ref (ad 0 14), .int ((σ 0).1 15), .int ((σ 0).1 16), .ref (ad 0 15), .ref (ad 0 16)] : List Value).set 10 (.int v))) = wM ad cs (w1 σ 0 7 v) := rfl
theorem s_M_8 {ad : Nat → Nat → Nat} {cs : Nat → ClassId} {σ : SX} {v : Int32} : (wM ad cs σ).set 0 (ad 0 0, .inr (7, ([.int ((σ 0).1 0), .int ((σ 0).1 1), .int ((σ 0).1 2), .ref (ad 0 1), .int ((σ 0).1 3), .ref (ad 0 2), .ref (ad 0 3), .int ((σ 0).1 4), .int ((σ 0).1 5), .int ((σ 0).1 6), .int ((σ 0).1 7), .int ((σ 0).1 8), .ref (ad 0 4), .int ((σ 0).1 9), .ref (ad 0 5), .ref (ad 0 6), .int ((σ 0).1 10), .int ((σ 0).1 11), .ref (ad 0 7), .int ((σ 0).1 12), .int ((σ 0).1 13), .ref (ad 0 8), .ref (ad 0 9), .ref (ad 0 10), .ref (ad 0 11), .ref (ad 0 12), .int ((σ 0).1 14), .ref (ad 0 13), .ref (ad 0 14), .int ((σ 0).1 15), .int ((σ 0).1 16), .ref (ad 0 15), .ref (ad 0 16)] : List Value).set 11 (.int v))) = wM ad cs (w1 σ 0 8 v) := rfl
theorem s_M_9 {ad : Nat → Nat → Nat} {cs : Nat → ClassId} {σ : SX} {v : Int32} : (wM ad cs σ).set 0 (ad 0 0, .inr (7, ([.int ((σ 0).1 0), .int ((σ 0).1 1), .int ((σ 0).1 2), .ref (ad 0 1), .int ((σ 0).1 3), .ref (ad 0 2), .ref (ad 0 3), .int ((σ 0).1 4), .int ((σ 0).1 5), .int ((σ 0).1 6), .int ((σ 0).1 7), .int ((σ 0).1 8), .ref (ad 0 4), .int ((σ 0).1 9), .ref (ad 0 5), .ref (ad 0 6), .int ((σ 0).1 10), .int ((σ 0).1 11), .ref (ad 0 7), .int ((σ 0).1 12), .int ((σ 0).1 13), .ref (ad 0 8), .ref (ad 0 9), .ref (ad 0 10), .ref (ad 0 11), .ref (ad 0 12), .int ((σ 0).1 14), .ref (ad 0 13), .ref (ad 0 14), .int ((σ 0).1 15), .int ((σ 0).1 16), .ref (ad 0 15), .ref (ad 0 16)] : List Value).set 13 (.int v))) = wM ad cs (w1 σ 0 9 v) := rfl
theorem s_M_10 {ad : Nat → Nat → Nat} {cs : Nat → ClassId} {σ : SX} {v : Int32} : (wM ad cs σ).set 0 (ad 0 0, .inr (7, ([.int ((σ 0).1 0), .int ((σ 0).1 1), .int ((σ 0).1 2), .ref (ad 0 1), .int ((σ 0).1 3), .ref (ad 0 2), .ref (ad 0 3), .int ((σ 0).1 4), .int ((σ 0).1 5), .int ((σ 0).1 6), .int ((σ 0).1 7), .int ((σ 0).1 8), .ref (ad 0 4), .int ((σ 0).1 9), .ref (ad 0 5), .ref (ad 0 6), .int ((σ 0).1 10), .int ((σ 0).1 11), .ref (ad 0 7), .int ((σ 0).1 12), .int ((σ 0).1 13), .ref (ad 0 8), .ref (ad 0 9), .ref (ad 0 10), .ref (ad 0 11), .ref (ad 0 12), .int ((σ 0).1 14), .ref (ad 0 13), .ref (ad 0 14), .int ((σ 0).1 15), .int ((σ 0).1 16), .ref (ad 0 15), .ref (ad 0 16)] : List Value).set 16 (.int v))) = wM ad cs (w1 σ 0 10 v) := rfl
theorem s_M_11 {ad : Nat → Nat → Nat} {cs : Nat → ClassId} {σ : SX} {v : Int32} : (wM ad cs σ).set 0 (ad 0 0, .inr (7, ([.int ((σ 0).1 0), .int ((σ 0).1 1), .int ((σ 0).1 2), .ref (ad 0 1), .int ((σ 0).1 3), .ref (ad 0 2), .ref (ad 0 3), .int ((σ 0).1 4), .int ((σ 0).1 5), .int ((σ 0).1 6), .int ((σ 0).1 7), .int ((σ 0).1 8), .ref (ad 0 4), .int ((σ 0).1 9), .ref (ad 0 5), .ref (ad 0 6), .int ((σ 0).1 10), .int ((σ 0).1 11), .ref (ad 0 7), .int ((σ 0).1 12), .int ((σ 0).1 13), .ref (ad 0 8), .ref (ad 0 9), .ref (ad 0 10), .ref (ad 0 11), .ref (ad 0 12), .int ((σ 0).1 14), .ref (ad 0 13), .ref (ad 0 14), .int ((σ 0).1 15), .int ((σ 0).1 16), .ref (ad 0 15), .ref (ad 0 16)] : List Value).set 17 (.int v))) = wM ad cs (w1 σ 0 11 v) := rfl
theorem s_M_12 {ad : Nat → Nat → Nat} {cs : Nat → ClassId} {σ : SX} {v : Int32} : (wM ad cs σ).set 0 (ad 0 0, .inr (7, ([.int ((σ 0).1 0), .int ((σ 0).1 1), .int ((σ 0).1 2), .ref (ad 0 1), .int ((σ 0).1 3), .ref (ad 0 2), .ref (ad 0 3), .int ((σ 0).1 4), .int ((σ 0).1 5), .int ((σ 0).1 6), .int ((σ 0).1 7), .int ((σ 0).1 8), .ref (ad 0 4), .int ((σ 0).1 9), .ref (ad 0 5), .ref (ad 0 6), .int ((σ 0).1 10), .int ((σ 0).1 11), .ref (ad 0 7), .int ((σ 0).1 12), .int ((σ 0).1 13), .ref (ad 0 8), .ref (ad 0 9), .ref (ad 0 10), .ref (ad 0 11), .ref (ad 0 12), .int ((σ 0).1 14), .ref (ad 0 13), .ref (ad 0 14), .int ((σ 0).1 15), .int ((σ 0).1 16), .ref (ad 0 15), .ref (ad 0 16)] : List Value).set 19 (.int v))) = wM ad cs (w1 σ 0 12 v) := rfl
theorem s_M_13 {ad : Nat → Nat → Nat} {cs : Nat → ClassId} {σ : SX} {v : Int32} : (wM ad cs σ).set 0 (ad 0 0, .inr (7, ([.int ((σ 0).1 0), .int ((σ 0).1 1), .int ((σ 0).1 2), .ref (ad 0 1), .int ((σ 0).1 3), .ref (ad 0 2), .ref (ad 0 3), .int ((σ 0).1 4), .int ((σ 0).1 5), .int ((σ 0).1 6), .int ((σ 0).1 7), .int ((σ 0).1 8), .ref (ad 0 4), .int ((σ 0).1 9), .ref (ad 0 5), .ref (ad 0 6), .int ((σ 0).1 10), .int ((σ 0).1 11), .ref (ad 0 7), .int ((σ 0).1 12), .int ((σ 0).1 13), .ref (ad 0 8), .ref (ad 0 9), .ref (ad 0 10), .ref (ad 0 11), .ref (ad 0 12), .int ((σ 0).1 14), .ref (ad 0 13), .ref (ad 0 14), .int ((σ 0).1 15), .int ((σ 0).1 16), .ref (ad 0 15), .ref (ad 0 16)] : List Value).set 20 (.int v))) = wM ad cs (w1 σ 0 13 v) := rfl
theorem s_M_14 {ad : Nat → Nat → Nat} {cs : Nat → ClassId} {σ : SX} {v : Int32} : (wM ad cs σ).set 0 (ad 0 0, .inr (7, ([.int ((σ 0).1 0), .int ((σ 0).1 1), .int ((σ 0).1 2), .ref (ad 0 1), .int ((σ 0).1 3), .ref (ad 0 2), .ref (ad 0 3), .int ((σ 0).1 4), .int ((σ 0).1 5), .int ((σ 0).1 6), .int ((σ 0).1 7), .int ((σ 0).1 8), .ref (ad 0 4), .int ((σ 0).1 9), .ref (ad 0 5), .ref (ad 0 6), .int ((σ 0).1 10), .int ((σ 0).1 11), .ref (ad 0 7), .int ((σ 0).1 12), .int ((σ 0).1 13), .ref (ad 0 8), .ref (ad 0 9), .ref (ad 0 10), .ref (ad 0 11), .ref (ad 0 12), .int ((σ 0).1 14), .ref (ad 0 13), .ref (ad 0 14), .int ((σ 0).1 15), .int ((σ 0).1 16), .ref (ad 0 15), .ref (ad 0 16)] : List Value).set 26 (.int v))) = wM ad cs (w1 σ 0 14 v) := rfl
theorem s_M_15 {ad : Nat → Nat → Nat} {cs : Nat → ClassId} {σ : SX} {v : Int32} : (wM ad cs σ).set 0 (ad 0 0, .inr (7, ([.int ((σ 0).1 0), .int ((σ 0).1 1), .int ((σ 0).1 2), .ref (ad 0 1), .int ((σ 0).1 3), .ref (ad 0 2), .ref (ad 0 3), .int ((σ 0).1 4), .int ((σ 0).1 5), .int ((σ 0).1 6), .int ((σ 0).1 7), .int ((σ 0).1 8), .ref (ad 0 4), .int ((σ 0).1 9), .ref (ad 0 5), .ref (ad 0 6), .int ((σ 0).1 10), .int ((σ 0).1 11), .ref (ad 0 7), .int ((σ 0).1 12), .int ((σ 0).1 13), .ref (ad 0 8), .ref (ad 0 9), .ref (ad 0 10), .ref (ad 0 11), .ref (ad 0 12), .int ((σ 0).1 14), .ref (ad 0 13), .ref (ad 0 14), .int ((σ 0).1 15), .int ((σ 0).1 16), .ref (ad 0 15), .ref (ad 0 16)] : List Value).set 29 (.int v))) = wM ad cs (w1 σ 0 15 v) := rfl
theorem s_M_16 {ad : Nat → Nat → Nat} {cs : Nat → ClassId} {σ : SX} {v : Int32} : (wM ad cs σ).set 0 (ad 0 0, .inr (7, ([.int ((σ 0).1 0), .int ((σ 0).1 1), .int ((σ 0).1 2), .ref (ad 0 1), .int ((σ 0).1 3), .ref (ad 0 2), .ref (ad 0 3), .int ((σ 0).1 4), .int ((σ 0).1 5), .int ((σ 0).1 6), .int ((σ 0).1 7), .int ((σ 0).1 8), .ref (ad 0 4), .int ((σ 0).1 9), .ref (ad 0 5), .ref (ad 0 6), .int ((σ 0).1 10), .int ((σ 0).1 11), .ref (ad 0 7), .int ((σ 0).1 12), .int ((σ 0).1 13), .ref (ad 0 8), .ref (ad 0 9), .ref (ad 0 10), .ref (ad 0 11), .ref (ad 0 12), .int ((σ 0).1 14), .ref (ad 0 13), .ref (ad 0 14), .int ((σ 0).1 15), .int ((σ 0).1 16), .ref (ad 0 15), .ref (ad 0 16)] : List Value).set 30 (.int v))) = wM ad cs (w1 σ 0 16 v) := rfl
theorem g_tapes {ad : Nat → Nat → Nat} {cs : Nat → ClassId} {σ : SX} : (wX ad cs σ)[18]? = some (ad 0 9, .inl (cs 2, 4, .inr (.inr (.inr (.inr (fun i => some (ad (7 + i) 0))))))) := rfl
theorem g_values {ad : Nat → Nat → Nat} {cs : Nat → ClassId} {σ : SX} : (wX ad cs σ)[2]? = some (ad 1 9, .inl (cs 3, 2, .inr (.inr (.inr (.inr (fun i => some (ad 1 (1 + i)))))))) := rfl
abbrev preX (dC : Nat → ClassId) (dI : Nat → Nat → Nat) (ad : Nat → Nat → Nat) (cs : Nat → ClassId) (sz : Nat) (σ : SX) (U : State) : Prop := U.heap.size = sz ∧ va_P (dC, dI) classes (wX ad cs σ) U.heap ∧ va_K (dC, dI) classes (tyW cs) U ∧ va_D (fun _ => True) (wX ad cs σ) ∧ nwW U
abbrev atX (dC : Nat → ClassId) (dI : Nat → Nat → Nat) (ad : Nat → Nat → Nat) (cs : Nat → ClassId) (A : Nat → Prop) (u : SX) (t : State) : Prop := va_P (dC, dI) classes (wX ad cs u) t.heap ∧ va_K (dC, dI) classes (tyW cs) t ∧ va_D A (wX ad cs u)
theorem blindX {dC : Nat → ClassId} {dI : Nat → Nat → Nat} {ad : Nat → Nat → Nat} {cs : Nat → ClassId} {sz : Nat} {σ : SX} {av : List Value} : FrameBlind (va_Pc av (preX dC dI ad cs sz σ)) := by
  intro a U g mk q
  obtain ⟨q0, q1, qP, qK, qD, qN⟩ := q
  exact ⟨q0, q1, qP, va_K.moved (u := U) (U := U.calling g mk a) (Vm.Alike.refl U.vm) qK, qD, nw_same rfl qN⟩
theorem payX {dC : Nat → ClassId} {dI : Nat → Nat → Nat} {ad : Nat → Nat → Nat} {cs : Nat → ClassId} {σ : SX} {av : List Value} {s : State} {H : Heap} {A : Nat → Prop} (hP : va_P (dC, dI) classes (wX ad cs σ) H) (hK : va_K (dC, dI) classes (tyW cs) s) (hD : va_D A (wX ad cs σ)) (hN : nwW s) : ∀ U : State, U.heap = H → s.WarmedH U.vm → va_Pc av (preX dC dI ad cs H.size σ) av.toArray U :=
  fun U hU hW => ⟨rfl, by rw [hU], by rw [hU]; exact hP, va_K.moved hW.alike hK, hD.weaken (fun _ _ _ _ => trivial), nw_warm hW hN⟩
abbrev preM (dC : Nat → ClassId) (dI : Nat → Nat → Nat) (ad : Nat → Nat → Nat) (cs : Nat → ClassId) (sz : Nat) (σ : SX) (U : State) : Prop := U.heap.size = sz ∧ va_P (dC, dI) classes (wM ad cs σ) U.heap ∧ va_K (dC, dI) classes (tyW cs) U ∧ va_D (fun _ => True) (wM ad cs σ) ∧ nwW U
abbrev atM (dC : Nat → ClassId) (dI : Nat → Nat → Nat) (ad : Nat → Nat → Nat) (cs : Nat → ClassId) (A : Nat → Prop) (u : SX) (t : State) : Prop := va_P (dC, dI) classes (wM ad cs u) t.heap ∧ va_K (dC, dI) classes (tyW cs) t ∧ va_D A (wM ad cs u)
theorem blindM {dC : Nat → ClassId} {dI : Nat → Nat → Nat} {ad : Nat → Nat → Nat} {cs : Nat → ClassId} {sz : Nat} {σ : SX} {av : List Value} : FrameBlind (va_Pc av (preM dC dI ad cs sz σ)) := by
  intro a U g mk q
  obtain ⟨q0, q1, qP, qK, qD, qN⟩ := q
  exact ⟨q0, q1, qP, va_K.moved (u := U) (U := U.calling g mk a) (Vm.Alike.refl U.vm) qK, qD, nw_same rfl qN⟩
theorem payM {dC : Nat → ClassId} {dI : Nat → Nat → Nat} {ad : Nat → Nat → Nat} {cs : Nat → ClassId} {σ : SX} {av : List Value} {s : State} {H : Heap} {A : Nat → Prop} (hP : va_P (dC, dI) classes (wM ad cs σ) H) (hK : va_K (dC, dI) classes (tyW cs) s) (hD : va_D A (wM ad cs σ)) (hN : nwW s) : ∀ U : State, U.heap = H → s.WarmedH U.vm → va_Pc av (preM dC dI ad cs H.size σ) av.toArray U :=
  fun U hU hW => ⟨rfl, by rw [hU], by rw [hU]; exact hP, va_K.moved hW.alike hK, hD.weaken (fun _ _ _ _ => trivial), nw_warm hW hN⟩
end
section
/-! Throwing: what a method that throws leaves behind; 'new X(); athrow' of the class; the words for it. -/
abbrev xS : String := "java/lang/IllegalStateException"
abbrev xI : String := "java/lang/IllegalArgumentException"
abbrev upN : List String := ["java/lang/RuntimeException", "java/lang/Exception"]
def xn (k : Nat) : String := if k = 0 then xS else xI
/-- the words that speak of the heap, or don't ride over warmer tables by themselves -/
def badL : List Cond := [.laysStatic Bundle.tN "UNASSIGNED_STACK" Bundle.steD, .laysStatic Bundle.tN "SUPPRESSED_SENTINEL" Bundle.listD, .isRef (.static Bundle.tN "UNASSIGNED_STACK" Bundle.steD), .isRef (.static Bundle.tN "SUPPRESSED_SENTINEL" Bundle.listD), .castable xS xS, .castable xI xI, .declares (Bundle.init0 "java/lang/RuntimeException"), .declares (Bundle.init0 "java/lang/Exception"), .declares (Bundle.init0 Bundle.tN)]
def stW (U : State) : Prop := ∀ c ∈ badL, c.before #[] U = true
theorem lays_old {s U : State} {C n d : String} {A A' : Array Value} (hvm : s.vm.Alike U.vm) (hh : ∀ a, a < s.heap.size → U.heap[a]? = s.heap[a]?) (h : (Cond.laysStatic C n d).before A s = true) : (Cond.laysStatic C n d).before A' U = true := by
  have h1 := Cond.laysStatic_setVm hvm h
  obtain ⟨c, k, i, f, a, cell, hc, hi, hst, ha, hcell, hs, hcls, hlt, hty⟩ := Cond.laysStatic_spec h1
  have hcell' : s.heap[a]? = some cell := hcell
  exact Cond.laysStatic_of (s := U) hc hi hst ha (by rw [hh a (Array.getElem?_eq_some_iff.mp hcell').1]; exact hcell') hs hcls hlt hty
theorem isref_old {s U : State} {C n d : String} {A A' : Array Value} (hvm : s.vm.Alike U.vm) (hh : ∀ a, a < s.heap.size → U.heap[a]? = s.heap[a]?) (hl : (Cond.laysStatic C n d).before A s = true) (h : (Cond.isRef (.static C n d)).before A s = true) : (Cond.isRef (.static C n d)).before A' U = true := by
  cases hv : (Term.static C n d).eval A s none [] s with
  | none => simp [Cond.before, Cond.holds, Cond.value, hv] at h
  | some w =>
    obtain ⟨c, k, i, f, a, cell, hc, hi, hst, ha, hcell, hs, hcls, hlt, hty⟩ := Cond.laysStatic_spec hl
    obtain ⟨hst', a', cell', ha', hcell', hiss, hslot⟩ := Term.static_spec hi hv
    cases ha.symm.trans ha'
    cases hcell.symm.trans hcell'
    obtain ⟨k', hi', he⟩ := State.fieldFound?_setVm hvm hi
    have hi2 : U.fieldFound? C n d = some (c, k', i, f) := hi'
    have hU : (Term.static C n d).eval A' U none [] U = some w := Term.static_eval hi2 hst' (by rw [he]; exact ha') (by rw [hh a (Array.getElem?_eq_some_iff.mp hcell').1]; exact hcell') hs hslot
    simp only [Cond.before, Cond.holds, Cond.value, hv] at h
    simp only [Cond.before, Cond.holds, Cond.value, hU]
    exact h
theorem stW_old {s U : State} (hW : s.WarmedH U.vm) (hh : ∀ a, a < s.heap.size → U.heap[a]? = s.heap[a]?) (h : stW s) : stW U := by
  intro c hc
  have a1 := h _ (List.mem_of_getElem? (i := 0) rfl)
  have a2 := h _ (List.mem_of_getElem? (i := 1) rfl)
  have a3 := h _ (List.mem_of_getElem? (i := 2) rfl)
  have a4 := h _ (List.mem_of_getElem? (i := 3) rfl)
  have a5 := h _ (List.mem_of_getElem? (i := 4) rfl)
  have a6 := h _ (List.mem_of_getElem? (i := 5) rfl)
  have a7 := h _ (List.mem_of_getElem? (i := 6) rfl)
  have a8 := h _ (List.mem_of_getElem? (i := 7) rfl)
  have a9 := h _ (List.mem_of_getElem? (i := 8) rfl)
  simp only [badL, List.mem_cons, List.not_mem_nil, or_false] at hc
  rcases hc with rfl | rfl | rfl | rfl | rfl | rfl | rfl | rfl | rfl
  · exact lays_old hW.alike hh a1
  · exact lays_old hW.alike hh a2
  · exact isref_old hW.alike hh a1 a3
  · exact isref_old hW.alike hh a2 a4
  · exact va_Nw.warmC hW a5
  · exact va_Nw.warmC hW a6
  · exact va_Nw.warmD hW a7
  · exact va_Nw.warmD hW a8
  · exact va_Nw.warmD hW a9
theorem bad_args {c : Cond} (hc : c ∈ badL) {A : Array Value} {U : State} (h : c.before #[] U = true) : c.before A U = true := by
  simp only [badL, List.mem_cons, List.not_mem_nil, or_false] at hc
  rcases hc with rfl | rfl | rfl | rfl | rfl | rfl | rfl | rfl | rfl
  · exact h
  · exact h
  · exact h
  · exact h
  · exact va_Nw.use rfl h
  · exact va_Nw.use rfl h
  · exact va_Nw.use rfl h
  · exact va_Nw.use rfl h
  · exact va_Nw.use rfl h
/-- what a throw leaves: an object of the class, new -/
def xQ (cls : String) (s : State) (x : Addr) (t : State) : Prop := ∃ ce : Cell, t.heap[x]? = some ce ∧ ce.vm = .none ∧ s.vm.findClass cls = some ce.cls ∧ s.vm.assignable ce.cls ce.cls = true ∧ s.heap.size ≤ x
def XQ (below : List Frame) (cls : String) (s : State) (mc ms : Nat) : State → Prop := fun t =>
  ∃ x, t.status = .running ∧ Ended t below (.threw x) ∧ xQ cls s x t ∧ s.WarmedH t.vm ∧ s.sameButNew ({ t with vm := s.vm } : State) [] mc ms
def MetX (l : Launch) (y : MethodName) (ws : List Cond) (rm : Room) (Pc : Array Value → State → Prop) (cls : String) (mc ms : Nat) : Prop :=
  MetFree l y (headSpec ws rm) Pc (fun _ _ _ _ _ => True) (fun _ st o t => ∃ x, o = .threw x ∧ xQ cls st x t ∧ st.WarmedH t.vm ∧ st.sameButNew ({ t with vm := st.vm } : State) [] mc ms)
theorem MetX.ofW {l : Launch} {y : MethodName} {ws ws' : List Cond} {rm : Room} {Pc : Array Value → State → Prop} {cls : String} {mc ms : Nat} {cc : ByteArray} {maxL : Nat} {ret : Option FieldType}
    (hy : plainName y.cls = true) (hw : ws = Cond.code y cc maxL ret :: ws')
    (body : ∀ p e s m args below meth c s₁, BodyLoose p l y (headSpec ws rm) cc maxL ret e s m args below meth c s₁ → c.maxLocals = maxL → Pc args s →
      W p l e (headSpec ws rm).room s m args below meth c s.heap [] 0 0 (XQ below cls s mc ms) (entryFrame m args maxL)) : MetX l y ws rm Pc cls mc ms := by
  refine MetFree.of_bodyS (code := cc) (maxLocals := maxL) (ret := ret) hy ?_ ?_
  · intro args s m h hn
    obtain ⟨meth, c, h1, h2, h3, h4, h5, h6, -, -⟩ := Cond.code_spec hn (atoms_spec (ws := ws) h _ (by rw [hw]; exact List.mem_cons_self))
    exact ⟨meth, c, h1, h2, h3, h4, h5, h6⟩
  · intro p e s m args below meth c s₁ B hml hP _
    have hh0 : s₁.heap = s.heap := by rw [B.state]; rfl
    obtain ⟨t, a1, x, b1, b2, b3⟩ := body p e s m args below meth c s₁ B hml hP s₁ hh0 (Stand.of_body B)
    exact ⟨t, .threw x, a1, b1, b2, x, rfl, b3⟩
theorem tr_off {l : Launch} {e : Env} (ha : l.admits e) (h : l.stackTraces = false) : e.platform.stackTraces = false := by
  rw [ha.platform]; exact h
section Throws
variable {p : Program} {l : Launch} {e : Env} {R : Room} {s : State} {m : MethodId} {args : Array Value} {below : List Frame} {meth : Method} {c : Code} {H : Heap} {locs : List Loc} {cells slots : Nat} {Q : State → Prop}
/-- new X(); athrow: the method throws, nothing that was there has changed -/
theorem W_throw0 {cc : ByteArray} {pc : Nat} {ls : Array Slot} {st : List Value} {own cls : String} {names : List String} {ia ic : Nat}
    (hx : p.tables.exec = Jvm.exec) (hb : c.code = cc) (htr : l.stackTraces = false) (hsz : ls.size = c.maxLocals) (hlocks : meth.locks = false) (hex : c.exceptionTable.isEmpty = true)
    (hown : s.vm.findClass own = some m.cls) (hcls : Bundle.fit cls = true) (hnames : ∀ n ∈ names, Bundle.fit n = true) (h : ∀ a ∈ Bundle.ownAtoms0 own ic cls names, a.before args s = true)
    (hclink : (Cond.classLink own ia cls).before args s = true) (hini : (Cond.initialized cls).before args s = true)
    (hd0 : decode cc pc = .ok (.new ia, 3)) (hd3 : decode cc (pc + 3) = .ok (.dup, 1)) (hd4 : decode cc (pc + 4) = .ok (.invokespecial ic, 3)) (hd7 : decode cc (pc + 7) = .ok (.athrow, 1))
    (hc : cells + 1 ≤ R.cells) (hs : slots + 6 ≤ R.slots) (hf : names.length + 3 < R.frames) (hlo : 1 + (st.map fun v => v.category).sum + (13 * (names.length + 1) + 41) ≤ R.locals)
    (hS : va_S (fun q => s.heap.size ≤ q) s.heap H locs) {mc ms : Nat} (hmc : cells + 1 ≤ mc) (hms : slots + 6 ≤ ms) :
    W p l e R s m args below meth c H locs cells slots (XQ below cls s mc ms) (F0 m pc ls st) := by
  refine va_forget hS.2.2 ?_
  intro T hT X
  have hins : (Cond.instantiable cls 6).before args s = true := h _ (by simp [Bundle.ownAtoms0])
  obtain ⟨vm₁, cX, kX, hfX, hkX, -, -, X₁, st1⟩ := X.newCold hx hown hclink hins hini (g := F0 m pc ls st) rfl (by rw [hb]; exact hd0) hc hs
  generalize hT1 : (T.setVm vm₁).pushCell { cls := cX, slots := kX.instanceTypes.map defaultValue, vm := .none } = T1 at X₁ st1
  have hcellA : T1.heap[T.heap.size]? = some (freshCell cX kX) := by rw [← hT1]; exact State.heap_pushCell_size _ _
  have hle : s.heap.size ≤ T.heap.size := by rw [hT]; exact hS.1
  obtain ⟨U, hsteps, hrun, hend, hW, hsame, ce, hce, K⟩ := X₁.ctorThrow0 hx (tr_off X.admits htr) hown hcls hnames h (fun y hy => by cases hy) hfX hkX hcellA hle
    (g := F0 m (pc + 4) ls (.ref T.heap.size :: .ref T.heap.size :: st)) rfl hsz rfl rfl (rest := st) rfl (by rw [hb]; exact hd4) (by rw [hb]; exact hd7) (covers_of_empty hex _) hf
    (by show 2 * 0 + _ + _ ≤ _; simp only [List.map_cons, List.sum_cons]; show 2 * 0 + (1 + _) + _ ≤ _; omega)
  refine ⟨U, ?_, T.heap.size, hrun, hend, ⟨ce, hce, K.vm, K.cls, K.self, hle⟩, hW, hsame.mono hmc hms⟩
  refine st1 _ ?_
  show Steps p.tables e below (T1.setTop (F0 m (pc + 3) ls (.ref T.heap.size :: st))) U
  jvm_step X₁.here [X₁.here.top, hx, hb, hd3, Value.category]
  exact hsteps
end Throws
theorem om_0 : ∀ a ∈ Bundle.ownAtoms0 R_O 79 xS upN, a ∈ tb ∨ a ∈ badL := by decide +kernel
theorem ow_0 {args : Array Value} {s : State} (htb : ∀ w ∈ tb, w.before args s = true) (hZ : stW s) : ∀ a ∈ Bundle.ownAtoms0 R_O 79 xS upN, a.before args s = true := fun a ha => (om_0 a ha).elim (htb a) (fun h => bad_args h (hZ a h))
theorem om_1 : ∀ a ∈ Bundle.ownAtoms0 R_O 90 xI upN, a ∈ tb ∨ a ∈ badL := by decide +kernel
theorem ow_1 {args : Array Value} {s : State} (htb : ∀ w ∈ tb, w.before args s = true) (hZ : stW s) : ∀ a ∈ Bundle.ownAtoms0 R_O 90 xI upN, a.before args s = true := fun a ha => (om_1 a ha).elim (htb a) (fun h => bad_args h (hZ a h))
end
section
/-! What the constructors stand on. -/
abbrev preC (dC : Nat → ClassId) (dI : Nat → Nat → Nat) (ws : va_W) (sz : Nat) (U : State) : Prop := U.heap.size = sz ∧ va_P (dC, dI) classes ws U.heap ∧ va_K (dC, dI) classes [] U ∧ va_D (fun _ => True) ws ∧ nwW U
theorem blindC {dC : Nat → ClassId} {dI : Nat → Nat → Nat} {ws : va_W} {sz : Nat} {av : List Value} : FrameBlind (va_Pc av (preC dC dI ws sz)) := by
  intro a U g mk q
  obtain ⟨q0, q1, qP, qK, qD, qN⟩ := q
  exact ⟨q0, q1, qP, va_K.moved (u := U) (U := U.calling g mk a) (Vm.Alike.refl U.vm) qK, qD, nw_same rfl qN⟩
theorem payC {dC : Nat → ClassId} {dI : Nat → Nat → Nat} {ws : va_W} {av : List Value} {s : State} {H : Heap} {A : Nat → Prop} (hP : va_P (dC, dI) classes ws H) (hK : va_K (dC, dI) classes [] s) (hD : va_D A ws) (hN : nwW s) : ∀ U : State, U.heap = H → s.WarmedH U.vm → va_Pc av (preC dC dI ws H.size) av.toArray U :=
  fun U hU hW => ⟨rfl, by rw [hU], by rw [hU]; exact hP, va_K.moved hW.alike hK, hD.weaken (fun _ _ _ _ => trivial), nw_warm hW hN⟩
theorem ka_i {D : va_G} {cl : List vw_C} {tys : List (ClassId × FieldType)} {U : State} (hK : va_K D cl tys U) (i j : Nat) {a b : ClassId} (hi : tys[i]? = some (a, .int)) (hj : tys[j]? = some (b, .int)) : a = b := by
  have h1 : U.vm.findClass ("[" ++ FieldType.int.toString) = some a := (hK.2 i _ hi).2
  have h2 : U.vm.findClass ("[" ++ FieldType.int.toString) = some b := (hK.2 j _ hj).2
  exact Option.some.inj (h1.symm.trans h2)
theorem ka_z {D : va_G} {cl : List vw_C} {tys : List (ClassId × FieldType)} {U : State} (hK : va_K D cl tys U) (i j : Nat) {a b : ClassId} (hi : tys[i]? = some (a, .boolean)) (hj : tys[j]? = some (b, .boolean)) : a = b := by
  have h1 : U.vm.findClass ("[" ++ FieldType.boolean.toString) = some a := (hK.2 i _ hi).2
  have h2 : U.vm.findClass ("[" ++ FieldType.boolean.toString) = some b := (hK.2 j _ hj).2
  exact Option.some.inj (h1.symm.trans h2)
def adl (l : List (List Nat)) : Nat → Nat → Nat := fun j k => ((l[j]?).getD []).getD k 0
def csl (l : List ClassId) : Nat → ClassId := fun k => (l[k]?).getD 0
def rm4 (x : Int32) : Int32 := if x < 1 then 4 else if 8 < x then 4 else x
theorem rm4_a {x : Int32} (h : x < 1) : rm4 x = 4 := if_pos h
theorem rm4_b {x : Int32} (h : ¬ x < 1) (h2 : 8 < x) : rm4 x = 4 := by rw [rm4, if_neg h, if_pos h2]
theorem rm4_c {x : Int32} (h : ¬ x < 1) (h2 : ¬ 8 < x) : rm4 x = x := by rw [rm4, if_neg h, if_neg h2]
def ini_X (r : Int32) : SX := fun j => (fun k => if j = 2 ∧ k = 0 then r else if j = 3 ∧ k = 0 then r else if j = 5 ∧ k = 1 then 1 else 0, fun _ _ => 0)
def iniX (x : Int32) : SX := ini_X (rm4 x)
def ini_M (r : Int32) : SX := fun _ => (fun k => if k = 1 then r else if k = 5 then 1 else if k = 6 then -1 else 0, fun k => if k = 12 then (upd (upd (upd (upd (fun _ => 0) (0 : Int32).toNatClampNeg 0) (1 : Int32).toNatClampNeg 1) (2 : Int32).toNatClampNeg 2) (3 : Int32).toNatClampNeg 3) else fun _ => 0)
def iniM (x : Int32) : SX := ini_M (rm4 x)
theorem cell_ext {c : ClassId} {n : Nat} {f g : Nat → Option Nat} (h : ∀ j, j < n → f j = g j) : vp_cell c (n, .inr (.inr (.inr (.inr f)))) = vp_cell c (n, .inr (.inr (.inr (.inr g)))) := by
  rw [vp_cell_q, vp_cell_q]
  unfold arrV
  congr 1
  apply Array.ext
  · simp
  · intro i h1 h2
    simp only [Array.size_ofFn] at h1
    simp [h i h1]
theorem P_cell {D : va_G} {cl : List vw_C} {ws : va_W} {H : Heap} {a n : Nat} {c : ClassId} {f g : Nat → Option Nat} (hP : va_P D cl ws H) (p : Nat) (hp : ws[p]? = some (a, .inl (c, n, .inr (.inr (.inr (.inr f)))))) (h : ∀ j, j < n → f j = g j) : va_P D cl (ws.set p (a, .inl (c, n, .inr (.inr (.inr (.inr g)))))) H := by
  intro k q hk
  by_cases e : p = k
  · subst e
    have hlt : p < ws.length := (List.getElem?_eq_some_iff.mp hp).1
    rw [List.getElem?_set_self hlt] at hk
    cases hk
    have h1 : H[a]? = some (vp_cell c (n, .inr (.inr (.inr (.inr f))))) := hP p _ hp
    show H[a]? = some (vp_cell c (n, .inr (.inr (.inr (.inr g)))))
    rw [h1, cell_ext h]
  · rw [List.getElem?_set_ne e] at hk
    exact hP k q hk
theorem D_cell {A : Nat → Prop} {ws : va_W} {a n : Nat} {c : ClassId} {f g : Nat → Option Nat} (hD : va_D A ws) (p : Nat) (hp : ws[p]? = some (a, .inl (c, n, .inr (.inr (.inr (.inr f)))))) : va_D A (ws.set p (a, .inl (c, n, .inr (.inr (.inr (.inr g)))))) := va_D.set hD hp
def va_two (a b : Nat) : Nat → Option Nat := fun i => if i = 0 then some a else some b
theorem outer2 (c : ClassId) (h0 : Nat) : Jvm.Free.Multi.outerC c 2 h0 2 = vp_cell c (2, .inr (.inr (.inr (.inr (va_two (h0 + 1) (h0 + 1 + 1)))))) := by
  rw [vp_cell_q]
  show ((({ cls := c, slots := Array.replicate 2 .null, vm := .none } : Cell).setSlot 0 (.ref (h0 + 1 + 0))).setSlot 1 (.ref (h0 + 1 + 1))) = _
  rw [arrV_new, arrV_store, arrV_store]
  unfold arrV
  congr 1
theorem inner2 (c : ClassId) : Jvm.Free.Multi.innerC c 150 (defaultValue .int) = vp_cell c (150, .inl (fun _ => 0)) := by
  show ({ cls := c, slots := Array.replicate 150 (defaultValue .int), vm := .none } : Cell) = _
  rw [arrV_new]
  rfl
section Multi
variable {p : Program} {l : Launch} {e : Env} {R : Room} {s : State} {m : MethodId} {args : Array Value} {below : List Frame} {meth : Method} {c : Code} {H : Heap} {locs : List Loc} {cells slots : Nat} {Q : State → Prop}
variable {cc : ByteArray} {pc : Nat} {ls : Array Slot} {rest : List Value} {D : va_G} {cl : List vw_C} {A : Nat → Prop} {a : Nat} {tys : List (ClassId × FieldType)} {ws : va_W} {H0 : Heap}
/-- new int[2][150] -/
theorem va_multi (hexec : p.tables.exec = Jvm.exec) (hb : c.code = cc) {own : String} {index : Nat} (hown : s.vm.findClass own = some m.cls) (hclink : (Cond.classLink own index "[[I").before args s = true) (hover : (Cond.arrayOver (.array .int)).before args s = true) (harr : (Cond.arrayClass .int).before args s = true)
    (hK : va_K D cl tys s) (hP : va_P D cl ws H) (hD : va_D A ws) (hS : va_S A H0 H locs) (hA : ∀ q, H0.size ≤ q → A q) (hcells : cells + 3 ≤ R.cells) (hslots : slots + 302 ≤ R.slots) (hdg : decode cc pc = .ok (.multianewarray index 2, 4))
    (kk : ∀ (q r1 r2 : Nat) (cA cI : ClassId) (H1 : Heap), va_K D cl (tys ++ [(cA, .array .int), (cI, .int)]) s → va_P D cl (ws ++ [(q, .inl (cA, 2, .inr (.inr (.inr (.inr (va_two r1 r2)))))), (r1, .inl (cI, 150, .inl (fun _ => 0))), (r2, .inl (cI, 150, .inl (fun _ => 0)))]) H1 →
      va_D A (ws ++ [(q, .inl (cA, 2, .inr (.inr (.inr (.inr (va_two r1 r2)))))), (r1, .inl (cI, 150, .inl (fun _ => 0))), (r2, .inl (cI, 150, .inl (fun _ => 0)))]) → va_S A H0 H1 locs →
      W p l e R s m args below meth c H1 locs (cells + 3) (slots + 302) Q (F0 m (pc + 4) ls (.ref q :: rest))) : W p l e R s m args below meth c H locs cells slots Q (F0 m pc ls (.int 150 :: .int 2 :: rest)) := by
  intro T hT Xs
  obtain ⟨vm₁, cA, comp, -, fA, fC, hO, hI, X', step⟩ := Xs.multianewarray2F hexec hown (ty := .int) hclink hover harr (g := F0 m pc ls (.int 150 :: .int 2 :: rest)) rfl (by rw [hb]; exact hdg) rfl (by decide) (by decide) (by decide) (by decide) (by decide) rfl rfl hcells hslots
  generalize hF : Jvm.Free.Multi.fill (T.setVm vm₁) cA comp (2 : Int32).toNatClampNeg (150 : Int32).toNatClampNeg (defaultValue .int) (2 : Int32).toNatClampNeg = F at X' step
  have hF : Jvm.Free.Multi.fill (T.setVm vm₁) cA comp 2 150 (defaultValue .int) 2 = F := hF
  have hTh : (T.setVm vm₁).heap = H := hT
  obtain ⟨f1, f2, -, -⟩ := Jvm.Free.Multi.fill_facts (T.setVm vm₁) cA comp 2 150 (defaultValue .int) 2
  rw [hF, hTh] at f1 f2
  rw [outer2] at f2
  have hold : ∀ x : Nat, x < H.size → F.heap[x]? = H[x]? := fun x hx => by
    have := Jvm.Free.Multi.fill_old (T.setVm vm₁) cA comp 2 150 (defaultValue .int) (a := x) (by rw [hTh]; exact hx) 2
    rw [hF, hTh] at this
    exact this
  have hrow : ∀ j : Nat, j < 2 → F.heap[H.size + 1 + j]? = some (vp_cell comp (150, .inl (fun _ => 0))) := fun j hj => by
    have := Jvm.Free.Multi.fill_inner (T.setVm vm₁) cA comp 2 150 (defaultValue .int) 2 j hj
    rw [hF, hTh, inner2] at this
    exact this
  have hnew : ∀ (k : Nat) (x : Nat × va_E), ([(H.size, .inl (cA, 2, .inr (.inr (.inr (.inr (va_two (H.size + 1) (H.size + 1 + 1))))))), (H.size + 1, .inl (comp, 150, .inl (fun _ => 0))), (H.size + 1 + 1, .inl (comp, 150, .inl (fun _ => 0)))] : va_W)[k]? = some x → va_at D cl x F.heap ∧ x.1 = H.size + k := by
    intro k x hx
    have h3 : k < 3 := (List.getElem?_eq_some_iff.mp hx).1
    rcases (show k = 0 ∨ k = 1 ∨ k = 2 by omega) with rfl | rfl | rfl
    · cases hx; exact ⟨f2, rfl⟩
    · cases hx; exact ⟨hrow 0 (by omega), rfl⟩
    · cases hx; exact ⟨hrow 1 (by omega), by show H.size + 1 + 1 = H.size + 2; omega⟩
  have hP1 : va_P D cl ws F.heap := hP.kept (fun k x hx => hold x.1 ((hP k x hx).lt))
  have hP2 := hP1.app (fun k x hx => (hnew k x hx).1)
  have hD1 : va_D A ([(H.size, .inl (cA, 2, .inr (.inr (.inr (.inr (va_two (H.size + 1) (H.size + 1 + 1))))))), (H.size + 1, .inl (comp, 150, .inl (fun _ => 0))), (H.size + 1 + 1, .inl (comp, 150, .inl (fun _ => 0)))] : va_W) := by
    refine ⟨fun i j x y hi hj hxy => ?_, fun k x hx => ?_⟩
    · have a1 := (hnew i x hi).2
      have a2 := (hnew j y hj).2
      omega
    · have a1 := (hnew k x hx).2
      exact hA _ (by have := hS.1; omega)
  have hD2 := hD.app hD1 (fun i j x y hi hj hxy => by
    have a1 := (hP i x hi).lt
    have a2 := (hnew j y hj).2
    omega)
  have hK2 : va_K D cl (tys ++ [(cA, .array .int), (comp, .int)]) s := ⟨hK.1, fun k x hx => by
    by_cases hl : k < tys.length
    · rw [List.getElem?_append_left hl] at hx
      exact hK.2 k x hx
    · rw [List.getElem?_append_right (by omega)] at hx
      have h2 : k - tys.length < 2 := (List.getElem?_eq_some_iff.mp hx).1
      rcases (show k - tys.length = 0 ∨ k - tys.length = 1 by omega) with h | h
      · rw [h] at hx
        cases hx
        refine ⟨fun N9 z9 => ?_, fA⟩
        obtain ⟨-, k9, hk9, cm9, hkk9⟩ := (hO 0 0 0).1
        exact ⟨(fun q hq => by cases hq), k9, hk9, cm9, hkk9⟩
      · rw [h] at hx
        cases hx
        refine ⟨fun N9 z9 => ?_, fC⟩
        obtain ⟨-, k9, hk9, cm9, hkk9⟩ := (hI 0 .null).1
        exact ⟨(fun q hq => by cases hq), k9, hk9, cm9, hkk9⟩⟩
  obtain ⟨t, a1, b1⟩ := kk H.size (H.size + 1) (H.size + 1 + 1) cA comp F.heap hK2 hP2 hD2 ⟨by rw [f1]; have := hS.1; omega, fun x h1 h2 => (hold x (Nat.lt_of_lt_of_le h1 hS.1)).trans (hS.2.1 x h1 h2), hS.2.2⟩ F rfl X'
  refine ⟨t, step t ?_, b1⟩
  have e : T.heap.size = H.size := by rw [hT]
  rw [e]
  exact a1
end Multi

theorem fs_O : ∀ j, j < 12 → defaultValue (ft_O j) = vp_V [.null, .null, .null, .null, .null, .null, .null, .null, .null, .null, .int 0, .int 0] j := by
  intro j hj
  rcases (show j = 0 ∨ j = 1 ∨ j = 2 ∨ j = 3 ∨ j = 4 ∨ j = 5 ∨ j = 6 ∨ j = 7 ∨ j = 8 ∨ j = 9 ∨ j = 10 ∨ j = 11 by omega) with rfl | rfl | rfl | rfl | rfl | rfl | rfl | rfl | rfl | rfl | rfl | rfl <;> rfl
theorem fs_D : ∀ j, j < 5 → defaultValue (ft_D j) = vp_V [.null, .null, .null, .int 0, .int 0] j := by
  intro j hj
  rcases (show j = 0 ∨ j = 1 ∨ j = 2 ∨ j = 3 ∨ j = 4 by omega) with rfl | rfl | rfl | rfl | rfl <;> rfl
theorem fs_S : ∀ j, j < 5 → defaultValue (ft_S j) = vp_V [.int 0, .null, .null, .int 0, .int 0] j := by
  intro j hj
  rcases (show j = 0 ∨ j = 1 ∨ j = 2 ∨ j = 3 ∨ j = 4 by omega) with rfl | rfl | rfl | rfl | rfl <;> rfl
theorem fs_P : ∀ j, j < 3 → defaultValue (ft_P j) = vp_V [.null, .int 0, .int 0] j := by
  intro j hj
  rcases (show j = 0 ∨ j = 1 ∨ j = 2 by omega) with rfl | rfl | rfl <;> rfl
theorem fs_V : ∀ j, j < 4 → defaultValue (ft_V j) = vp_V [.int 0, .int 0, .int 0, .int 0] j := by
  intro j hj
  rcases (show j = 0 ∨ j = 1 ∨ j = 2 ∨ j = 3 by omega) with rfl | rfl | rfl | rfl <;> rfl
theorem fs_R : ∀ j, j < 2 → defaultValue (ft_R j) = vp_V [.null, .int 0] j := by
  intro j hj
  rcases (show j = 0 ∨ j = 1 by omega) with rfl | rfl <;> rfl
theorem fs_T : ∀ j, j < 6 → defaultValue (ft_T j) = vp_V [.null, .null, .int 0, .int 0, .int 0, .int 0] j := by
  intro j hj
  rcases (show j = 0 ∨ j = 1 ∨ j = 2 ∨ j = 3 ∨ j = 4 ∨ j = 5 by omega) with rfl | rfl | rfl | rfl | rfl | rfl <;> rfl
theorem fs_M : ∀ j, j < 33 → defaultValue (ft_M j) = vp_V [.int 0, .int 0, .int 0, .null, .int 0, .null, .null, .int 0, .int 0, .int 0, .int 0, .int 0, .null, .int 0, .null, .null, .int 0, .int 0, .null, .int 0, .int 0, .null, .null, .null, .null, .null, .int 0, .null, .null, .int 0, .int 0, .null, .null] j := by
  intro j hj
  rcases (show j = 0 ∨ j = 1 ∨ j = 2 ∨ j = 3 ∨ j = 4 ∨ j = 5 ∨ j = 6 ∨ j = 7 ∨ j = 8 ∨ j = 9 ∨ j = 10 ∨ j = 11 ∨ j = 12 ∨ j = 13 ∨ j = 14 ∨ j = 15 ∨ j = 16 ∨ j = 17 ∨ j = 18 ∨ j = 19 ∨ j = 20 ∨ j = 21 ∨ j = 22 ∨ j = 23 ∨ j = 24 ∨ j = 25 ∨ j = 26 ∨ j = 27 ∨ j = 28 ∨ j = 29 ∨ j = 30 ∨ j = 31 ∨ j = 32 by omega) with rfl | rfl | rfl | rfl | rfl | rfl | rfl | rfl | rfl | rfl | rfl | rfl | rfl | rfl | rfl | rfl | rfl | rfl | rfl | rfl | rfl | rfl | rfl | rfl | rfl | rfl | rfl | rfl | rfl | rfl | rfl | rfl | rfl <;> rfl
end
section
theorem d_D_init_0 : decode b_D_init 0 = .ok (.aload_n 0, 1) := by decide +kernel
theorem d_D_init_1 : decode b_D_init 1 = .ok (.invokespecial 3, 3) := by decide +kernel
theorem d_D_init_4 : decode b_D_init 4 = .ok (.aload_n 0, 1) := by decide +kernel
theorem d_D_init_5 : decode b_D_init 5 = .ok (.iconst 2, 1) := by decide +kernel
theorem d_D_init_6 : decode b_D_init 6 = .ok (.sipush 150, 3) := by decide +kernel
theorem d_D_init_9 : decode b_D_init 9 = .ok (.multianewarray 9 2, 4) := by decide +kernel
theorem d_D_init_13 : decode b_D_init 13 = .ok (.putfield 11, 3) := by decide +kernel
theorem d_D_init_16 : decode b_D_init 16 = .ok (.aload_n 0, 1) := by decide +kernel
theorem d_D_init_17 : decode b_D_init 17 = .ok (.iconst 3, 1) := by decide +kernel
theorem d_D_init_18 : decode b_D_init 18 = .ok (.newarray .int, 2) := by decide +kernel
theorem d_D_init_20 : decode b_D_init 20 = .ok (.putfield 16, 3) := by decide +kernel
theorem d_D_init_23 : decode b_D_init 23 = .ok (.aload_n 0, 1) := by decide +kernel
theorem d_D_init_24 : decode b_D_init 24 = .ok (.iconst 3, 1) := by decide +kernel
theorem d_D_init_25 : decode b_D_init 25 = .ok (.newarray .int, 2) := by decide +kernel
theorem d_D_init_27 : decode b_D_init 27 = .ok (.putfield 20, 3) := by decide +kernel
theorem d_D_init_30 : decode b_D_init 30 = .ok (.aload_n 0, 1) := by decide +kernel
theorem d_D_init_31 : decode b_D_init 31 = .ok (.iconst 0, 1) := by decide +kernel
theorem d_D_init_32 : decode b_D_init 32 = .ok (.putfield 23, 3) := by decide +kernel
theorem d_D_init_35 : decode b_D_init 35 = .ok (.aload_n 0, 1) := by decide +kernel
theorem d_D_init_36 : decode b_D_init 36 = .ok (.iconst 0, 1) := by decide +kernel
theorem d_D_init_37 : decode b_D_init 37 = .ok (.putfield 27, 3) := by decide +kernel
theorem d_D_init_40 : decode b_D_init 40 = .ok (.return_, 1) := by decide +kernel
set_option maxHeartbeats 4000000 in
set_option maxRecDepth 100000 in
theorem c_D_init (l : Launch) (dC : Nat → ClassId) (dI : Nat → Nat → Nat) (h0 : Nat) (sz : Nat) : Met l y_D_init (wd y_D_init b_D_init 1 none) ({ frames := 1, cells := 5, slots := 308, locals := 12 }) (va_Pc [.ref h0] (preC dC dI [(h0, .inr (1, [.null, .null, .null, .int 0, .int 0]))] sz)) (va_Qv (fun (_ : Unit) => True) (fun (_ : Unit) t => ∃ (q9 q9a q9b q18 q25 : Nat) (c9 c9a : ClassId), va_P (dC, dI) classes [(h0, .inr (1, [.ref q9, .ref q18, .ref q25, .int 0, .int 0])), (q9, .inl (c9, 2, .inr (.inr (.inr (.inr (va_two q9a q9b)))))), (q9a, .inl (c9a, 150, .inl (fun _ => 0))), (q9b, .inl (c9a, 150, .inl (fun _ => 0))), (q18, .inl (c9a, 3, .inl (fun _ => 0))), (q25, .inl (c9a, 3, .inl (fun _ => 0)))] t.heap ∧ va_K (dC, dI) classes [(c9, .array .int), (c9a, .int)] t ∧ va_D (va_A [(h0, .inr (1, [.null, .null, .null, .int 0, .int 0]))] sz) [(h0, .inr (1, [.ref q9, .ref q18, .ref q25, .int 0, .int 0])), (q9, .inl (c9, 2, .inr (.inr (.inr (.inr (va_two q9a q9b)))))), (q9a, .inl (c9a, 150, .inl (fun _ => 0))), (q9b, .inl (c9a, 150, .inl (fun _ => 0))), (q18, .inl (c9a, 3, .inl (fun _ => 0))), (q25, .inl (c9a, 3, .inl (fun _ => 0)))]) (va_A [(h0, .inr (1, [.null, .null, .null, .int 0, .int 0]))] sz)) 5 308 (va_A [(h0, .inr (1, [.null, .null, .null, .int 0, .int 0]))] sz) := by
  refine Met.ofW (cc := b_D_init) (maxL := 1) (ret := none) (by decide) rfl ?_
  intro p e s m args below meth c s₁ B hml hv
  obtain ⟨rfl, hsz, hP, hK, hD0, hN⟩ := hv
  have hx := B.exec
  have hb := B.bytes
  have hr := B.returns
  have hts := atoms_spec (ws := (wd y_D_init b_D_init 1 none)) B.pre
  have htb : ∀ w ∈ tb, w.before _ s = true := fun w h => hts w (List.mem_cons_of_mem _ h)
  have hown : s.vm.findClass R_D = some m.cls := findClass_of_methodNamed B.named
  have hlocks := B.notSynchronized
  have hin : meth.name = "<init>" := (name_of_methodNamed B.named B.method).1
  subst hsz
  have hD := hD0.self (sz := s.heap.size)
  generalize hAe : va_A [(h0, .inr (1, [.null, .null, .null, .int 0, .int 0]))] s.heap.size = A at hD ⊢
  have hA : ∀ q : Nat, s.heap.size ≤ q → A q := fun q h => by rw [← hAe]; exact Or.inr h
  have hS : va_S A s.heap s.heap [] := va_S.rf
  have hP : va_P (dC, dI) classes [(h0, .inr (1, [.null, .null, .null, .int 0, .int 0]))] s.heap := hP
  have hl := lv_entry ([.ref h0]) (n := 1) (Nat.le_of_ble_eq_true rfl)
  rw [lg_entry_eq]
  generalize (lg_sl ([.ref h0]) ++ List.replicate (1 - (lg_sl ([.ref h0])).length) Slot.unset).toArray = ls at hl ⊢
  have hl : lv_has ls 1 [(0, .ref h0)] := hl
  refine lv_aload_n hx hb d_D_init_0 rfl (lv_at hl 0 rfl) ?_
  refine W.objInit hx hb hown (htb _ k_29) (htb _ k_22) (htb _ k_23) rfl (by rw [hml]; exact hl.1) rfl d_D_init_1 (Nat.le_of_ble_eq_true rfl) (Nat.le_of_ble_eq_true rfl) ?_
  refine W.eq (g2 := F0 m 4 ls []) rfl ?_
  refine lv_aload_n hx hb d_D_init_4 rfl (lv_at hl 0 rfl) ?_
  refine lv_iconst (v := 2) hx hb d_D_init_5 (by decide) ?_
  refine lv_sipush (v := 150) hx hb d_D_init_6 (by decide) ?_
  refine va_multi hx hb hown (htb _ k_30) hN.2.2.2.2.2.2.2.2.2 (htb _ k_48) hK hP hD hS hA (Nat.le_of_ble_eq_true rfl) (Nat.le_of_ble_eq_true rfl) d_D_init_9 (fun q9 q9a q9b c9 c9a H hK hP hD hS => ?_)
  have hP : va_P (dC, dI) classes [(h0, .inr (1, [.null, .null, .null, .int 0, .int 0])), (q9, .inl (c9, 2, .inr (.inr (.inr (.inr (va_two q9a q9b)))))), (q9a, .inl (c9a, 150, .inl (fun _ => 0))), (q9b, .inl (c9a, 150, .inl (fun _ => 0)))] H := hP
  have hD : va_D A [(h0, .inr (1, [.null, .null, .null, .int 0, .int 0])), (q9, .inl (c9, 2, .inr (.inr (.inr (.inr (va_two q9a q9b)))))), (q9a, .inl (c9a, 150, .inl (fun _ => 0))), (q9b, .inl (c9a, 150, .inl (fun _ => 0)))] := hD
  have hK : va_K (dC, dI) classes [(c9, .array .int), (c9a, .int)] s := hK
  refine va_putF (D := (dC, dI)) (ci := 1) (v := .ref q9) (ty := .array (.array (.int))) (C := R_D) (T := F_D) (N := 5) hx hb htb in_D ft_D ft_D_ok n_D hown hK hP hD hS 0 rfl rfl 0 (by decide) (htb _ k_32) (fun _ h9 => h9) rfl hin rfl (by decide +kernel) rfl rfl (Nat.le_of_ble_eq_true rfl) d_D_init_13 (fun H locs hP hD hS => ?_)
  have hP : va_P (dC, dI) classes [(h0, .inr (1, [.ref q9, .null, .null, .int 0, .int 0])), (q9, .inl (c9, 2, .inr (.inr (.inr (.inr (va_two q9a q9b)))))), (q9a, .inl (c9a, 150, .inl (fun _ => 0))), (q9b, .inl (c9a, 150, .inl (fun _ => 0)))] H := hP
  have hD : va_D A [(h0, .inr (1, [.ref q9, .null, .null, .int 0, .int 0])), (q9, .inl (c9, 2, .inr (.inr (.inr (.inr (va_two q9a q9b)))))), (q9a, .inl (c9a, 150, .inl (fun _ => 0))), (q9b, .inl (c9a, 150, .inl (fun _ => 0)))] := hD
  refine lv_aload_n hx hb d_D_init_16 rfl (lv_at hl 0 rfl) ?_
  refine lv_iconst (v := 3) hx hb d_D_init_17 (by decide) ?_
  refine va_newa (ty := .int) (a0 := (3, .inl (fun _ => 0))) (N' := 3) hx hb (htb _ k_48) rfl hK hP hD hS hA (fun _ => rfl) (by decide) rfl (by decide) (Nat.le_of_ble_eq_true rfl) (Nat.le_of_ble_eq_true rfl) d_D_init_18 (fun q18 c18 H hK hP hD hS => ?_)
  obtain rfl : c9a = c18 := ka_i hK 1 2 rfl rfl
  have hK := hK.sub (tys' := [(c9, .array .int), (c9a, .int)]) [0, 1] rfl
  have hP : va_P (dC, dI) classes [(h0, .inr (1, [.ref q9, .null, .null, .int 0, .int 0])), (q9, .inl (c9, 2, .inr (.inr (.inr (.inr (va_two q9a q9b)))))), (q9a, .inl (c9a, 150, .inl (fun _ => 0))), (q9b, .inl (c9a, 150, .inl (fun _ => 0))), (q18, .inl (c9a, 3, .inl (fun _ => 0)))] H := hP
  have hD : va_D A [(h0, .inr (1, [.ref q9, .null, .null, .int 0, .int 0])), (q9, .inl (c9, 2, .inr (.inr (.inr (.inr (va_two q9a q9b)))))), (q9a, .inl (c9a, 150, .inl (fun _ => 0))), (q9b, .inl (c9a, 150, .inl (fun _ => 0))), (q18, .inl (c9a, 3, .inl (fun _ => 0)))] := hD
  have hK : va_K (dC, dI) classes [(c9, .array .int), (c9a, .int)] s := hK
  refine va_putF (D := (dC, dI)) (ci := 1) (v := .ref q18) (ty := .array (.int)) (C := R_D) (T := F_D) (N := 5) hx hb htb in_D ft_D ft_D_ok n_D hown hK hP hD hS 0 rfl rfl 1 (by decide) (htb _ k_33) (fun _ h9 => h9) rfl hin rfl (by decide +kernel) rfl rfl (Nat.le_of_ble_eq_true rfl) d_D_init_20 (fun H locs hP hD hS => ?_)
  have hP : va_P (dC, dI) classes [(h0, .inr (1, [.ref q9, .ref q18, .null, .int 0, .int 0])), (q9, .inl (c9, 2, .inr (.inr (.inr (.inr (va_two q9a q9b)))))), (q9a, .inl (c9a, 150, .inl (fun _ => 0))), (q9b, .inl (c9a, 150, .inl (fun _ => 0))), (q18, .inl (c9a, 3, .inl (fun _ => 0)))] H := hP
  have hD : va_D A [(h0, .inr (1, [.ref q9, .ref q18, .null, .int 0, .int 0])), (q9, .inl (c9, 2, .inr (.inr (.inr (.inr (va_two q9a q9b)))))), (q9a, .inl (c9a, 150, .inl (fun _ => 0))), (q9b, .inl (c9a, 150, .inl (fun _ => 0))), (q18, .inl (c9a, 3, .inl (fun _ => 0)))] := hD
  refine lv_aload_n hx hb d_D_init_23 rfl (lv_at hl 0 rfl) ?_
  refine lv_iconst (v := 3) hx hb d_D_init_24 (by decide) ?_
  refine va_newa (ty := .int) (a0 := (3, .inl (fun _ => 0))) (N' := 3) hx hb (htb _ k_48) rfl hK hP hD hS hA (fun _ => rfl) (by decide) rfl (by decide) (Nat.le_of_ble_eq_true rfl) (Nat.le_of_ble_eq_true rfl) d_D_init_25 (fun q25 c25 H hK hP hD hS => ?_)
  obtain rfl : c9a = c25 := ka_i hK 1 2 rfl rfl
  have hK := hK.sub (tys' := [(c9, .array .int), (c9a, .int)]) [0, 1] rfl
  have hP : va_P (dC, dI) classes [(h0, .inr (1, [.ref q9, .ref q18, .null, .int 0, .int 0])), (q9, .inl (c9, 2, .inr (.inr (.inr (.inr (va_two q9a q9b)))))), (q9a, .inl (c9a, 150, .inl (fun _ => 0))), (q9b, .inl (c9a, 150, .inl (fun _ => 0))), (q18, .inl (c9a, 3, .inl (fun _ => 0))), (q25, .inl (c9a, 3, .inl (fun _ => 0)))] H := hP
  have hD : va_D A [(h0, .inr (1, [.ref q9, .ref q18, .null, .int 0, .int 0])), (q9, .inl (c9, 2, .inr (.inr (.inr (.inr (va_two q9a q9b)))))), (q9a, .inl (c9a, 150, .inl (fun _ => 0))), (q9b, .inl (c9a, 150, .inl (fun _ => 0))), (q18, .inl (c9a, 3, .inl (fun _ => 0))), (q25, .inl (c9a, 3, .inl (fun _ => 0)))] := hD
  have hK : va_K (dC, dI) classes [(c9, .array .int), (c9a, .int)] s := hK
  refine va_putF (D := (dC, dI)) (ci := 1) (v := .ref q25) (ty := .array (.int)) (C := R_D) (T := F_D) (N := 5) hx hb htb in_D ft_D ft_D_ok n_D hown hK hP hD hS 0 rfl rfl 2 (by decide) (htb _ k_34) (fun _ h9 => h9) rfl hin rfl (by decide +kernel) rfl rfl (Nat.le_of_ble_eq_true rfl) d_D_init_27 (fun H locs hP hD hS => ?_)
  have hP : va_P (dC, dI) classes [(h0, .inr (1, [.ref q9, .ref q18, .ref q25, .int 0, .int 0])), (q9, .inl (c9, 2, .inr (.inr (.inr (.inr (va_two q9a q9b)))))), (q9a, .inl (c9a, 150, .inl (fun _ => 0))), (q9b, .inl (c9a, 150, .inl (fun _ => 0))), (q18, .inl (c9a, 3, .inl (fun _ => 0))), (q25, .inl (c9a, 3, .inl (fun _ => 0)))] H := hP
  have hD : va_D A [(h0, .inr (1, [.ref q9, .ref q18, .ref q25, .int 0, .int 0])), (q9, .inl (c9, 2, .inr (.inr (.inr (.inr (va_two q9a q9b)))))), (q9a, .inl (c9a, 150, .inl (fun _ => 0))), (q9b, .inl (c9a, 150, .inl (fun _ => 0))), (q18, .inl (c9a, 3, .inl (fun _ => 0))), (q25, .inl (c9a, 3, .inl (fun _ => 0)))] := hD
  refine lv_aload_n hx hb d_D_init_30 rfl (lv_at hl 0 rfl) ?_
  refine lv_iconst (v := 0) hx hb d_D_init_31 (by decide) ?_
  refine va_put (D := (dC, dI)) (ci := 1) (v := .int 0) (ty := .int) (C := R_D) (T := F_D) (N := 5) hx hb htb in_D ft_D ft_D_ok n_D hown hK hP hD hS 0 rfl rfl 3 (by decide) (htb _ k_35) (fun _ h9 => h9) rfl (by decide +kernel) rfl rfl (Nat.le_of_ble_eq_true rfl) d_D_init_32 (fun H locs hP hD hS => ?_)
  have hP : va_P (dC, dI) classes [(h0, .inr (1, [.ref q9, .ref q18, .ref q25, .int 0, .int 0])), (q9, .inl (c9, 2, .inr (.inr (.inr (.inr (va_two q9a q9b)))))), (q9a, .inl (c9a, 150, .inl (fun _ => 0))), (q9b, .inl (c9a, 150, .inl (fun _ => 0))), (q18, .inl (c9a, 3, .inl (fun _ => 0))), (q25, .inl (c9a, 3, .inl (fun _ => 0)))] H := hP
  have hD : va_D A [(h0, .inr (1, [.ref q9, .ref q18, .ref q25, .int 0, .int 0])), (q9, .inl (c9, 2, .inr (.inr (.inr (.inr (va_two q9a q9b)))))), (q9a, .inl (c9a, 150, .inl (fun _ => 0))), (q9b, .inl (c9a, 150, .inl (fun _ => 0))), (q18, .inl (c9a, 3, .inl (fun _ => 0))), (q25, .inl (c9a, 3, .inl (fun _ => 0)))] := hD
  refine lv_aload_n hx hb d_D_init_35 rfl (lv_at hl 0 rfl) ?_
  refine lv_iconst (v := 0) hx hb d_D_init_36 (by decide) ?_
  refine va_put (D := (dC, dI)) (ci := 1) (v := .int 0) (ty := .int) (C := R_D) (T := F_D) (N := 5) hx hb htb in_D ft_D ft_D_ok n_D hown hK hP hD hS 0 rfl rfl 4 (by decide) (htb _ k_36) (fun _ h9 => h9) rfl (by decide +kernel) rfl rfl (Nat.le_of_ble_eq_true rfl) d_D_init_37 (fun H locs hP hD hS => ?_)
  have hP : va_P (dC, dI) classes [(h0, .inr (1, [.ref q9, .ref q18, .ref q25, .int 0, .int 0])), (q9, .inl (c9, 2, .inr (.inr (.inr (.inr (va_two q9a q9b)))))), (q9a, .inl (c9a, 150, .inl (fun _ => 0))), (q9b, .inl (c9a, 150, .inl (fun _ => 0))), (q18, .inl (c9a, 3, .inl (fun _ => 0))), (q25, .inl (c9a, 3, .inl (fun _ => 0)))] H := hP
  have hD : va_D A [(h0, .inr (1, [.ref q9, .ref q18, .ref q25, .int 0, .int 0])), (q9, .inl (c9, 2, .inr (.inr (.inr (.inr (va_two q9a q9b)))))), (q9a, .inl (c9a, 150, .inl (fun _ => 0))), (q9b, .inl (c9a, 150, .inl (fun _ => 0))), (q18, .inl (c9a, 3, .inl (fun _ => 0))), (q25, .inl (c9a, 3, .inl (fun _ => 0)))] := hD
  exact W.vret hx hb hr (fun t ht hW => ⟨⟨(), rfl, trivial, q9, q9a, q9b, q18, q25, c9, c9a, by rw [ht]; exact hP, va_K.moved hW.alike hK, hD⟩, hS.F ht⟩) hS.2.2 d_D_init_40

theorem d_P_init_0 : decode b_P_init 0 = .ok (.aload_n 0, 1) := by decide +kernel
theorem d_P_init_1 : decode b_P_init 1 = .ok (.invokespecial 3, 3) := by decide +kernel
theorem d_P_init_4 : decode b_P_init 4 = .ok (.aload_n 0, 1) := by decide +kernel
theorem d_P_init_5 : decode b_P_init 5 = .ok (.iconst 3, 1) := by decide +kernel
theorem d_P_init_6 : decode b_P_init 6 = .ok (.newarray .int, 2) := by decide +kernel
theorem d_P_init_8 : decode b_P_init 8 = .ok (.putfield 9, 3) := by decide +kernel
theorem d_P_init_11 : decode b_P_init 11 = .ok (.aload_n 0, 1) := by decide +kernel
theorem d_P_init_12 : decode b_P_init 12 = .ok (.iconst 0, 1) := by decide +kernel
theorem d_P_init_13 : decode b_P_init 13 = .ok (.putfield 15, 3) := by decide +kernel
theorem d_P_init_16 : decode b_P_init 16 = .ok (.aload_n 0, 1) := by decide +kernel
theorem d_P_init_17 : decode b_P_init 17 = .ok (.iconst 0, 1) := by decide +kernel
theorem d_P_init_18 : decode b_P_init 18 = .ok (.putfield 19, 3) := by decide +kernel
theorem d_P_init_21 : decode b_P_init 21 = .ok (.return_, 1) := by decide +kernel
set_option maxHeartbeats 4000000 in
set_option maxRecDepth 100000 in
theorem c_P_init (l : Launch) (dC : Nat → ClassId) (dI : Nat → Nat → Nat) (h0 : Nat) (sz : Nat) : Met l y_P_init (wd y_P_init b_P_init 1 none) ({ frames := 1, cells := 1, slots := 3, locals := 12 }) (va_Pc [.ref h0] (preC dC dI [(h0, .inr (3, [.null, .int 0, .int 0]))] sz)) (va_Qv (fun (_ : Unit) => True) (fun (_ : Unit) t => ∃ (q6 : Nat) (c6 : ClassId), va_P (dC, dI) classes [(h0, .inr (3, [.ref q6, .int 0, .int 0])), (q6, .inl (c6, 3, .inl (fun _ => 0)))] t.heap ∧ va_K (dC, dI) classes [(c6, .int)] t ∧ va_D (va_A [(h0, .inr (3, [.null, .int 0, .int 0]))] sz) [(h0, .inr (3, [.ref q6, .int 0, .int 0])), (q6, .inl (c6, 3, .inl (fun _ => 0)))]) (va_A [(h0, .inr (3, [.null, .int 0, .int 0]))] sz)) 1 3 (va_A [(h0, .inr (3, [.null, .int 0, .int 0]))] sz) := by
  refine Met.ofW (cc := b_P_init) (maxL := 1) (ret := none) (by decide) rfl ?_
  intro p e s m args below meth c s₁ B hml hv
  obtain ⟨rfl, hsz, hP, hK, hD0, hN⟩ := hv
  have hx := B.exec
  have hb := B.bytes
  have hr := B.returns
  have hts := atoms_spec (ws := (wd y_P_init b_P_init 1 none)) B.pre
  have htb : ∀ w ∈ tb, w.before _ s = true := fun w h => hts w (List.mem_cons_of_mem _ h)
  have hown : s.vm.findClass R_P = some m.cls := findClass_of_methodNamed B.named
  have hlocks := B.notSynchronized
  have hin : meth.name = "<init>" := (name_of_methodNamed B.named B.method).1
  subst hsz
  have hD := hD0.self (sz := s.heap.size)
  generalize hAe : va_A [(h0, .inr (3, [.null, .int 0, .int 0]))] s.heap.size = A at hD ⊢
  have hA : ∀ q : Nat, s.heap.size ≤ q → A q := fun q h => by rw [← hAe]; exact Or.inr h
  have hS : va_S A s.heap s.heap [] := va_S.rf
  have hP : va_P (dC, dI) classes [(h0, .inr (3, [.null, .int 0, .int 0]))] s.heap := hP
  have hl := lv_entry ([.ref h0]) (n := 1) (Nat.le_of_ble_eq_true rfl)
  rw [lg_entry_eq]
  generalize (lg_sl ([.ref h0]) ++ List.replicate (1 - (lg_sl ([.ref h0])).length) Slot.unset).toArray = ls at hl ⊢
  have hl : lv_has ls 1 [(0, .ref h0)] := hl
  refine lv_aload_n hx hb d_P_init_0 rfl (lv_at hl 0 rfl) ?_
  refine W.objInit hx hb hown (htb _ k_54) (htb _ k_22) (htb _ k_23) rfl (by rw [hml]; exact hl.1) rfl d_P_init_1 (Nat.le_of_ble_eq_true rfl) (Nat.le_of_ble_eq_true rfl) ?_
  refine W.eq (g2 := F0 m 4 ls []) rfl ?_
  refine lv_aload_n hx hb d_P_init_4 rfl (lv_at hl 0 rfl) ?_
  refine lv_iconst (v := 3) hx hb d_P_init_5 (by decide) ?_
  refine va_newa (ty := .int) (a0 := (3, .inl (fun _ => 0))) (N' := 3) hx hb (htb _ k_48) rfl hK hP hD hS hA (fun _ => rfl) (by decide) rfl (by decide) (Nat.le_of_ble_eq_true rfl) (Nat.le_of_ble_eq_true rfl) d_P_init_6 (fun q6 c6 H hK hP hD hS => ?_)
  have hP : va_P (dC, dI) classes [(h0, .inr (3, [.null, .int 0, .int 0])), (q6, .inl (c6, 3, .inl (fun _ => 0)))] H := hP
  have hD : va_D A [(h0, .inr (3, [.null, .int 0, .int 0])), (q6, .inl (c6, 3, .inl (fun _ => 0)))] := hD
  have hK : va_K (dC, dI) classes [(c6, .int)] s := hK
  refine va_putF (D := (dC, dI)) (ci := 3) (v := .ref q6) (ty := .array (.int)) (C := R_P) (T := F_P) (N := 3) hx hb htb in_P ft_P ft_P_ok n_P hown hK hP hD hS 0 rfl rfl 0 (by decide) (htb _ k_55) (fun _ h9 => h9) rfl hin rfl (by decide +kernel) rfl rfl (Nat.le_of_ble_eq_true rfl) d_P_init_8 (fun H locs hP hD hS => ?_)
  have hP : va_P (dC, dI) classes [(h0, .inr (3, [.ref q6, .int 0, .int 0])), (q6, .inl (c6, 3, .inl (fun _ => 0)))] H := hP
  have hD : va_D A [(h0, .inr (3, [.ref q6, .int 0, .int 0])), (q6, .inl (c6, 3, .inl (fun _ => 0)))] := hD
  refine lv_aload_n hx hb d_P_init_11 rfl (lv_at hl 0 rfl) ?_
  refine lv_iconst (v := 0) hx hb d_P_init_12 (by decide) ?_
  refine va_put (D := (dC, dI)) (ci := 3) (v := .int 0) (ty := .int) (C := R_P) (T := F_P) (N := 3) hx hb htb in_P ft_P ft_P_ok n_P hown hK hP hD hS 0 rfl rfl 1 (by decide) (htb _ k_56) (fun _ h9 => h9) rfl (by decide +kernel) rfl rfl (Nat.le_of_ble_eq_true rfl) d_P_init_13 (fun H locs hP hD hS => ?_)
  have hP : va_P (dC, dI) classes [(h0, .inr (3, [.ref q6, .int 0, .int 0])), (q6, .inl (c6, 3, .inl (fun _ => 0)))] H := hP
  have hD : va_D A [(h0, .inr (3, [.ref q6, .int 0, .int 0])), (q6, .inl (c6, 3, .inl (fun _ => 0)))] := hD
  refine lv_aload_n hx hb d_P_init_16 rfl (lv_at hl 0 rfl) ?_
  refine lv_iconst (v := 0) hx hb d_P_init_17 (by decide) ?_
  refine va_put (D := (dC, dI)) (ci := 3) (v := .int 0) (ty := .int) (C := R_P) (T := F_P) (N := 3) hx hb htb in_P ft_P ft_P_ok n_P hown hK hP hD hS 0 rfl rfl 2 (by decide) (htb _ k_57) (fun _ h9 => h9) rfl (by decide +kernel) rfl rfl (Nat.le_of_ble_eq_true rfl) d_P_init_18 (fun H locs hP hD hS => ?_)
  have hP : va_P (dC, dI) classes [(h0, .inr (3, [.ref q6, .int 0, .int 0])), (q6, .inl (c6, 3, .inl (fun _ => 0)))] H := hP
  have hD : va_D A [(h0, .inr (3, [.ref q6, .int 0, .int 0])), (q6, .inl (c6, 3, .inl (fun _ => 0)))] := hD
  exact W.vret hx hb hr (fun t ht hW => ⟨⟨(), rfl, trivial, q6, c6, by rw [ht]; exact hP, va_K.moved hW.alike hK, hD⟩, hS.F ht⟩) hS.2.2 d_P_init_21

theorem d_V_init_0 : decode b_V_init 0 = .ok (.aload_n 0, 1) := by decide +kernel
theorem d_V_init_1 : decode b_V_init 1 = .ok (.invokespecial 1, 3) := by decide +kernel
theorem d_V_init_4 : decode b_V_init 4 = .ok (.aload_n 0, 1) := by decide +kernel
theorem d_V_init_5 : decode b_V_init 5 = .ok (.iconst 0, 1) := by decide +kernel
theorem d_V_init_6 : decode b_V_init 6 = .ok (.putfield 7, 3) := by decide +kernel
theorem d_V_init_9 : decode b_V_init 9 = .ok (.aload_n 0, 1) := by decide +kernel
theorem d_V_init_10 : decode b_V_init 10 = .ok (.iconst 1, 1) := by decide +kernel
theorem d_V_init_11 : decode b_V_init 11 = .ok (.putfield 13, 3) := by decide +kernel
theorem d_V_init_14 : decode b_V_init 14 = .ok (.aload_n 0, 1) := by decide +kernel
theorem d_V_init_15 : decode b_V_init 15 = .ok (.iconst 0, 1) := by decide +kernel
theorem d_V_init_16 : decode b_V_init 16 = .ok (.putfield 17, 3) := by decide +kernel
theorem d_V_init_19 : decode b_V_init 19 = .ok (.aload_n 0, 1) := by decide +kernel
theorem d_V_init_20 : decode b_V_init 20 = .ok (.iconst 0, 1) := by decide +kernel
theorem d_V_init_21 : decode b_V_init 21 = .ok (.putfield 20, 3) := by decide +kernel
theorem d_V_init_24 : decode b_V_init 24 = .ok (.return_, 1) := by decide +kernel
set_option maxHeartbeats 4000000 in
set_option maxRecDepth 100000 in
theorem c_V_init (l : Launch) (dC : Nat → ClassId) (dI : Nat → Nat → Nat) (h0 : Nat) (sz : Nat) : Met l y_V_init (wd y_V_init b_V_init 1 none) ({ frames := 1, cells := 0, slots := 0, locals := 12 }) (va_Pc [.ref h0] (preC dC dI [(h0, .inr (4, [.int 0, .int 0, .int 0, .int 0]))] sz)) (va_Qv (fun (_ : Unit) => True) (fun (_ : Unit) t => va_P (dC, dI) classes [(h0, .inr (4, [.int 0, .int 1, .int 0, .int 0]))] t.heap ∧ va_K (dC, dI) classes [] t ∧ va_D (va_A [(h0, .inr (4, [.int 0, .int 0, .int 0, .int 0]))] sz) [(h0, .inr (4, [.int 0, .int 1, .int 0, .int 0]))]) (va_A [(h0, .inr (4, [.int 0, .int 0, .int 0, .int 0]))] sz)) 0 0 (va_A [(h0, .inr (4, [.int 0, .int 0, .int 0, .int 0]))] sz) := by
  refine Met.ofW (cc := b_V_init) (maxL := 1) (ret := none) (by decide) rfl ?_
  intro p e s m args below meth c s₁ B hml hv
  obtain ⟨rfl, hsz, hP, hK, hD0, hN⟩ := hv
  have hx := B.exec
  have hb := B.bytes
  have hr := B.returns
  have hts := atoms_spec (ws := (wd y_V_init b_V_init 1 none)) B.pre
  have htb : ∀ w ∈ tb, w.before _ s = true := fun w h => hts w (List.mem_cons_of_mem _ h)
  have hown : s.vm.findClass R_V = some m.cls := findClass_of_methodNamed B.named
  have hlocks := B.notSynchronized
  have hin : meth.name = "<init>" := (name_of_methodNamed B.named B.method).1
  subst hsz
  have hD := hD0.self (sz := s.heap.size)
  generalize hAe : va_A [(h0, .inr (4, [.int 0, .int 0, .int 0, .int 0]))] s.heap.size = A at hD ⊢
  have hA : ∀ q : Nat, s.heap.size ≤ q → A q := fun q h => by rw [← hAe]; exact Or.inr h
  have hS : va_S A s.heap s.heap [] := va_S.rf
  have hP : va_P (dC, dI) classes [(h0, .inr (4, [.int 0, .int 0, .int 0, .int 0]))] s.heap := hP
  have hl := lv_entry ([.ref h0]) (n := 1) (Nat.le_of_ble_eq_true rfl)
  rw [lg_entry_eq]
  generalize (lg_sl ([.ref h0]) ++ List.replicate (1 - (lg_sl ([.ref h0])).length) Slot.unset).toArray = ls at hl ⊢
  have hl : lv_has ls 1 [(0, .ref h0)] := hl
  refine lv_aload_n hx hb d_V_init_0 rfl (lv_at hl 0 rfl) ?_
  refine W.objInit hx hb hown (htb _ k_70) (htb _ k_22) (htb _ k_23) rfl (by rw [hml]; exact hl.1) rfl d_V_init_1 (Nat.le_of_ble_eq_true rfl) (Nat.le_of_ble_eq_true rfl) ?_
  refine W.eq (g2 := F0 m 4 ls []) rfl ?_
  refine lv_aload_n hx hb d_V_init_4 rfl (lv_at hl 0 rfl) ?_
  refine lv_iconst (v := 0) hx hb d_V_init_5 (by decide) ?_
  refine va_put (D := (dC, dI)) (ci := 4) (v := .int 0) (ty := .int) (C := R_V) (T := F_V) (N := 4) hx hb htb in_V ft_V ft_V_ok n_V hown hK hP hD hS 0 rfl rfl 0 (by decide) (htb _ k_71) (fun _ h9 => h9) rfl (by decide +kernel) rfl rfl (Nat.le_of_ble_eq_true rfl) d_V_init_6 (fun H locs hP hD hS => ?_)
  have hP : va_P (dC, dI) classes [(h0, .inr (4, [.int 0, .int 0, .int 0, .int 0]))] H := hP
  have hD : va_D A [(h0, .inr (4, [.int 0, .int 0, .int 0, .int 0]))] := hD
  refine lv_aload_n hx hb d_V_init_9 rfl (lv_at hl 0 rfl) ?_
  refine lv_iconst (v := 1) hx hb d_V_init_10 (by decide) ?_
  refine va_put (D := (dC, dI)) (ci := 4) (v := .int 1) (ty := .boolean) (C := R_V) (T := F_V) (N := 4) hx hb htb in_V ft_V ft_V_ok n_V hown hK hP hD hS 0 rfl rfl 1 (by decide) (htb _ k_72) (fun _ h9 => h9) rfl (by decide +kernel) rfl rfl (Nat.le_of_ble_eq_true rfl) d_V_init_11 (fun H locs hP hD hS => ?_)
  have hP : va_P (dC, dI) classes [(h0, .inr (4, [.int 0, .int 1, .int 0, .int 0]))] H := hP
  have hD : va_D A [(h0, .inr (4, [.int 0, .int 1, .int 0, .int 0]))] := hD
  refine lv_aload_n hx hb d_V_init_14 rfl (lv_at hl 0 rfl) ?_
  refine lv_iconst (v := 0) hx hb d_V_init_15 (by decide) ?_
  refine va_put (D := (dC, dI)) (ci := 4) (v := .int 0) (ty := .boolean) (C := R_V) (T := F_V) (N := 4) hx hb htb in_V ft_V ft_V_ok n_V hown hK hP hD hS 0 rfl rfl 2 (by decide) (htb _ k_73) (fun _ h9 => h9) rfl (by decide +kernel) rfl rfl (Nat.le_of_ble_eq_true rfl) d_V_init_16 (fun H locs hP hD hS => ?_)
  have hP : va_P (dC, dI) classes [(h0, .inr (4, [.int 0, .int 1, .int 0, .int 0]))] H := hP
  have hD : va_D A [(h0, .inr (4, [.int 0, .int 1, .int 0, .int 0]))] := hD
  refine lv_aload_n hx hb d_V_init_19 rfl (lv_at hl 0 rfl) ?_
  refine lv_iconst (v := 0) hx hb d_V_init_20 (by decide) ?_
  refine va_put (D := (dC, dI)) (ci := 4) (v := .int 0) (ty := .int) (C := R_V) (T := F_V) (N := 4) hx hb htb in_V ft_V ft_V_ok n_V hown hK hP hD hS 0 rfl rfl 3 (by decide) (htb _ k_74) (fun _ h9 => h9) rfl (by decide +kernel) rfl rfl (Nat.le_of_ble_eq_true rfl) d_V_init_21 (fun H locs hP hD hS => ?_)
  have hP : va_P (dC, dI) classes [(h0, .inr (4, [.int 0, .int 1, .int 0, .int 0]))] H := hP
  have hD : va_D A [(h0, .inr (4, [.int 0, .int 1, .int 0, .int 0]))] := hD
  exact W.vret hx hb hr (fun t ht hW => ⟨⟨(), rfl, trivial, by rw [ht]; exact hP, va_K.moved hW.alike hK, hD⟩, hS.F ht⟩) hS.2.2 d_V_init_24

theorem d_R_init_0 : decode b_R_init 0 = .ok (.aload_n 0, 1) := by decide +kernel
theorem d_R_init_1 : decode b_R_init 1 = .ok (.invokespecial 3, 3) := by decide +kernel
theorem d_R_init_4 : decode b_R_init 4 = .ok (.aload_n 0, 1) := by decide +kernel
theorem d_R_init_5 : decode b_R_init 5 = .ok (.sipush 150, 3) := by decide +kernel
theorem d_R_init_8 : decode b_R_init 8 = .ok (.newarray .int, 2) := by decide +kernel
theorem d_R_init_10 : decode b_R_init 10 = .ok (.putfield 9, 3) := by decide +kernel
theorem d_R_init_13 : decode b_R_init 13 = .ok (.aload_n 0, 1) := by decide +kernel
theorem d_R_init_14 : decode b_R_init 14 = .ok (.iconst 0, 1) := by decide +kernel
theorem d_R_init_15 : decode b_R_init 15 = .ok (.putfield 15, 3) := by decide +kernel
theorem d_R_init_18 : decode b_R_init 18 = .ok (.return_, 1) := by decide +kernel
set_option maxHeartbeats 4000000 in
set_option maxRecDepth 100000 in
theorem c_R_init (l : Launch) (dC : Nat → ClassId) (dI : Nat → Nat → Nat) (h0 : Nat) (sz : Nat) : Met l y_R_init (wd y_R_init b_R_init 1 none) ({ frames := 1, cells := 1, slots := 150, locals := 12 }) (va_Pc [.ref h0] (preC dC dI [(h0, .inr (5, [.null, .int 0]))] sz)) (va_Qv (fun (_ : Unit) => True) (fun (_ : Unit) t => ∃ (q8 : Nat) (c8 : ClassId), va_P (dC, dI) classes [(h0, .inr (5, [.ref q8, .int 0])), (q8, .inl (c8, 150, .inl (fun _ => 0)))] t.heap ∧ va_K (dC, dI) classes [(c8, .int)] t ∧ va_D (va_A [(h0, .inr (5, [.null, .int 0]))] sz) [(h0, .inr (5, [.ref q8, .int 0])), (q8, .inl (c8, 150, .inl (fun _ => 0)))]) (va_A [(h0, .inr (5, [.null, .int 0]))] sz)) 1 150 (va_A [(h0, .inr (5, [.null, .int 0]))] sz) := by
  refine Met.ofW (cc := b_R_init) (maxL := 1) (ret := none) (by decide) rfl ?_
  intro p e s m args below meth c s₁ B hml hv
  obtain ⟨rfl, hsz, hP, hK, hD0, hN⟩ := hv
  have hx := B.exec
  have hb := B.bytes
  have hr := B.returns
  have hts := atoms_spec (ws := (wd y_R_init b_R_init 1 none)) B.pre
  have htb : ∀ w ∈ tb, w.before _ s = true := fun w h => hts w (List.mem_cons_of_mem _ h)
  have hown : s.vm.findClass R_R = some m.cls := findClass_of_methodNamed B.named
  have hlocks := B.notSynchronized
  have hin : meth.name = "<init>" := (name_of_methodNamed B.named B.method).1
  subst hsz
  have hD := hD0.self (sz := s.heap.size)
  generalize hAe : va_A [(h0, .inr (5, [.null, .int 0]))] s.heap.size = A at hD ⊢
  have hA : ∀ q : Nat, s.heap.size ≤ q → A q := fun q h => by rw [← hAe]; exact Or.inr h
  have hS : va_S A s.heap s.heap [] := va_S.rf
  have hP : va_P (dC, dI) classes [(h0, .inr (5, [.null, .int 0]))] s.heap := hP
  have hl := lv_entry ([.ref h0]) (n := 1) (Nat.le_of_ble_eq_true rfl)
  rw [lg_entry_eq]
  generalize (lg_sl ([.ref h0]) ++ List.replicate (1 - (lg_sl ([.ref h0])).length) Slot.unset).toArray = ls at hl ⊢
  have hl : lv_has ls 1 [(0, .ref h0)] := hl
  refine lv_aload_n hx hb d_R_init_0 rfl (lv_at hl 0 rfl) ?_
  refine W.objInit hx hb hown (htb _ k_89) (htb _ k_22) (htb _ k_23) rfl (by rw [hml]; exact hl.1) rfl d_R_init_1 (Nat.le_of_ble_eq_true rfl) (Nat.le_of_ble_eq_true rfl) ?_
  refine W.eq (g2 := F0 m 4 ls []) rfl ?_
  refine lv_aload_n hx hb d_R_init_4 rfl (lv_at hl 0 rfl) ?_
  refine lv_sipush (v := 150) hx hb d_R_init_5 (by decide) ?_
  refine va_newa (ty := .int) (a0 := (150, .inl (fun _ => 0))) (N' := 150) hx hb (htb _ k_48) rfl hK hP hD hS hA (fun _ => rfl) (by decide) rfl (by decide) (Nat.le_of_ble_eq_true rfl) (Nat.le_of_ble_eq_true rfl) d_R_init_8 (fun q8 c8 H hK hP hD hS => ?_)
  have hP : va_P (dC, dI) classes [(h0, .inr (5, [.null, .int 0])), (q8, .inl (c8, 150, .inl (fun _ => 0)))] H := hP
  have hD : va_D A [(h0, .inr (5, [.null, .int 0])), (q8, .inl (c8, 150, .inl (fun _ => 0)))] := hD
  have hK : va_K (dC, dI) classes [(c8, .int)] s := hK
  refine va_putF (D := (dC, dI)) (ci := 5) (v := .ref q8) (ty := .array (.int)) (C := R_R) (T := F_R) (N := 2) hx hb htb in_R ft_R ft_R_ok n_R hown hK hP hD hS 0 rfl rfl 0 (by decide) (htb _ k_90) (fun _ h9 => h9) rfl hin rfl (by decide +kernel) rfl rfl (Nat.le_of_ble_eq_true rfl) d_R_init_10 (fun H locs hP hD hS => ?_)
  have hP : va_P (dC, dI) classes [(h0, .inr (5, [.ref q8, .int 0])), (q8, .inl (c8, 150, .inl (fun _ => 0)))] H := hP
  have hD : va_D A [(h0, .inr (5, [.ref q8, .int 0])), (q8, .inl (c8, 150, .inl (fun _ => 0)))] := hD
  refine lv_aload_n hx hb d_R_init_13 rfl (lv_at hl 0 rfl) ?_
  refine lv_iconst (v := 0) hx hb d_R_init_14 (by decide) ?_
  refine va_put (D := (dC, dI)) (ci := 5) (v := .int 0) (ty := .int) (C := R_R) (T := F_R) (N := 2) hx hb htb in_R ft_R ft_R_ok n_R hown hK hP hD hS 0 rfl rfl 1 (by decide) (htb _ k_92) (fun _ h9 => h9) rfl (by decide +kernel) rfl rfl (Nat.le_of_ble_eq_true rfl) d_R_init_15 (fun H locs hP hD hS => ?_)
  have hP : va_P (dC, dI) classes [(h0, .inr (5, [.ref q8, .int 0])), (q8, .inl (c8, 150, .inl (fun _ => 0)))] H := hP
  have hD : va_D A [(h0, .inr (5, [.ref q8, .int 0])), (q8, .inl (c8, 150, .inl (fun _ => 0)))] := hD
  exact W.vret hx hb hr (fun t ht hW => ⟨⟨(), rfl, trivial, q8, c8, by rw [ht]; exact hP, va_K.moved hW.alike hK, hD⟩, hS.F ht⟩) hS.2.2 d_R_init_18

theorem d_S_init_0 : decode b_S_init 0 = .ok (.aload_n 0, 1) := by decide +kernel
theorem d_S_init_1 : decode b_S_init 1 = .ok (.invokespecial 3, 3) := by decide +kernel
theorem d_S_init_4 : decode b_S_init 4 = .ok (.aload_n 0, 1) := by decide +kernel
theorem d_S_init_5 : decode b_S_init 5 = .ok (.bipush 8, 2) := by decide +kernel
theorem d_S_init_7 : decode b_S_init 7 = .ok (.newarray .int, 2) := by decide +kernel
theorem d_S_init_9 : decode b_S_init 9 = .ok (.putfield 9, 3) := by decide +kernel
theorem d_S_init_12 : decode b_S_init 12 = .ok (.aload_n 0, 1) := by decide +kernel
theorem d_S_init_13 : decode b_S_init 13 = .ok (.bipush 8, 2) := by decide +kernel
theorem d_S_init_15 : decode b_S_init 15 = .ok (.newarray .boolean, 2) := by decide +kernel
theorem d_S_init_17 : decode b_S_init 17 = .ok (.putfield 15, 3) := by decide +kernel
theorem d_S_init_20 : decode b_S_init 20 = .ok (.aload_n 0, 1) := by decide +kernel
theorem d_S_init_21 : decode b_S_init 21 = .ok (.iconst 0, 1) := by decide +kernel
theorem d_S_init_22 : decode b_S_init 22 = .ok (.putfield 19, 3) := by decide +kernel
theorem d_S_init_25 : decode b_S_init 25 = .ok (.aload_n 0, 1) := by decide +kernel
theorem d_S_init_26 : decode b_S_init 26 = .ok (.iconst 0, 1) := by decide +kernel
theorem d_S_init_27 : decode b_S_init 27 = .ok (.putfield 23, 3) := by decide +kernel
theorem d_S_init_30 : decode b_S_init 30 = .ok (.aload_n 0, 1) := by decide +kernel
theorem d_S_init_31 : decode b_S_init 31 = .ok (.iload_n 1, 1) := by decide +kernel
theorem d_S_init_32 : decode b_S_init 32 = .ok (.putfield 26, 3) := by decide +kernel
theorem d_S_init_35 : decode b_S_init 35 = .ok (.return_, 1) := by decide +kernel
set_option maxHeartbeats 4000000 in
set_option maxRecDepth 100000 in
theorem c_S_init (l : Launch) (dC : Nat → ClassId) (dI : Nat → Nat → Nat) (h0 : Nat) (sz : Nat) (a1 : Int32) : Met l y_S_init (wd y_S_init b_S_init 2 none) ({ frames := 1, cells := 2, slots := 16, locals := 12 }) (va_Pc [.ref h0, .int a1] (preC dC dI [(h0, .inr (2, [.int 0, .null, .null, .int 0, .int 0]))] sz)) (va_Qv (fun (_ : Unit) => True) (fun (_ : Unit) t => ∃ (q7 q15 : Nat) (c7 c15 : ClassId), va_P (dC, dI) classes [(h0, .inr (2, [.int a1, .ref q7, .ref q15, .int 0, .int 0])), (q7, .inl (c7, 8, .inl (fun _ => 0))), (q15, .inl (c15, 8, .inl (fun _ => 0)))] t.heap ∧ va_K (dC, dI) classes [(c7, .int), (c15, .boolean)] t ∧ va_D (va_A [(h0, .inr (2, [.int 0, .null, .null, .int 0, .int 0]))] sz) [(h0, .inr (2, [.int a1, .ref q7, .ref q15, .int 0, .int 0])), (q7, .inl (c7, 8, .inl (fun _ => 0))), (q15, .inl (c15, 8, .inl (fun _ => 0)))]) (va_A [(h0, .inr (2, [.int 0, .null, .null, .int 0, .int 0]))] sz)) 2 16 (va_A [(h0, .inr (2, [.int 0, .null, .null, .int 0, .int 0]))] sz) := by
  refine Met.ofW (cc := b_S_init) (maxL := 2) (ret := none) (by decide) rfl ?_
  intro p e s m args below meth c s₁ B hml hv
  obtain ⟨rfl, hsz, hP, hK, hD0, hN⟩ := hv
  have hx := B.exec
  have hb := B.bytes
  have hr := B.returns
  have hts := atoms_spec (ws := (wd y_S_init b_S_init 2 none)) B.pre
  have htb : ∀ w ∈ tb, w.before _ s = true := fun w h => hts w (List.mem_cons_of_mem _ h)
  have hown : s.vm.findClass R_S = some m.cls := findClass_of_methodNamed B.named
  have hlocks := B.notSynchronized
  have hin : meth.name = "<init>" := (name_of_methodNamed B.named B.method).1
  subst hsz
  have hD := hD0.self (sz := s.heap.size)
  generalize hAe : va_A [(h0, .inr (2, [.int 0, .null, .null, .int 0, .int 0]))] s.heap.size = A at hD ⊢
  have hA : ∀ q : Nat, s.heap.size ≤ q → A q := fun q h => by rw [← hAe]; exact Or.inr h
  have hS : va_S A s.heap s.heap [] := va_S.rf
  have hP : va_P (dC, dI) classes [(h0, .inr (2, [.int 0, .null, .null, .int 0, .int 0]))] s.heap := hP
  have hl := lv_entry ([.ref h0, .int a1]) (n := 2) (Nat.le_of_ble_eq_true rfl)
  rw [lg_entry_eq]
  generalize (lg_sl ([.ref h0, .int a1]) ++ List.replicate (2 - (lg_sl ([.ref h0, .int a1])).length) Slot.unset).toArray = ls at hl ⊢
  have hl : lv_has ls 2 [(0, .ref h0), (1, .int a1)] := hl
  refine lv_aload_n hx hb d_S_init_0 rfl (lv_at hl 0 rfl) ?_
  refine W.objInit hx hb hown (htb _ k_106) (htb _ k_22) (htb _ k_23) rfl (by rw [hml]; exact hl.1) rfl d_S_init_1 (Nat.le_of_ble_eq_true rfl) (Nat.le_of_ble_eq_true rfl) ?_
  refine W.eq (g2 := F0 m 4 ls []) rfl ?_
  refine lv_aload_n hx hb d_S_init_4 rfl (lv_at hl 0 rfl) ?_
  refine lv_bipush (v := 8) hx hb d_S_init_5 (by decide) ?_
  refine va_newa (ty := .int) (a0 := (8, .inl (fun _ => 0))) (N' := 8) hx hb (htb _ k_48) rfl hK hP hD hS hA (fun _ => rfl) (by decide) rfl (by decide) (Nat.le_of_ble_eq_true rfl) (Nat.le_of_ble_eq_true rfl) d_S_init_7 (fun q7 c7 H hK hP hD hS => ?_)
  have hP : va_P (dC, dI) classes [(h0, .inr (2, [.int 0, .null, .null, .int 0, .int 0])), (q7, .inl (c7, 8, .inl (fun _ => 0)))] H := hP
  have hD : va_D A [(h0, .inr (2, [.int 0, .null, .null, .int 0, .int 0])), (q7, .inl (c7, 8, .inl (fun _ => 0)))] := hD
  have hK : va_K (dC, dI) classes [(c7, .int)] s := hK
  refine va_putF (D := (dC, dI)) (ci := 2) (v := .ref q7) (ty := .array (.int)) (C := R_S) (T := F_S) (N := 5) hx hb htb in_S ft_S ft_S_ok n_S hown hK hP hD hS 0 rfl rfl 1 (by decide) (htb _ k_108) (fun _ h9 => h9) rfl hin rfl (by decide +kernel) rfl rfl (Nat.le_of_ble_eq_true rfl) d_S_init_9 (fun H locs hP hD hS => ?_)
  have hP : va_P (dC, dI) classes [(h0, .inr (2, [.int 0, .ref q7, .null, .int 0, .int 0])), (q7, .inl (c7, 8, .inl (fun _ => 0)))] H := hP
  have hD : va_D A [(h0, .inr (2, [.int 0, .ref q7, .null, .int 0, .int 0])), (q7, .inl (c7, 8, .inl (fun _ => 0)))] := hD
  refine lv_aload_n hx hb d_S_init_12 rfl (lv_at hl 0 rfl) ?_
  refine lv_bipush (v := 8) hx hb d_S_init_13 (by decide) ?_
  refine va_newa (ty := .boolean) (a0 := (8, .inl (fun _ => 0))) (N' := 8) hx hb (htb _ k_123) rfl hK hP hD hS hA (fun _ => rfl) (by decide) rfl (by decide) (Nat.le_of_ble_eq_true rfl) (Nat.le_of_ble_eq_true rfl) d_S_init_15 (fun q15 c15 H hK hP hD hS => ?_)
  have hP : va_P (dC, dI) classes [(h0, .inr (2, [.int 0, .ref q7, .null, .int 0, .int 0])), (q7, .inl (c7, 8, .inl (fun _ => 0))), (q15, .inl (c15, 8, .inl (fun _ => 0)))] H := hP
  have hD : va_D A [(h0, .inr (2, [.int 0, .ref q7, .null, .int 0, .int 0])), (q7, .inl (c7, 8, .inl (fun _ => 0))), (q15, .inl (c15, 8, .inl (fun _ => 0)))] := hD
  have hK : va_K (dC, dI) classes [(c7, .int), (c15, .boolean)] s := hK
  refine va_putF (D := (dC, dI)) (ci := 2) (v := .ref q15) (ty := .array (.boolean)) (C := R_S) (T := F_S) (N := 5) hx hb htb in_S ft_S ft_S_ok n_S hown hK hP hD hS 0 rfl rfl 2 (by decide) (htb _ k_109) (fun _ h9 => h9) rfl hin rfl (by decide +kernel) rfl rfl (Nat.le_of_ble_eq_true rfl) d_S_init_17 (fun H locs hP hD hS => ?_)
  have hP : va_P (dC, dI) classes [(h0, .inr (2, [.int 0, .ref q7, .ref q15, .int 0, .int 0])), (q7, .inl (c7, 8, .inl (fun _ => 0))), (q15, .inl (c15, 8, .inl (fun _ => 0)))] H := hP
  have hD : va_D A [(h0, .inr (2, [.int 0, .ref q7, .ref q15, .int 0, .int 0])), (q7, .inl (c7, 8, .inl (fun _ => 0))), (q15, .inl (c15, 8, .inl (fun _ => 0)))] := hD
  refine lv_aload_n hx hb d_S_init_20 rfl (lv_at hl 0 rfl) ?_
  refine lv_iconst (v := 0) hx hb d_S_init_21 (by decide) ?_
  refine va_put (D := (dC, dI)) (ci := 2) (v := .int 0) (ty := .int) (C := R_S) (T := F_S) (N := 5) hx hb htb in_S ft_S ft_S_ok n_S hown hK hP hD hS 0 rfl rfl 3 (by decide) (htb _ k_110) (fun _ h9 => h9) rfl (by decide +kernel) rfl rfl (Nat.le_of_ble_eq_true rfl) d_S_init_22 (fun H locs hP hD hS => ?_)
  have hP : va_P (dC, dI) classes [(h0, .inr (2, [.int 0, .ref q7, .ref q15, .int 0, .int 0])), (q7, .inl (c7, 8, .inl (fun _ => 0))), (q15, .inl (c15, 8, .inl (fun _ => 0)))] H := hP
  have hD : va_D A [(h0, .inr (2, [.int 0, .ref q7, .ref q15, .int 0, .int 0])), (q7, .inl (c7, 8, .inl (fun _ => 0))), (q15, .inl (c15, 8, .inl (fun _ => 0)))] := hD
  refine lv_aload_n hx hb d_S_init_25 rfl (lv_at hl 0 rfl) ?_
  refine lv_iconst (v := 0) hx hb d_S_init_26 (by decide) ?_
  refine va_put (D := (dC, dI)) (ci := 2) (v := .int 0) (ty := .int) (C := R_S) (T := F_S) (N := 5) hx hb htb in_S ft_S ft_S_ok n_S hown hK hP hD hS 0 rfl rfl 4 (by decide) (htb _ k_111) (fun _ h9 => h9) rfl (by decide +kernel) rfl rfl (Nat.le_of_ble_eq_true rfl) d_S_init_27 (fun H locs hP hD hS => ?_)
  have hP : va_P (dC, dI) classes [(h0, .inr (2, [.int 0, .ref q7, .ref q15, .int 0, .int 0])), (q7, .inl (c7, 8, .inl (fun _ => 0))), (q15, .inl (c15, 8, .inl (fun _ => 0)))] H := hP
  have hD : va_D A [(h0, .inr (2, [.int 0, .ref q7, .ref q15, .int 0, .int 0])), (q7, .inl (c7, 8, .inl (fun _ => 0))), (q15, .inl (c15, 8, .inl (fun _ => 0)))] := hD
  refine lv_aload_n hx hb d_S_init_30 rfl (lv_at hl 0 rfl) ?_
  refine lv_iload_n hx hb d_S_init_31 rfl (lv_at hl 1 rfl) ?_
  refine va_putF (D := (dC, dI)) (ci := 2) (v := .int a1) (ty := .int) (C := R_S) (T := F_S) (N := 5) hx hb htb in_S ft_S ft_S_ok n_S hown hK hP hD hS 0 rfl rfl 0 (by decide) (htb _ k_107) (fun _ h9 => h9) rfl hin rfl (by decide +kernel) rfl rfl (Nat.le_of_ble_eq_true rfl) d_S_init_32 (fun H locs hP hD hS => ?_)
  have hP : va_P (dC, dI) classes [(h0, .inr (2, [.int a1, .ref q7, .ref q15, .int 0, .int 0])), (q7, .inl (c7, 8, .inl (fun _ => 0))), (q15, .inl (c15, 8, .inl (fun _ => 0)))] H := hP
  have hD : va_D A [(h0, .inr (2, [.int a1, .ref q7, .ref q15, .int 0, .int 0])), (q7, .inl (c7, 8, .inl (fun _ => 0))), (q15, .inl (c15, 8, .inl (fun _ => 0)))] := hD
  exact W.vret hx hb hr (fun t ht hW => ⟨⟨(), rfl, trivial, q7, q15, c7, c15, by rw [ht]; exact hP, va_K.moved hW.alike hK, hD⟩, hS.F ht⟩) hS.2.2 d_S_init_35

theorem d_T_init_0 : decode b_T_init 0 = .ok (.aload_n 0, 1) := by decide +kernel
theorem d_T_init_1 : decode b_T_init 1 = .ok (.invokespecial 3, 3) := by decide +kernel
theorem d_T_init_4 : decode b_T_init 4 = .ok (.aload_n 0, 1) := by decide +kernel
theorem d_T_init_5 : decode b_T_init 5 = .ok (.sipush 150, 3) := by decide +kernel
theorem d_T_init_8 : decode b_T_init 8 = .ok (.newarray .int, 2) := by decide +kernel
theorem d_T_init_10 : decode b_T_init 10 = .ok (.putfield 9, 3) := by decide +kernel
theorem d_T_init_13 : decode b_T_init 13 = .ok (.aload_n 0, 1) := by decide +kernel
theorem d_T_init_14 : decode b_T_init 14 = .ok (.sipush 150, 3) := by decide +kernel
theorem d_T_init_17 : decode b_T_init 17 = .ok (.newarray .int, 2) := by decide +kernel
theorem d_T_init_19 : decode b_T_init 19 = .ok (.putfield 15, 3) := by decide +kernel
theorem d_T_init_22 : decode b_T_init 22 = .ok (.aload_n 0, 1) := by decide +kernel
theorem d_T_init_23 : decode b_T_init 23 = .ok (.iconst 0, 1) := by decide +kernel
theorem d_T_init_24 : decode b_T_init 24 = .ok (.putfield 18, 3) := by decide +kernel
theorem d_T_init_27 : decode b_T_init 27 = .ok (.aload_n 0, 1) := by decide +kernel
theorem d_T_init_28 : decode b_T_init 28 = .ok (.iconst 0, 1) := by decide +kernel
theorem d_T_init_29 : decode b_T_init 29 = .ok (.putfield 22, 3) := by decide +kernel
theorem d_T_init_32 : decode b_T_init 32 = .ok (.aload_n 0, 1) := by decide +kernel
theorem d_T_init_33 : decode b_T_init 33 = .ok (.iconst 0, 1) := by decide +kernel
theorem d_T_init_34 : decode b_T_init 34 = .ok (.putfield 25, 3) := by decide +kernel
theorem d_T_init_37 : decode b_T_init 37 = .ok (.aload_n 0, 1) := by decide +kernel
theorem d_T_init_38 : decode b_T_init 38 = .ok (.iconst 0, 1) := by decide +kernel
theorem d_T_init_39 : decode b_T_init 39 = .ok (.putfield 28, 3) := by decide +kernel
theorem d_T_init_42 : decode b_T_init 42 = .ok (.return_, 1) := by decide +kernel
set_option maxHeartbeats 4000000 in
set_option maxRecDepth 100000 in
theorem c_T_init (l : Launch) (dC : Nat → ClassId) (dI : Nat → Nat → Nat) (h0 : Nat) (sz : Nat) : Met l y_T_init (wd y_T_init b_T_init 1 none) ({ frames := 1, cells := 2, slots := 300, locals := 12 }) (va_Pc [.ref h0] (preC dC dI [(h0, .inr (6, [.null, .null, .int 0, .int 0, .int 0, .int 0]))] sz)) (va_Qv (fun (_ : Unit) => True) (fun (_ : Unit) t => ∃ (q8 q17 : Nat) (c8 : ClassId), va_P (dC, dI) classes [(h0, .inr (6, [.ref q8, .ref q17, .int 0, .int 0, .int 0, .int 0])), (q8, .inl (c8, 150, .inl (fun _ => 0))), (q17, .inl (c8, 150, .inl (fun _ => 0)))] t.heap ∧ va_K (dC, dI) classes [(c8, .int)] t ∧ va_D (va_A [(h0, .inr (6, [.null, .null, .int 0, .int 0, .int 0, .int 0]))] sz) [(h0, .inr (6, [.ref q8, .ref q17, .int 0, .int 0, .int 0, .int 0])), (q8, .inl (c8, 150, .inl (fun _ => 0))), (q17, .inl (c8, 150, .inl (fun _ => 0)))]) (va_A [(h0, .inr (6, [.null, .null, .int 0, .int 0, .int 0, .int 0]))] sz)) 2 300 (va_A [(h0, .inr (6, [.null, .null, .int 0, .int 0, .int 0, .int 0]))] sz) := by
  refine Met.ofW (cc := b_T_init) (maxL := 1) (ret := none) (by decide) rfl ?_
  intro p e s m args below meth c s₁ B hml hv
  obtain ⟨rfl, hsz, hP, hK, hD0, hN⟩ := hv
  have hx := B.exec
  have hb := B.bytes
  have hr := B.returns
  have hts := atoms_spec (ws := (wd y_T_init b_T_init 1 none)) B.pre
  have htb : ∀ w ∈ tb, w.before _ s = true := fun w h => hts w (List.mem_cons_of_mem _ h)
  have hown : s.vm.findClass R_T = some m.cls := findClass_of_methodNamed B.named
  have hlocks := B.notSynchronized
  have hin : meth.name = "<init>" := (name_of_methodNamed B.named B.method).1
  subst hsz
  have hD := hD0.self (sz := s.heap.size)
  generalize hAe : va_A [(h0, .inr (6, [.null, .null, .int 0, .int 0, .int 0, .int 0]))] s.heap.size = A at hD ⊢
  have hA : ∀ q : Nat, s.heap.size ≤ q → A q := fun q h => by rw [← hAe]; exact Or.inr h
  have hS : va_S A s.heap s.heap [] := va_S.rf
  have hP : va_P (dC, dI) classes [(h0, .inr (6, [.null, .null, .int 0, .int 0, .int 0, .int 0]))] s.heap := hP
  have hl := lv_entry ([.ref h0]) (n := 1) (Nat.le_of_ble_eq_true rfl)
  rw [lg_entry_eq]
  generalize (lg_sl ([.ref h0]) ++ List.replicate (1 - (lg_sl ([.ref h0])).length) Slot.unset).toArray = ls at hl ⊢
  have hl : lv_has ls 1 [(0, .ref h0)] := hl
  refine lv_aload_n hx hb d_T_init_0 rfl (lv_at hl 0 rfl) ?_
  refine W.objInit hx hb hown (htb _ k_128) (htb _ k_22) (htb _ k_23) rfl (by rw [hml]; exact hl.1) rfl d_T_init_1 (Nat.le_of_ble_eq_true rfl) (Nat.le_of_ble_eq_true rfl) ?_
  refine W.eq (g2 := F0 m 4 ls []) rfl ?_
  refine lv_aload_n hx hb d_T_init_4 rfl (lv_at hl 0 rfl) ?_
  refine lv_sipush (v := 150) hx hb d_T_init_5 (by decide) ?_
  refine va_newa (ty := .int) (a0 := (150, .inl (fun _ => 0))) (N' := 150) hx hb (htb _ k_48) rfl hK hP hD hS hA (fun _ => rfl) (by decide) rfl (by decide) (Nat.le_of_ble_eq_true rfl) (Nat.le_of_ble_eq_true rfl) d_T_init_8 (fun q8 c8 H hK hP hD hS => ?_)
  have hP : va_P (dC, dI) classes [(h0, .inr (6, [.null, .null, .int 0, .int 0, .int 0, .int 0])), (q8, .inl (c8, 150, .inl (fun _ => 0)))] H := hP
  have hD : va_D A [(h0, .inr (6, [.null, .null, .int 0, .int 0, .int 0, .int 0])), (q8, .inl (c8, 150, .inl (fun _ => 0)))] := hD
  have hK : va_K (dC, dI) classes [(c8, .int)] s := hK
  refine va_putF (D := (dC, dI)) (ci := 6) (v := .ref q8) (ty := .array (.int)) (C := R_T) (T := F_T) (N := 6) hx hb htb in_T ft_T ft_T_ok n_T hown hK hP hD hS 0 rfl rfl 0 (by decide) (htb _ k_129) (fun _ h9 => h9) rfl hin rfl (by decide +kernel) rfl rfl (Nat.le_of_ble_eq_true rfl) d_T_init_10 (fun H locs hP hD hS => ?_)
  have hP : va_P (dC, dI) classes [(h0, .inr (6, [.ref q8, .null, .int 0, .int 0, .int 0, .int 0])), (q8, .inl (c8, 150, .inl (fun _ => 0)))] H := hP
  have hD : va_D A [(h0, .inr (6, [.ref q8, .null, .int 0, .int 0, .int 0, .int 0])), (q8, .inl (c8, 150, .inl (fun _ => 0)))] := hD
  refine lv_aload_n hx hb d_T_init_13 rfl (lv_at hl 0 rfl) ?_
  refine lv_sipush (v := 150) hx hb d_T_init_14 (by decide) ?_
  refine va_newa (ty := .int) (a0 := (150, .inl (fun _ => 0))) (N' := 150) hx hb (htb _ k_48) rfl hK hP hD hS hA (fun _ => rfl) (by decide) rfl (by decide) (Nat.le_of_ble_eq_true rfl) (Nat.le_of_ble_eq_true rfl) d_T_init_17 (fun q17 c17 H hK hP hD hS => ?_)
  obtain rfl : c8 = c17 := ka_i hK 0 1 rfl rfl
  have hK := hK.sub (tys' := [(c8, .int)]) [0] rfl
  have hP : va_P (dC, dI) classes [(h0, .inr (6, [.ref q8, .null, .int 0, .int 0, .int 0, .int 0])), (q8, .inl (c8, 150, .inl (fun _ => 0))), (q17, .inl (c8, 150, .inl (fun _ => 0)))] H := hP
  have hD : va_D A [(h0, .inr (6, [.ref q8, .null, .int 0, .int 0, .int 0, .int 0])), (q8, .inl (c8, 150, .inl (fun _ => 0))), (q17, .inl (c8, 150, .inl (fun _ => 0)))] := hD
  have hK : va_K (dC, dI) classes [(c8, .int)] s := hK
  refine va_putF (D := (dC, dI)) (ci := 6) (v := .ref q17) (ty := .array (.int)) (C := R_T) (T := F_T) (N := 6) hx hb htb in_T ft_T ft_T_ok n_T hown hK hP hD hS 0 rfl rfl 1 (by decide) (htb _ k_130) (fun _ h9 => h9) rfl hin rfl (by decide +kernel) rfl rfl (Nat.le_of_ble_eq_true rfl) d_T_init_19 (fun H locs hP hD hS => ?_)
  have hP : va_P (dC, dI) classes [(h0, .inr (6, [.ref q8, .ref q17, .int 0, .int 0, .int 0, .int 0])), (q8, .inl (c8, 150, .inl (fun _ => 0))), (q17, .inl (c8, 150, .inl (fun _ => 0)))] H := hP
  have hD : va_D A [(h0, .inr (6, [.ref q8, .ref q17, .int 0, .int 0, .int 0, .int 0])), (q8, .inl (c8, 150, .inl (fun _ => 0))), (q17, .inl (c8, 150, .inl (fun _ => 0)))] := hD
  refine lv_aload_n hx hb d_T_init_22 rfl (lv_at hl 0 rfl) ?_
  refine lv_iconst (v := 0) hx hb d_T_init_23 (by decide) ?_
  refine va_put (D := (dC, dI)) (ci := 6) (v := .int 0) (ty := .int) (C := R_T) (T := F_T) (N := 6) hx hb htb in_T ft_T ft_T_ok n_T hown hK hP hD hS 0 rfl rfl 2 (by decide) (htb _ k_131) (fun _ h9 => h9) rfl (by decide +kernel) rfl rfl (Nat.le_of_ble_eq_true rfl) d_T_init_24 (fun H locs hP hD hS => ?_)
  have hP : va_P (dC, dI) classes [(h0, .inr (6, [.ref q8, .ref q17, .int 0, .int 0, .int 0, .int 0])), (q8, .inl (c8, 150, .inl (fun _ => 0))), (q17, .inl (c8, 150, .inl (fun _ => 0)))] H := hP
  have hD : va_D A [(h0, .inr (6, [.ref q8, .ref q17, .int 0, .int 0, .int 0, .int 0])), (q8, .inl (c8, 150, .inl (fun _ => 0))), (q17, .inl (c8, 150, .inl (fun _ => 0)))] := hD
  refine lv_aload_n hx hb d_T_init_27 rfl (lv_at hl 0 rfl) ?_
  refine lv_iconst (v := 0) hx hb d_T_init_28 (by decide) ?_
  refine va_put (D := (dC, dI)) (ci := 6) (v := .int 0) (ty := .int) (C := R_T) (T := F_T) (N := 6) hx hb htb in_T ft_T ft_T_ok n_T hown hK hP hD hS 0 rfl rfl 3 (by decide) (htb _ k_132) (fun _ h9 => h9) rfl (by decide +kernel) rfl rfl (Nat.le_of_ble_eq_true rfl) d_T_init_29 (fun H locs hP hD hS => ?_)
  have hP : va_P (dC, dI) classes [(h0, .inr (6, [.ref q8, .ref q17, .int 0, .int 0, .int 0, .int 0])), (q8, .inl (c8, 150, .inl (fun _ => 0))), (q17, .inl (c8, 150, .inl (fun _ => 0)))] H := hP
  have hD : va_D A [(h0, .inr (6, [.ref q8, .ref q17, .int 0, .int 0, .int 0, .int 0])), (q8, .inl (c8, 150, .inl (fun _ => 0))), (q17, .inl (c8, 150, .inl (fun _ => 0)))] := hD
  refine lv_aload_n hx hb d_T_init_32 rfl (lv_at hl 0 rfl) ?_
  refine lv_iconst (v := 0) hx hb d_T_init_33 (by decide) ?_
  refine va_put (D := (dC, dI)) (ci := 6) (v := .int 0) (ty := .int) (C := R_T) (T := F_T) (N := 6) hx hb htb in_T ft_T ft_T_ok n_T hown hK hP hD hS 0 rfl rfl 4 (by decide) (htb _ k_133) (fun _ h9 => h9) rfl (by decide +kernel) rfl rfl (Nat.le_of_ble_eq_true rfl) d_T_init_34 (fun H locs hP hD hS => ?_)
  have hP : va_P (dC, dI) classes [(h0, .inr (6, [.ref q8, .ref q17, .int 0, .int 0, .int 0, .int 0])), (q8, .inl (c8, 150, .inl (fun _ => 0))), (q17, .inl (c8, 150, .inl (fun _ => 0)))] H := hP
  have hD : va_D A [(h0, .inr (6, [.ref q8, .ref q17, .int 0, .int 0, .int 0, .int 0])), (q8, .inl (c8, 150, .inl (fun _ => 0))), (q17, .inl (c8, 150, .inl (fun _ => 0)))] := hD
  refine lv_aload_n hx hb d_T_init_37 rfl (lv_at hl 0 rfl) ?_
  refine lv_iconst (v := 0) hx hb d_T_init_38 (by decide) ?_
  refine va_put (D := (dC, dI)) (ci := 6) (v := .int 0) (ty := .int) (C := R_T) (T := F_T) (N := 6) hx hb htb in_T ft_T ft_T_ok n_T hown hK hP hD hS 0 rfl rfl 5 (by decide) (htb _ k_134) (fun _ h9 => h9) rfl (by decide +kernel) rfl rfl (Nat.le_of_ble_eq_true rfl) d_T_init_39 (fun H locs hP hD hS => ?_)
  have hP : va_P (dC, dI) classes [(h0, .inr (6, [.ref q8, .ref q17, .int 0, .int 0, .int 0, .int 0])), (q8, .inl (c8, 150, .inl (fun _ => 0))), (q17, .inl (c8, 150, .inl (fun _ => 0)))] H := hP
  have hD : va_D A [(h0, .inr (6, [.ref q8, .ref q17, .int 0, .int 0, .int 0, .int 0])), (q8, .inl (c8, 150, .inl (fun _ => 0))), (q17, .inl (c8, 150, .inl (fun _ => 0)))] := hD
  exact W.vret hx hb hr (fun t ht hW => ⟨⟨(), rfl, trivial, q8, q17, c8, by rw [ht]; exact hP, va_K.moved hW.alike hK, hD⟩, hS.F ht⟩) hS.2.2 d_T_init_42
end
section
theorem d_M_init_0 : decode b_M_init 0 = .ok (.aload_n 0, 1) := by decide +kernel
theorem d_M_init_1 : decode b_M_init 1 = .ok (.invokespecial 1, 3) := by decide +kernel
theorem d_M_init_4 : decode b_M_init 4 = .ok (.aload_n 0, 1) := by decide +kernel
theorem d_M_init_5 : decode b_M_init 5 = .ok (.sipush 300, 3) := by decide +kernel
theorem d_M_init_8 : decode b_M_init 8 = .ok (.newarray .int, 2) := by decide +kernel
theorem d_M_init_10 : decode b_M_init 10 = .ok (.putfield 7, 3) := by decide +kernel
theorem d_M_init_13 : decode b_M_init 13 = .ok (.aload_n 0, 1) := by decide +kernel
theorem d_M_init_14 : decode b_M_init 14 = .ok (.iconst 3, 1) := by decide +kernel
theorem d_M_init_15 : decode b_M_init 15 = .ok (.newarray .int, 2) := by decide +kernel
theorem d_M_init_17 : decode b_M_init 17 = .ok (.putfield 13, 3) := by decide +kernel
theorem d_M_init_20 : decode b_M_init 20 = .ok (.aload_n 0, 1) := by decide +kernel
theorem d_M_init_21 : decode b_M_init 21 = .ok (.iconst 3, 1) := by decide +kernel
theorem d_M_init_22 : decode b_M_init 22 = .ok (.newarray .int, 2) := by decide +kernel
theorem d_M_init_24 : decode b_M_init 24 = .ok (.putfield 16, 3) := by decide +kernel
theorem d_M_init_27 : decode b_M_init 27 = .ok (.aload_n 0, 1) := by decide +kernel
theorem d_M_init_28 : decode b_M_init 28 = .ok (.iconst 1, 1) := by decide +kernel
theorem d_M_init_29 : decode b_M_init 29 = .ok (.putfield 19, 3) := by decide +kernel
theorem d_M_init_32 : decode b_M_init 32 = .ok (.aload_n 0, 1) := by decide +kernel
theorem d_M_init_33 : decode b_M_init 33 = .ok (.iconst (-1), 1) := by decide +kernel
theorem d_M_init_34 : decode b_M_init 34 = .ok (.putfield 23, 3) := by decide +kernel
theorem d_M_init_37 : decode b_M_init 37 = .ok (.aload_n 0, 1) := by decide +kernel
theorem d_M_init_38 : decode b_M_init 38 = .ok (.iconst 4, 1) := by decide +kernel
theorem d_M_init_39 : decode b_M_init 39 = .ok (.newarray .int, 2) := by decide +kernel
theorem d_M_init_41 : decode b_M_init 41 = .ok (.putfield 27, 3) := by decide +kernel
theorem d_M_init_44 : decode b_M_init 44 = .ok (.aload_n 0, 1) := by decide +kernel
theorem d_M_init_45 : decode b_M_init 45 = .ok (.bipush 8, 2) := by decide +kernel
theorem d_M_init_47 : decode b_M_init 47 = .ok (.newarray .int, 2) := by decide +kernel
theorem d_M_init_49 : decode b_M_init 49 = .ok (.putfield 30, 3) := by decide +kernel
theorem d_M_init_52 : decode b_M_init 52 = .ok (.aload_n 0, 1) := by decide +kernel
theorem d_M_init_53 : decode b_M_init 53 = .ok (.bipush 8, 2) := by decide +kernel
theorem d_M_init_55 : decode b_M_init 55 = .ok (.newarray .boolean, 2) := by decide +kernel
theorem d_M_init_57 : decode b_M_init 57 = .ok (.putfield 33, 3) := by decide +kernel
theorem d_M_init_60 : decode b_M_init 60 = .ok (.aload_n 0, 1) := by decide +kernel
theorem d_M_init_61 : decode b_M_init 61 = .ok (.iconst 3, 1) := by decide +kernel
theorem d_M_init_62 : decode b_M_init 62 = .ok (.newarray .int, 2) := by decide +kernel
theorem d_M_init_64 : decode b_M_init 64 = .ok (.putfield 37, 3) := by decide +kernel
theorem d_M_init_67 : decode b_M_init 67 = .ok (.aload_n 0, 1) := by decide +kernel
theorem d_M_init_68 : decode b_M_init 68 = .ok (.sipush 600, 3) := by decide +kernel
theorem d_M_init_71 : decode b_M_init 71 = .ok (.newarray .int, 2) := by decide +kernel
theorem d_M_init_73 : decode b_M_init 73 = .ok (.putfield 40, 3) := by decide +kernel
theorem d_M_init_76 : decode b_M_init 76 = .ok (.aload_n 0, 1) := by decide +kernel
theorem d_M_init_77 : decode b_M_init 77 = .ok (.sipush 600, 3) := by decide +kernel
theorem d_M_init_80 : decode b_M_init 80 = .ok (.newarray .int, 2) := by decide +kernel
theorem d_M_init_82 : decode b_M_init 82 = .ok (.putfield 43, 3) := by decide +kernel
theorem d_M_init_85 : decode b_M_init 85 = .ok (.aload_n 0, 1) := by decide +kernel
theorem d_M_init_86 : decode b_M_init 86 = .ok (.iconst 4, 1) := by decide +kernel
theorem d_M_init_87 : decode b_M_init 87 = .ok (.newarray .int, 2) := by decide +kernel
theorem d_M_init_89 : decode b_M_init 89 = .ok (.putfield 46, 3) := by decide +kernel
theorem d_M_init_92 : decode b_M_init 92 = .ok (.aload_n 0, 1) := by decide +kernel
theorem d_M_init_93 : decode b_M_init 93 = .ok (.iconst 4, 1) := by decide +kernel
theorem d_M_init_94 : decode b_M_init 94 = .ok (.newarray .int, 2) := by decide +kernel
theorem d_M_init_96 : decode b_M_init 96 = .ok (.putfield 49, 3) := by decide +kernel
theorem d_M_init_99 : decode b_M_init 99 = .ok (.aload_n 0, 1) := by decide +kernel
theorem d_M_init_100 : decode b_M_init 100 = .ok (.iconst 4, 1) := by decide +kernel
theorem d_M_init_101 : decode b_M_init 101 = .ok (.newarray .int, 2) := by decide +kernel
theorem d_M_init_103 : decode b_M_init 103 = .ok (.dup, 1) := by decide +kernel
theorem d_M_init_104 : decode b_M_init 104 = .ok (.iconst 0, 1) := by decide +kernel
theorem d_M_init_105 : decode b_M_init 105 = .ok (.iconst 0, 1) := by decide +kernel
theorem d_M_init_106 : decode b_M_init 106 = .ok (.iastore, 1) := by decide +kernel
theorem d_M_init_107 : decode b_M_init 107 = .ok (.dup, 1) := by decide +kernel
theorem d_M_init_108 : decode b_M_init 108 = .ok (.iconst 1, 1) := by decide +kernel
theorem d_M_init_109 : decode b_M_init 109 = .ok (.iconst 1, 1) := by decide +kernel
theorem d_M_init_110 : decode b_M_init 110 = .ok (.iastore, 1) := by decide +kernel
theorem d_M_init_111 : decode b_M_init 111 = .ok (.dup, 1) := by decide +kernel
theorem d_M_init_112 : decode b_M_init 112 = .ok (.iconst 2, 1) := by decide +kernel
theorem d_M_init_113 : decode b_M_init 113 = .ok (.iconst 2, 1) := by decide +kernel
theorem d_M_init_114 : decode b_M_init 114 = .ok (.iastore, 1) := by decide +kernel
theorem d_M_init_115 : decode b_M_init 115 = .ok (.dup, 1) := by decide +kernel
theorem d_M_init_116 : decode b_M_init 116 = .ok (.iconst 3, 1) := by decide +kernel
theorem d_M_init_117 : decode b_M_init 117 = .ok (.iconst 3, 1) := by decide +kernel
theorem d_M_init_118 : decode b_M_init 118 = .ok (.iastore, 1) := by decide +kernel
theorem d_M_init_119 : decode b_M_init 119 = .ok (.putfield 52, 3) := by decide +kernel
theorem d_M_init_122 : decode b_M_init 122 = .ok (.aload_n 0, 1) := by decide +kernel
theorem d_M_init_123 : decode b_M_init 123 = .ok (.bipush 8, 2) := by decide +kernel
theorem d_M_init_125 : decode b_M_init 125 = .ok (.newarray .int, 2) := by decide +kernel
theorem d_M_init_127 : decode b_M_init 127 = .ok (.putfield 55, 3) := by decide +kernel
theorem d_M_init_130 : decode b_M_init 130 = .ok (.aload_n 0, 1) := by decide +kernel
theorem d_M_init_131 : decode b_M_init 131 = .ok (.bipush 8, 2) := by decide +kernel
theorem d_M_init_133 : decode b_M_init 133 = .ok (.newarray .boolean, 2) := by decide +kernel
theorem d_M_init_135 : decode b_M_init 135 = .ok (.putfield 58, 3) := by decide +kernel
theorem d_M_init_138 : decode b_M_init 138 = .ok (.aload_n 0, 1) := by decide +kernel
theorem d_M_init_139 : decode b_M_init 139 = .ok (.sipush 150, 3) := by decide +kernel
theorem d_M_init_142 : decode b_M_init 142 = .ok (.newarray .int, 2) := by decide +kernel
theorem d_M_init_144 : decode b_M_init 144 = .ok (.putfield 61, 3) := by decide +kernel
theorem d_M_init_147 : decode b_M_init 147 = .ok (.aload_n 0, 1) := by decide +kernel
theorem d_M_init_148 : decode b_M_init 148 = .ok (.iconst 3, 1) := by decide +kernel
theorem d_M_init_149 : decode b_M_init 149 = .ok (.newarray .int, 2) := by decide +kernel
theorem d_M_init_151 : decode b_M_init 151 = .ok (.putfield 64, 3) := by decide +kernel
theorem d_M_init_154 : decode b_M_init 154 = .ok (.aload_n 0, 1) := by decide +kernel
theorem d_M_init_155 : decode b_M_init 155 = .ok (.iload_n 1, 1) := by decide +kernel
theorem d_M_init_156 : decode b_M_init 156 = .ok (.iconst 1, 1) := by decide +kernel
theorem d_M_init_157 : decode b_M_init 157 = .ok (.if_icmp .lt 13, 3) := by decide +kernel
theorem d_M_init_160 : decode b_M_init 160 = .ok (.iload_n 1, 1) := by decide +kernel
theorem d_M_init_161 : decode b_M_init 161 = .ok (.bipush 8, 2) := by decide +kernel
theorem d_M_init_163 : decode b_M_init 163 = .ok (.if_icmp .gt 7, 3) := by decide +kernel
theorem d_M_init_166 : decode b_M_init 166 = .ok (.iload_n 1, 1) := by decide +kernel
theorem d_M_init_167 : decode b_M_init 167 = .ok (.goto 4, 3) := by decide +kernel
theorem d_M_init_170 : decode b_M_init 170 = .ok (.iconst 4, 1) := by decide +kernel
theorem d_M_init_171 : decode b_M_init 171 = .ok (.putfield 67, 3) := by decide +kernel
theorem d_M_init_174 : decode b_M_init 174 = .ok (.return_, 1) := by decide +kernel
set_option maxHeartbeats 4000000 in
set_option maxRecDepth 100000 in
theorem c_M_init (l : Launch) (dC : Nat → ClassId) (dI : Nat → Nat → Nat) (h0 : Nat) (sz : Nat) (a1 : Int32) : Met l y_M_init (wd y_M_init b_M_init 2 none) ({ frames := 1, cells := 16, slots := 1710, locals := 12 }) (va_Pc [.ref h0, .int a1] (preC dC dI [(h0, .inr (7, [.int 0, .int 0, .int 0, .null, .int 0, .null, .null, .int 0, .int 0, .int 0, .int 0, .int 0, .null, .int 0, .null, .null, .int 0, .int 0, .null, .int 0, .int 0, .null, .null, .null, .null, .null, .int 0, .null, .null, .int 0, .int 0, .null, .null]))] sz)) (va_Qv (fun (_ : Unit) => True) (fun (_ : Unit) t => ∃ (ad : Nat → Nat → Nat) (cs : Nat → ClassId), ad 0 0 = h0 ∧ va_P (dC, dI) classes (wM ad cs (iniM a1)) t.heap ∧ va_K (dC, dI) classes [(cs 0, .int), (cs 1, .boolean)] t ∧ va_D (va_A [(h0, .inr (7, [.int 0, .int 0, .int 0, .null, .int 0, .null, .null, .int 0, .int 0, .int 0, .int 0, .int 0, .null, .int 0, .null, .null, .int 0, .int 0, .null, .int 0, .int 0, .null, .null, .null, .null, .null, .int 0, .null, .null, .int 0, .int 0, .null, .null]))] sz) (wM ad cs (iniM a1))) (va_A [(h0, .inr (7, [.int 0, .int 0, .int 0, .null, .int 0, .null, .null, .int 0, .int 0, .int 0, .int 0, .int 0, .null, .int 0, .null, .null, .int 0, .int 0, .null, .int 0, .int 0, .null, .null, .null, .null, .null, .int 0, .null, .null, .int 0, .int 0, .null, .null]))] sz)) 16 1710 (va_A [(h0, .inr (7, [.int 0, .int 0, .int 0, .null, .int 0, .null, .null, .int 0, .int 0, .int 0, .int 0, .int 0, .null, .int 0, .null, .null, .int 0, .int 0, .null, .int 0, .int 0, .null, .null, .null, .null, .null, .int 0, .null, .null, .int 0, .int 0, .null, .null]))] sz) := by
  refine Met.ofW (cc := b_M_init) (maxL := 2) (ret := none) (by decide) rfl ?_
  intro p e s m args below meth c s₁ B hml hv
  obtain ⟨rfl, hsz, hP, hK, hD0, hN⟩ := hv
  have hx := B.exec
  have hb := B.bytes
  have hr := B.returns
  have hts := atoms_spec (ws := (wd y_M_init b_M_init 2 none)) B.pre
  have htb : ∀ w ∈ tb, w.before _ s = true := fun w h => hts w (List.mem_cons_of_mem _ h)
  have hown : s.vm.findClass R_M = some m.cls := findClass_of_methodNamed B.named
  have hlocks := B.notSynchronized
  have hin : meth.name = "<init>" := (name_of_methodNamed B.named B.method).1
  subst hsz
  have hD := hD0.self (sz := s.heap.size)
  generalize hAe : va_A [(h0, .inr (7, [.int 0, .int 0, .int 0, .null, .int 0, .null, .null, .int 0, .int 0, .int 0, .int 0, .int 0, .null, .int 0, .null, .null, .int 0, .int 0, .null, .int 0, .int 0, .null, .null, .null, .null, .null, .int 0, .null, .null, .int 0, .int 0, .null, .null]))] s.heap.size = A at hD ⊢
  have hA : ∀ q : Nat, s.heap.size ≤ q → A q := fun q h => by rw [← hAe]; exact Or.inr h
  have hS : va_S A s.heap s.heap [] := va_S.rf
  have hP : va_P (dC, dI) classes [(h0, .inr (7, [.int 0, .int 0, .int 0, .null, .int 0, .null, .null, .int 0, .int 0, .int 0, .int 0, .int 0, .null, .int 0, .null, .null, .int 0, .int 0, .null, .int 0, .int 0, .null, .null, .null, .null, .null, .int 0, .null, .null, .int 0, .int 0, .null, .null]))] s.heap := hP
  have hl := lv_entry ([.ref h0, .int a1]) (n := 2) (Nat.le_of_ble_eq_true rfl)
  rw [lg_entry_eq]
  generalize (lg_sl ([.ref h0, .int a1]) ++ List.replicate (2 - (lg_sl ([.ref h0, .int a1])).length) Slot.unset).toArray = ls at hl ⊢
  have hl : lv_has ls 2 [(0, .ref h0), (1, .int a1)] := hl
  refine lv_aload_n hx hb d_M_init_0 rfl (lv_at hl 0 rfl) ?_
  refine W.objInit hx hb hown (htb _ k_618) (htb _ k_22) (htb _ k_23) rfl (by rw [hml]; exact hl.1) rfl d_M_init_1 (Nat.le_of_ble_eq_true rfl) (Nat.le_of_ble_eq_true rfl) ?_
  refine W.eq (g2 := F0 m 4 ls []) rfl ?_
  refine lv_aload_n hx hb d_M_init_4 rfl (lv_at hl 0 rfl) ?_
  refine lv_sipush (v := 300) hx hb d_M_init_5 (by decide) ?_
  refine va_newa (ty := .int) (a0 := (300, .inl (fun _ => 0))) (N' := 300) hx hb (htb _ k_48) rfl hK hP hD hS hA (fun _ => rfl) (by decide) rfl (by decide) (Nat.le_of_ble_eq_true rfl) (Nat.le_of_ble_eq_true rfl) d_M_init_8 (fun q8 c8 H hK hP hD hS => ?_)
  have hP : va_P (dC, dI) classes [(h0, .inr (7, [.int 0, .int 0, .int 0, .null, .int 0, .null, .null, .int 0, .int 0, .int 0, .int 0, .int 0, .null, .int 0, .null, .null, .int 0, .int 0, .null, .int 0, .int 0, .null, .null, .null, .null, .null, .int 0, .null, .null, .int 0, .int 0, .null, .null])), (q8, .inl (c8, 300, .inl (fun _ => 0)))] H := hP
  have hD : va_D A [(h0, .inr (7, [.int 0, .int 0, .int 0, .null, .int 0, .null, .null, .int 0, .int 0, .int 0, .int 0, .int 0, .null, .int 0, .null, .null, .int 0, .int 0, .null, .int 0, .int 0, .null, .null, .null, .null, .null, .int 0, .null, .null, .int 0, .int 0, .null, .null])), (q8, .inl (c8, 300, .inl (fun _ => 0)))] := hD
  have hK : va_K (dC, dI) classes [(c8, .int)] s := hK
  refine va_putF (D := (dC, dI)) (ci := 7) (v := .ref q8) (ty := .array (.int)) (C := R_M) (T := F_M) (N := 33) hx hb htb in_M ft_M ft_M_ok n_M hown hK hP hD hS 0 rfl rfl 3 (by decide) (htb _ k_622) (fun _ h9 => h9) rfl hin rfl (by decide +kernel) rfl rfl (Nat.le_of_ble_eq_true rfl) d_M_init_10 (fun H locs hP hD hS => ?_)
  have hP : va_P (dC, dI) classes [(h0, .inr (7, [.int 0, .int 0, .int 0, .ref q8, .int 0, .null, .null, .int 0, .int 0, .int 0, .int 0, .int 0, .null, .int 0, .null, .null, .int 0, .int 0, .null, .int 0, .int 0, .null, .null, .null, .null, .null, .int 0, .null, .null, .int 0, .int 0, .null, .null])), (q8, .inl (c8, 300, .inl (fun _ => 0)))] H := hP
  have hD : va_D A [(h0, .inr (7, [.int 0, .int 0, .int 0, .ref q8, .int 0, .null, .null, .int 0, .int 0, .int 0, .int 0, .int 0, .null, .int 0, .null, .null, .int 0, .int 0, .null, .int 0, .int 0, .null, .null, .null, .null, .null, .int 0, .null, .null, .int 0, .int 0, .null, .null])), (q8, .inl (c8, 300, .inl (fun _ => 0)))] := hD
  refine lv_aload_n hx hb d_M_init_13 rfl (lv_at hl 0 rfl) ?_
  refine lv_iconst (v := 3) hx hb d_M_init_14 (by decide) ?_
  refine va_newa (ty := .int) (a0 := (3, .inl (fun _ => 0))) (N' := 3) hx hb (htb _ k_48) rfl hK hP hD hS hA (fun _ => rfl) (by decide) rfl (by decide) (Nat.le_of_ble_eq_true rfl) (Nat.le_of_ble_eq_true rfl) d_M_init_15 (fun q15 c15 H hK hP hD hS => ?_)
  obtain rfl : c8 = c15 := ka_i hK 0 1 rfl rfl
  have hK := hK.sub (tys' := [(c8, .int)]) [0] rfl
  have hP : va_P (dC, dI) classes [(h0, .inr (7, [.int 0, .int 0, .int 0, .ref q8, .int 0, .null, .null, .int 0, .int 0, .int 0, .int 0, .int 0, .null, .int 0, .null, .null, .int 0, .int 0, .null, .int 0, .int 0, .null, .null, .null, .null, .null, .int 0, .null, .null, .int 0, .int 0, .null, .null])), (q8, .inl (c8, 300, .inl (fun _ => 0))), (q15, .inl (c8, 3, .inl (fun _ => 0)))] H := hP
  have hD : va_D A [(h0, .inr (7, [.int 0, .int 0, .int 0, .ref q8, .int 0, .null, .null, .int 0, .int 0, .int 0, .int 0, .int 0, .null, .int 0, .null, .null, .int 0, .int 0, .null, .int 0, .int 0, .null, .null, .null, .null, .null, .int 0, .null, .null, .int 0, .int 0, .null, .null])), (q8, .inl (c8, 300, .inl (fun _ => 0))), (q15, .inl (c8, 3, .inl (fun _ => 0)))] := hD
  have hK : va_K (dC, dI) classes [(c8, .int)] s := hK
  refine va_putF (D := (dC, dI)) (ci := 7) (v := .ref q15) (ty := .array (.int)) (C := R_M) (T := F_M) (N := 33) hx hb htb in_M ft_M ft_M_ok n_M hown hK hP hD hS 0 rfl rfl 5 (by decide) (htb _ k_624) (fun _ h9 => h9) rfl hin rfl (by decide +kernel) rfl rfl (Nat.le_of_ble_eq_true rfl) d_M_init_17 (fun H locs hP hD hS => ?_)
  have hP : va_P (dC, dI) classes [(h0, .inr (7, [.int 0, .int 0, .int 0, .ref q8, .int 0, .ref q15, .null, .int 0, .int 0, .int 0, .int 0, .int 0, .null, .int 0, .null, .null, .int 0, .int 0, .null, .int 0, .int 0, .null, .null, .null, .null, .null, .int 0, .null, .null, .int 0, .int 0, .null, .null])), (q8, .inl (c8, 300, .inl (fun _ => 0))), (q15, .inl (c8, 3, .inl (fun _ => 0)))] H := hP
  have hD : va_D A [(h0, .inr (7, [.int 0, .int 0, .int 0, .ref q8, .int 0, .ref q15, .null, .int 0, .int 0, .int 0, .int 0, .int 0, .null, .int 0, .null, .null, .int 0, .int 0, .null, .int 0, .int 0, .null, .null, .null, .null, .null, .int 0, .null, .null, .int 0, .int 0, .null, .null])), (q8, .inl (c8, 300, .inl (fun _ => 0))), (q15, .inl (c8, 3, .inl (fun _ => 0)))] := hD
  refine lv_aload_n hx hb d_M_init_20 rfl (lv_at hl 0 rfl) ?_
  refine lv_iconst (v := 3) hx hb d_M_init_21 (by decide) ?_
  refine va_newa (ty := .int) (a0 := (3, .inl (fun _ => 0))) (N' := 3) hx hb (htb _ k_48) rfl hK hP hD hS hA (fun _ => rfl) (by decide) rfl (by decide) (Nat.le_of_ble_eq_true rfl) (Nat.le_of_ble_eq_true rfl) d_M_init_22 (fun q22 c22 H hK hP hD hS => ?_)
  obtain rfl : c8 = c22 := ka_i hK 0 1 rfl rfl
  have hK := hK.sub (tys' := [(c8, .int)]) [0] rfl
  have hP : va_P (dC, dI) classes [(h0, .inr (7, [.int 0, .int 0, .int 0, .ref q8, .int 0, .ref q15, .null, .int 0, .int 0, .int 0, .int 0, .int 0, .null, .int 0, .null, .null, .int 0, .int 0, .null, .int 0, .int 0, .null, .null, .null, .null, .null, .int 0, .null, .null, .int 0, .int 0, .null, .null])), (q8, .inl (c8, 300, .inl (fun _ => 0))), (q15, .inl (c8, 3, .inl (fun _ => 0))), (q22, .inl (c8, 3, .inl (fun _ => 0)))] H := hP
  have hD : va_D A [(h0, .inr (7, [.int 0, .int 0, .int 0, .ref q8, .int 0, .ref q15, .null, .int 0, .int 0, .int 0, .int 0, .int 0, .null, .int 0, .null, .null, .int 0, .int 0, .null, .int 0, .int 0, .null, .null, .null, .null, .null, .int 0, .null, .null, .int 0, .int 0, .null, .null])), (q8, .inl (c8, 300, .inl (fun _ => 0))), (q15, .inl (c8, 3, .inl (fun _ => 0))), (q22, .inl (c8, 3, .inl (fun _ => 0)))] := hD
  have hK : va_K (dC, dI) classes [(c8, .int)] s := hK
  refine va_putF (D := (dC, dI)) (ci := 7) (v := .ref q22) (ty := .array (.int)) (C := R_M) (T := F_M) (N := 33) hx hb htb in_M ft_M ft_M_ok n_M hown hK hP hD hS 0 rfl rfl 6 (by decide) (htb _ k_625) (fun _ h9 => h9) rfl hin rfl (by decide +kernel) rfl rfl (Nat.le_of_ble_eq_true rfl) d_M_init_24 (fun H locs hP hD hS => ?_)
  have hP : va_P (dC, dI) classes [(h0, .inr (7, [.int 0, .int 0, .int 0, .ref q8, .int 0, .ref q15, .ref q22, .int 0, .int 0, .int 0, .int 0, .int 0, .null, .int 0, .null, .null, .int 0, .int 0, .null, .int 0, .int 0, .null, .null, .null, .null, .null, .int 0, .null, .null, .int 0, .int 0, .null, .null])), (q8, .inl (c8, 300, .inl (fun _ => 0))), (q15, .inl (c8, 3, .inl (fun _ => 0))), (q22, .inl (c8, 3, .inl (fun _ => 0)))] H := hP
  have hD : va_D A [(h0, .inr (7, [.int 0, .int 0, .int 0, .ref q8, .int 0, .ref q15, .ref q22, .int 0, .int 0, .int 0, .int 0, .int 0, .null, .int 0, .null, .null, .int 0, .int 0, .null, .int 0, .int 0, .null, .null, .null, .null, .null, .int 0, .null, .null, .int 0, .int 0, .null, .null])), (q8, .inl (c8, 300, .inl (fun _ => 0))), (q15, .inl (c8, 3, .inl (fun _ => 0))), (q22, .inl (c8, 3, .inl (fun _ => 0)))] := hD
  refine lv_aload_n hx hb d_M_init_27 rfl (lv_at hl 0 rfl) ?_
  refine lv_iconst (v := 1) hx hb d_M_init_28 (by decide) ?_
  refine va_put (D := (dC, dI)) (ci := 7) (v := .int 1) (ty := .boolean) (C := R_M) (T := F_M) (N := 33) hx hb htb in_M ft_M ft_M_ok n_M hown hK hP hD hS 0 rfl rfl 8 (by decide) (htb _ k_627) (fun _ h9 => h9) rfl (by decide +kernel) rfl rfl (Nat.le_of_ble_eq_true rfl) d_M_init_29 (fun H locs hP hD hS => ?_)
  have hP : va_P (dC, dI) classes [(h0, .inr (7, [.int 0, .int 0, .int 0, .ref q8, .int 0, .ref q15, .ref q22, .int 0, .int 1, .int 0, .int 0, .int 0, .null, .int 0, .null, .null, .int 0, .int 0, .null, .int 0, .int 0, .null, .null, .null, .null, .null, .int 0, .null, .null, .int 0, .int 0, .null, .null])), (q8, .inl (c8, 300, .inl (fun _ => 0))), (q15, .inl (c8, 3, .inl (fun _ => 0))), (q22, .inl (c8, 3, .inl (fun _ => 0)))] H := hP
  have hD : va_D A [(h0, .inr (7, [.int 0, .int 0, .int 0, .ref q8, .int 0, .ref q15, .ref q22, .int 0, .int 1, .int 0, .int 0, .int 0, .null, .int 0, .null, .null, .int 0, .int 0, .null, .int 0, .int 0, .null, .null, .null, .null, .null, .int 0, .null, .null, .int 0, .int 0, .null, .null])), (q8, .inl (c8, 300, .inl (fun _ => 0))), (q15, .inl (c8, 3, .inl (fun _ => 0))), (q22, .inl (c8, 3, .inl (fun _ => 0)))] := hD
  refine lv_aload_n hx hb d_M_init_32 rfl (lv_at hl 0 rfl) ?_
  refine lv_iconst (v := (-1)) hx hb d_M_init_33 (by decide) ?_
  refine va_put (D := (dC, dI)) (ci := 7) (v := .int (-1)) (ty := .int) (C := R_M) (T := F_M) (N := 33) hx hb htb in_M ft_M ft_M_ok n_M hown hK hP hD hS 0 rfl rfl 9 (by decide) (htb _ k_628) (fun _ h9 => h9) rfl (by decide +kernel) rfl rfl (Nat.le_of_ble_eq_true rfl) d_M_init_34 (fun H locs hP hD hS => ?_)
  have hP : va_P (dC, dI) classes [(h0, .inr (7, [.int 0, .int 0, .int 0, .ref q8, .int 0, .ref q15, .ref q22, .int 0, .int 1, .int (-1), .int 0, .int 0, .null, .int 0, .null, .null, .int 0, .int 0, .null, .int 0, .int 0, .null, .null, .null, .null, .null, .int 0, .null, .null, .int 0, .int 0, .null, .null])), (q8, .inl (c8, 300, .inl (fun _ => 0))), (q15, .inl (c8, 3, .inl (fun _ => 0))), (q22, .inl (c8, 3, .inl (fun _ => 0)))] H := hP
  have hD : va_D A [(h0, .inr (7, [.int 0, .int 0, .int 0, .ref q8, .int 0, .ref q15, .ref q22, .int 0, .int 1, .int (-1), .int 0, .int 0, .null, .int 0, .null, .null, .int 0, .int 0, .null, .int 0, .int 0, .null, .null, .null, .null, .null, .int 0, .null, .null, .int 0, .int 0, .null, .null])), (q8, .inl (c8, 300, .inl (fun _ => 0))), (q15, .inl (c8, 3, .inl (fun _ => 0))), (q22, .inl (c8, 3, .inl (fun _ => 0)))] := hD
  refine lv_aload_n hx hb d_M_init_37 rfl (lv_at hl 0 rfl) ?_
  refine lv_iconst (v := 4) hx hb d_M_init_38 (by decide) ?_
  refine va_newa (ty := .int) (a0 := (4, .inl (fun _ => 0))) (N' := 4) hx hb (htb _ k_48) rfl hK hP hD hS hA (fun _ => rfl) (by decide) rfl (by decide) (Nat.le_of_ble_eq_true rfl) (Nat.le_of_ble_eq_true rfl) d_M_init_39 (fun q39 c39 H hK hP hD hS => ?_)
  obtain rfl : c8 = c39 := ka_i hK 0 1 rfl rfl
  have hK := hK.sub (tys' := [(c8, .int)]) [0] rfl
  have hP : va_P (dC, dI) classes [(h0, .inr (7, [.int 0, .int 0, .int 0, .ref q8, .int 0, .ref q15, .ref q22, .int 0, .int 1, .int (-1), .int 0, .int 0, .null, .int 0, .null, .null, .int 0, .int 0, .null, .int 0, .int 0, .null, .null, .null, .null, .null, .int 0, .null, .null, .int 0, .int 0, .null, .null])), (q8, .inl (c8, 300, .inl (fun _ => 0))), (q15, .inl (c8, 3, .inl (fun _ => 0))), (q22, .inl (c8, 3, .inl (fun _ => 0))), (q39, .inl (c8, 4, .inl (fun _ => 0)))] H := hP
  have hD : va_D A [(h0, .inr (7, [.int 0, .int 0, .int 0, .ref q8, .int 0, .ref q15, .ref q22, .int 0, .int 1, .int (-1), .int 0, .int 0, .null, .int 0, .null, .null, .int 0, .int 0, .null, .int 0, .int 0, .null, .null, .null, .null, .null, .int 0, .null, .null, .int 0, .int 0, .null, .null])), (q8, .inl (c8, 300, .inl (fun _ => 0))), (q15, .inl (c8, 3, .inl (fun _ => 0))), (q22, .inl (c8, 3, .inl (fun _ => 0))), (q39, .inl (c8, 4, .inl (fun _ => 0)))] := hD
  have hK : va_K (dC, dI) classes [(c8, .int)] s := hK
  refine va_putF (D := (dC, dI)) (ci := 7) (v := .ref q39) (ty := .array (.int)) (C := R_M) (T := F_M) (N := 33) hx hb htb in_M ft_M ft_M_ok n_M hown hK hP hD hS 0 rfl rfl 12 (by decide) (htb _ k_631) (fun _ h9 => h9) rfl hin rfl (by decide +kernel) rfl rfl (Nat.le_of_ble_eq_true rfl) d_M_init_41 (fun H locs hP hD hS => ?_)
  have hP : va_P (dC, dI) classes [(h0, .inr (7, [.int 0, .int 0, .int 0, .ref q8, .int 0, .ref q15, .ref q22, .int 0, .int 1, .int (-1), .int 0, .int 0, .ref q39, .int 0, .null, .null, .int 0, .int 0, .null, .int 0, .int 0, .null, .null, .null, .null, .null, .int 0, .null, .null, .int 0, .int 0, .null, .null])), (q8, .inl (c8, 300, .inl (fun _ => 0))), (q15, .inl (c8, 3, .inl (fun _ => 0))), (q22, .inl (c8, 3, .inl (fun _ => 0))), (q39, .inl (c8, 4, .inl (fun _ => 0)))] H := hP
  have hD : va_D A [(h0, .inr (7, [.int 0, .int 0, .int 0, .ref q8, .int 0, .ref q15, .ref q22, .int 0, .int 1, .int (-1), .int 0, .int 0, .ref q39, .int 0, .null, .null, .int 0, .int 0, .null, .int 0, .int 0, .null, .null, .null, .null, .null, .int 0, .null, .null, .int 0, .int 0, .null, .null])), (q8, .inl (c8, 300, .inl (fun _ => 0))), (q15, .inl (c8, 3, .inl (fun _ => 0))), (q22, .inl (c8, 3, .inl (fun _ => 0))), (q39, .inl (c8, 4, .inl (fun _ => 0)))] := hD
  refine lv_aload_n hx hb d_M_init_44 rfl (lv_at hl 0 rfl) ?_
  refine lv_bipush (v := 8) hx hb d_M_init_45 (by decide) ?_
  refine va_newa (ty := .int) (a0 := (8, .inl (fun _ => 0))) (N' := 8) hx hb (htb _ k_48) rfl hK hP hD hS hA (fun _ => rfl) (by decide) rfl (by decide) (Nat.le_of_ble_eq_true rfl) (Nat.le_of_ble_eq_true rfl) d_M_init_47 (fun q47 c47 H hK hP hD hS => ?_)
  obtain rfl : c8 = c47 := ka_i hK 0 1 rfl rfl
  have hK := hK.sub (tys' := [(c8, .int)]) [0] rfl
  have hP : va_P (dC, dI) classes [(h0, .inr (7, [.int 0, .int 0, .int 0, .ref q8, .int 0, .ref q15, .ref q22, .int 0, .int 1, .int (-1), .int 0, .int 0, .ref q39, .int 0, .null, .null, .int 0, .int 0, .null, .int 0, .int 0, .null, .null, .null, .null, .null, .int 0, .null, .null, .int 0, .int 0, .null, .null])), (q8, .inl (c8, 300, .inl (fun _ => 0))), (q15, .inl (c8, 3, .inl (fun _ => 0))), (q22, .inl (c8, 3, .inl (fun _ => 0))), (q39, .inl (c8, 4, .inl (fun _ => 0))), (q47, .inl (c8, 8, .inl (fun _ => 0)))] H := hP
  have hD : va_D A [(h0, .inr (7, [.int 0, .int 0, .int 0, .ref q8, .int 0, .ref q15, .ref q22, .int 0, .int 1, .int (-1), .int 0, .int 0, .ref q39, .int 0, .null, .null, .int 0, .int 0, .null, .int 0, .int 0, .null, .null, .null, .null, .null, .int 0, .null, .null, .int 0, .int 0, .null, .null])), (q8, .inl (c8, 300, .inl (fun _ => 0))), (q15, .inl (c8, 3, .inl (fun _ => 0))), (q22, .inl (c8, 3, .inl (fun _ => 0))), (q39, .inl (c8, 4, .inl (fun _ => 0))), (q47, .inl (c8, 8, .inl (fun _ => 0)))] := hD
  have hK : va_K (dC, dI) classes [(c8, .int)] s := hK
  refine va_putF (D := (dC, dI)) (ci := 7) (v := .ref q47) (ty := .array (.int)) (C := R_M) (T := F_M) (N := 33) hx hb htb in_M ft_M ft_M_ok n_M hown hK hP hD hS 0 rfl rfl 14 (by decide) (htb _ k_633) (fun _ h9 => h9) rfl hin rfl (by decide +kernel) rfl rfl (Nat.le_of_ble_eq_true rfl) d_M_init_49 (fun H locs hP hD hS => ?_)
  have hP : va_P (dC, dI) classes [(h0, .inr (7, [.int 0, .int 0, .int 0, .ref q8, .int 0, .ref q15, .ref q22, .int 0, .int 1, .int (-1), .int 0, .int 0, .ref q39, .int 0, .ref q47, .null, .int 0, .int 0, .null, .int 0, .int 0, .null, .null, .null, .null, .null, .int 0, .null, .null, .int 0, .int 0, .null, .null])), (q8, .inl (c8, 300, .inl (fun _ => 0))), (q15, .inl (c8, 3, .inl (fun _ => 0))), (q22, .inl (c8, 3, .inl (fun _ => 0))), (q39, .inl (c8, 4, .inl (fun _ => 0))), (q47, .inl (c8, 8, .inl (fun _ => 0)))] H := hP
  have hD : va_D A [(h0, .inr (7, [.int 0, .int 0, .int 0, .ref q8, .int 0, .ref q15, .ref q22, .int 0, .int 1, .int (-1), .int 0, .int 0, .ref q39, .int 0, .ref q47, .null, .int 0, .int 0, .null, .int 0, .int 0, .null, .null, .null, .null, .null, .int 0, .null, .null, .int 0, .int 0, .null, .null])), (q8, .inl (c8, 300, .inl (fun _ => 0))), (q15, .inl (c8, 3, .inl (fun _ => 0))), (q22, .inl (c8, 3, .inl (fun _ => 0))), (q39, .inl (c8, 4, .inl (fun _ => 0))), (q47, .inl (c8, 8, .inl (fun _ => 0)))] := hD
  refine lv_aload_n hx hb d_M_init_52 rfl (lv_at hl 0 rfl) ?_
  refine lv_bipush (v := 8) hx hb d_M_init_53 (by decide) ?_
  refine va_newa (ty := .boolean) (a0 := (8, .inl (fun _ => 0))) (N' := 8) hx hb (htb _ k_123) rfl hK hP hD hS hA (fun _ => rfl) (by decide) rfl (by decide) (Nat.le_of_ble_eq_true rfl) (Nat.le_of_ble_eq_true rfl) d_M_init_55 (fun q55 c55 H hK hP hD hS => ?_)
  have hP : va_P (dC, dI) classes [(h0, .inr (7, [.int 0, .int 0, .int 0, .ref q8, .int 0, .ref q15, .ref q22, .int 0, .int 1, .int (-1), .int 0, .int 0, .ref q39, .int 0, .ref q47, .null, .int 0, .int 0, .null, .int 0, .int 0, .null, .null, .null, .null, .null, .int 0, .null, .null, .int 0, .int 0, .null, .null])), (q8, .inl (c8, 300, .inl (fun _ => 0))), (q15, .inl (c8, 3, .inl (fun _ => 0))), (q22, .inl (c8, 3, .inl (fun _ => 0))), (q39, .inl (c8, 4, .inl (fun _ => 0))), (q47, .inl (c8, 8, .inl (fun _ => 0))), (q55, .inl (c55, 8, .inl (fun _ => 0)))] H := hP
  have hD : va_D A [(h0, .inr (7, [.int 0, .int 0, .int 0, .ref q8, .int 0, .ref q15, .ref q22, .int 0, .int 1, .int (-1), .int 0, .int 0, .ref q39, .int 0, .ref q47, .null, .int 0, .int 0, .null, .int 0, .int 0, .null, .null, .null, .null, .null, .int 0, .null, .null, .int 0, .int 0, .null, .null])), (q8, .inl (c8, 300, .inl (fun _ => 0))), (q15, .inl (c8, 3, .inl (fun _ => 0))), (q22, .inl (c8, 3, .inl (fun _ => 0))), (q39, .inl (c8, 4, .inl (fun _ => 0))), (q47, .inl (c8, 8, .inl (fun _ => 0))), (q55, .inl (c55, 8, .inl (fun _ => 0)))] := hD
  have hK : va_K (dC, dI) classes [(c8, .int), (c55, .boolean)] s := hK
  refine va_putF (D := (dC, dI)) (ci := 7) (v := .ref q55) (ty := .array (.boolean)) (C := R_M) (T := F_M) (N := 33) hx hb htb in_M ft_M ft_M_ok n_M hown hK hP hD hS 0 rfl rfl 15 (by decide) (htb _ k_634) (fun _ h9 => h9) rfl hin rfl (by decide +kernel) rfl rfl (Nat.le_of_ble_eq_true rfl) d_M_init_57 (fun H locs hP hD hS => ?_)
  have hP : va_P (dC, dI) classes [(h0, .inr (7, [.int 0, .int 0, .int 0, .ref q8, .int 0, .ref q15, .ref q22, .int 0, .int 1, .int (-1), .int 0, .int 0, .ref q39, .int 0, .ref q47, .ref q55, .int 0, .int 0, .null, .int 0, .int 0, .null, .null, .null, .null, .null, .int 0, .null, .null, .int 0, .int 0, .null, .null])), (q8, .inl (c8, 300, .inl (fun _ => 0))), (q15, .inl (c8, 3, .inl (fun _ => 0))), (q22, .inl (c8, 3, .inl (fun _ => 0))), (q39, .inl (c8, 4, .inl (fun _ => 0))), (q47, .inl (c8, 8, .inl (fun _ => 0))), (q55, .inl (c55, 8, .inl (fun _ => 0)))] H := hP
  have hD : va_D A [(h0, .inr (7, [.int 0, .int 0, .int 0, .ref q8, .int 0, .ref q15, .ref q22, .int 0, .int 1, .int (-1), .int 0, .int 0, .ref q39, .int 0, .ref q47, .ref q55, .int 0, .int 0, .null, .int 0, .int 0, .null, .null, .null, .null, .null, .int 0, .null, .null, .int 0, .int 0, .null, .null])), (q8, .inl (c8, 300, .inl (fun _ => 0))), (q15, .inl (c8, 3, .inl (fun _ => 0))), (q22, .inl (c8, 3, .inl (fun _ => 0))), (q39, .inl (c8, 4, .inl (fun _ => 0))), (q47, .inl (c8, 8, .inl (fun _ => 0))), (q55, .inl (c55, 8, .inl (fun _ => 0)))] := hD
  refine lv_aload_n hx hb d_M_init_60 rfl (lv_at hl 0 rfl) ?_
  refine lv_iconst (v := 3) hx hb d_M_init_61 (by decide) ?_
  refine va_newa (ty := .int) (a0 := (3, .inl (fun _ => 0))) (N' := 3) hx hb (htb _ k_48) rfl hK hP hD hS hA (fun _ => rfl) (by decide) rfl (by decide) (Nat.le_of_ble_eq_true rfl) (Nat.le_of_ble_eq_true rfl) d_M_init_62 (fun q62 c62 H hK hP hD hS => ?_)
  obtain rfl : c8 = c62 := ka_i hK 0 2 rfl rfl
  have hK := hK.sub (tys' := [(c8, .int), (c55, .boolean)]) [0, 1] rfl
  have hP : va_P (dC, dI) classes [(h0, .inr (7, [.int 0, .int 0, .int 0, .ref q8, .int 0, .ref q15, .ref q22, .int 0, .int 1, .int (-1), .int 0, .int 0, .ref q39, .int 0, .ref q47, .ref q55, .int 0, .int 0, .null, .int 0, .int 0, .null, .null, .null, .null, .null, .int 0, .null, .null, .int 0, .int 0, .null, .null])), (q8, .inl (c8, 300, .inl (fun _ => 0))), (q15, .inl (c8, 3, .inl (fun _ => 0))), (q22, .inl (c8, 3, .inl (fun _ => 0))), (q39, .inl (c8, 4, .inl (fun _ => 0))), (q47, .inl (c8, 8, .inl (fun _ => 0))), (q55, .inl (c55, 8, .inl (fun _ => 0))), (q62, .inl (c8, 3, .inl (fun _ => 0)))] H := hP
  have hD : va_D A [(h0, .inr (7, [.int 0, .int 0, .int 0, .ref q8, .int 0, .ref q15, .ref q22, .int 0, .int 1, .int (-1), .int 0, .int 0, .ref q39, .int 0, .ref q47, .ref q55, .int 0, .int 0, .null, .int 0, .int 0, .null, .null, .null, .null, .null, .int 0, .null, .null, .int 0, .int 0, .null, .null])), (q8, .inl (c8, 300, .inl (fun _ => 0))), (q15, .inl (c8, 3, .inl (fun _ => 0))), (q22, .inl (c8, 3, .inl (fun _ => 0))), (q39, .inl (c8, 4, .inl (fun _ => 0))), (q47, .inl (c8, 8, .inl (fun _ => 0))), (q55, .inl (c55, 8, .inl (fun _ => 0))), (q62, .inl (c8, 3, .inl (fun _ => 0)))] := hD
  have hK : va_K (dC, dI) classes [(c8, .int), (c55, .boolean)] s := hK
  refine va_putF (D := (dC, dI)) (ci := 7) (v := .ref q62) (ty := .array (.int)) (C := R_M) (T := F_M) (N := 33) hx hb htb in_M ft_M ft_M_ok n_M hown hK hP hD hS 0 rfl rfl 18 (by decide) (htb _ k_637) (fun _ h9 => h9) rfl hin rfl (by decide +kernel) rfl rfl (Nat.le_of_ble_eq_true rfl) d_M_init_64 (fun H locs hP hD hS => ?_)
  have hP : va_P (dC, dI) classes [(h0, .inr (7, [.int 0, .int 0, .int 0, .ref q8, .int 0, .ref q15, .ref q22, .int 0, .int 1, .int (-1), .int 0, .int 0, .ref q39, .int 0, .ref q47, .ref q55, .int 0, .int 0, .ref q62, .int 0, .int 0, .null, .null, .null, .null, .null, .int 0, .null, .null, .int 0, .int 0, .null, .null])), (q8, .inl (c8, 300, .inl (fun _ => 0))), (q15, .inl (c8, 3, .inl (fun _ => 0))), (q22, .inl (c8, 3, .inl (fun _ => 0))), (q39, .inl (c8, 4, .inl (fun _ => 0))), (q47, .inl (c8, 8, .inl (fun _ => 0))), (q55, .inl (c55, 8, .inl (fun _ => 0))), (q62, .inl (c8, 3, .inl (fun _ => 0)))] H := hP
  have hD : va_D A [(h0, .inr (7, [.int 0, .int 0, .int 0, .ref q8, .int 0, .ref q15, .ref q22, .int 0, .int 1, .int (-1), .int 0, .int 0, .ref q39, .int 0, .ref q47, .ref q55, .int 0, .int 0, .ref q62, .int 0, .int 0, .null, .null, .null, .null, .null, .int 0, .null, .null, .int 0, .int 0, .null, .null])), (q8, .inl (c8, 300, .inl (fun _ => 0))), (q15, .inl (c8, 3, .inl (fun _ => 0))), (q22, .inl (c8, 3, .inl (fun _ => 0))), (q39, .inl (c8, 4, .inl (fun _ => 0))), (q47, .inl (c8, 8, .inl (fun _ => 0))), (q55, .inl (c55, 8, .inl (fun _ => 0))), (q62, .inl (c8, 3, .inl (fun _ => 0)))] := hD
  refine lv_aload_n hx hb d_M_init_67 rfl (lv_at hl 0 rfl) ?_
  refine lv_sipush (v := 600) hx hb d_M_init_68 (by decide) ?_
  refine va_newa (ty := .int) (a0 := (600, .inl (fun _ => 0))) (N' := 600) hx hb (htb _ k_48) rfl hK hP hD hS hA (fun _ => rfl) (by decide) rfl (by decide) (Nat.le_of_ble_eq_true rfl) (Nat.le_of_ble_eq_true rfl) d_M_init_71 (fun q71 c71 H hK hP hD hS => ?_)
  obtain rfl : c8 = c71 := ka_i hK 0 2 rfl rfl
  have hK := hK.sub (tys' := [(c8, .int), (c55, .boolean)]) [0, 1] rfl
  have hP : va_P (dC, dI) classes [(h0, .inr (7, [.int 0, .int 0, .int 0, .ref q8, .int 0, .ref q15, .ref q22, .int 0, .int 1, .int (-1), .int 0, .int 0, .ref q39, .int 0, .ref q47, .ref q55, .int 0, .int 0, .ref q62, .int 0, .int 0, .null, .null, .null, .null, .null, .int 0, .null, .null, .int 0, .int 0, .null, .null])), (q8, .inl (c8, 300, .inl (fun _ => 0))), (q15, .inl (c8, 3, .inl (fun _ => 0))), (q22, .inl (c8, 3, .inl (fun _ => 0))), (q39, .inl (c8, 4, .inl (fun _ => 0))), (q47, .inl (c8, 8, .inl (fun _ => 0))), (q55, .inl (c55, 8, .inl (fun _ => 0))), (q62, .inl (c8, 3, .inl (fun _ => 0))), (q71, .inl (c8, 600, .inl (fun _ => 0)))] H := hP
  have hD : va_D A [(h0, .inr (7, [.int 0, .int 0, .int 0, .ref q8, .int 0, .ref q15, .ref q22, .int 0, .int 1, .int (-1), .int 0, .int 0, .ref q39, .int 0, .ref q47, .ref q55, .int 0, .int 0, .ref q62, .int 0, .int 0, .null, .null, .null, .null, .null, .int 0, .null, .null, .int 0, .int 0, .null, .null])), (q8, .inl (c8, 300, .inl (fun _ => 0))), (q15, .inl (c8, 3, .inl (fun _ => 0))), (q22, .inl (c8, 3, .inl (fun _ => 0))), (q39, .inl (c8, 4, .inl (fun _ => 0))), (q47, .inl (c8, 8, .inl (fun _ => 0))), (q55, .inl (c55, 8, .inl (fun _ => 0))), (q62, .inl (c8, 3, .inl (fun _ => 0))), (q71, .inl (c8, 600, .inl (fun _ => 0)))] := hD
  have hK : va_K (dC, dI) classes [(c8, .int), (c55, .boolean)] s := hK
  refine va_putF (D := (dC, dI)) (ci := 7) (v := .ref q71) (ty := .array (.int)) (C := R_M) (T := F_M) (N := 33) hx hb htb in_M ft_M ft_M_ok n_M hown hK hP hD hS 0 rfl rfl 21 (by decide) (htb _ k_640) (fun _ h9 => h9) rfl hin rfl (by decide +kernel) rfl rfl (Nat.le_of_ble_eq_true rfl) d_M_init_73 (fun H locs hP hD hS => ?_)
  have hP : va_P (dC, dI) classes [(h0, .inr (7, [.int 0, .int 0, .int 0, .ref q8, .int 0, .ref q15, .ref q22, .int 0, .int 1, .int (-1), .int 0, .int 0, .ref q39, .int 0, .ref q47, .ref q55, .int 0, .int 0, .ref q62, .int 0, .int 0, .ref q71, .null, .null, .null, .null, .int 0, .null, .null, .int 0, .int 0, .null, .null])), (q8, .inl (c8, 300, .inl (fun _ => 0))), (q15, .inl (c8, 3, .inl (fun _ => 0))), (q22, .inl (c8, 3, .inl (fun _ => 0))), (q39, .inl (c8, 4, .inl (fun _ => 0))), (q47, .inl (c8, 8, .inl (fun _ => 0))), (q55, .inl (c55, 8, .inl (fun _ => 0))), (q62, .inl (c8, 3, .inl (fun _ => 0))), (q71, .inl (c8, 600, .inl (fun _ => 0)))] H := hP
  have hD : va_D A [(h0, .inr (7, [.int 0, .int 0, .int 0, .ref q8, .int 0, .ref q15, .ref q22, .int 0, .int 1, .int (-1), .int 0, .int 0, .ref q39, .int 0, .ref q47, .ref q55, .int 0, .int 0, .ref q62, .int 0, .int 0, .ref q71, .null, .null, .null, .null, .int 0, .null, .null, .int 0, .int 0, .null, .null])), (q8, .inl (c8, 300, .inl (fun _ => 0))), (q15, .inl (c8, 3, .inl (fun _ => 0))), (q22, .inl (c8, 3, .inl (fun _ => 0))), (q39, .inl (c8, 4, .inl (fun _ => 0))), (q47, .inl (c8, 8, .inl (fun _ => 0))), (q55, .inl (c55, 8, .inl (fun _ => 0))), (q62, .inl (c8, 3, .inl (fun _ => 0))), (q71, .inl (c8, 600, .inl (fun _ => 0)))] := hD
  refine lv_aload_n hx hb d_M_init_76 rfl (lv_at hl 0 rfl) ?_
  refine lv_sipush (v := 600) hx hb d_M_init_77 (by decide) ?_
  refine va_newa (ty := .int) (a0 := (600, .inl (fun _ => 0))) (N' := 600) hx hb (htb _ k_48) rfl hK hP hD hS hA (fun _ => rfl) (by decide) rfl (by decide) (Nat.le_of_ble_eq_true rfl) (Nat.le_of_ble_eq_true rfl) d_M_init_80 (fun q80 c80 H hK hP hD hS => ?_)
  obtain rfl : c8 = c80 := ka_i hK 0 2 rfl rfl
  have hK := hK.sub (tys' := [(c8, .int), (c55, .boolean)]) [0, 1] rfl
  have hP : va_P (dC, dI) classes [(h0, .inr (7, [.int 0, .int 0, .int 0, .ref q8, .int 0, .ref q15, .ref q22, .int 0, .int 1, .int (-1), .int 0, .int 0, .ref q39, .int 0, .ref q47, .ref q55, .int 0, .int 0, .ref q62, .int 0, .int 0, .ref q71, .null, .null, .null, .null, .int 0, .null, .null, .int 0, .int 0, .null, .null])), (q8, .inl (c8, 300, .inl (fun _ => 0))), (q15, .inl (c8, 3, .inl (fun _ => 0))), (q22, .inl (c8, 3, .inl (fun _ => 0))), (q39, .inl (c8, 4, .inl (fun _ => 0))), (q47, .inl (c8, 8, .inl (fun _ => 0))), (q55, .inl (c55, 8, .inl (fun _ => 0))), (q62, .inl (c8, 3, .inl (fun _ => 0))), (q71, .inl (c8, 600, .inl (fun _ => 0))), (q80, .inl (c8, 600, .inl (fun _ => 0)))] H := hP
  have hD : va_D A [(h0, .inr (7, [.int 0, .int 0, .int 0, .ref q8, .int 0, .ref q15, .ref q22, .int 0, .int 1, .int (-1), .int 0, .int 0, .ref q39, .int 0, .ref q47, .ref q55, .int 0, .int 0, .ref q62, .int 0, .int 0, .ref q71, .null, .null, .null, .null, .int 0, .null, .null, .int 0, .int 0, .null, .null])), (q8, .inl (c8, 300, .inl (fun _ => 0))), (q15, .inl (c8, 3, .inl (fun _ => 0))), (q22, .inl (c8, 3, .inl (fun _ => 0))), (q39, .inl (c8, 4, .inl (fun _ => 0))), (q47, .inl (c8, 8, .inl (fun _ => 0))), (q55, .inl (c55, 8, .inl (fun _ => 0))), (q62, .inl (c8, 3, .inl (fun _ => 0))), (q71, .inl (c8, 600, .inl (fun _ => 0))), (q80, .inl (c8, 600, .inl (fun _ => 0)))] := hD
  have hK : va_K (dC, dI) classes [(c8, .int), (c55, .boolean)] s := hK
  refine va_putF (D := (dC, dI)) (ci := 7) (v := .ref q80) (ty := .array (.int)) (C := R_M) (T := F_M) (N := 33) hx hb htb in_M ft_M ft_M_ok n_M hown hK hP hD hS 0 rfl rfl 22 (by decide) (htb _ k_641) (fun _ h9 => h9) rfl hin rfl (by decide +kernel) rfl rfl (Nat.le_of_ble_eq_true rfl) d_M_init_82 (fun H locs hP hD hS => ?_)
  have hP : va_P (dC, dI) classes [(h0, .inr (7, [.int 0, .int 0, .int 0, .ref q8, .int 0, .ref q15, .ref q22, .int 0, .int 1, .int (-1), .int 0, .int 0, .ref q39, .int 0, .ref q47, .ref q55, .int 0, .int 0, .ref q62, .int 0, .int 0, .ref q71, .ref q80, .null, .null, .null, .int 0, .null, .null, .int 0, .int 0, .null, .null])), (q8, .inl (c8, 300, .inl (fun _ => 0))), (q15, .inl (c8, 3, .inl (fun _ => 0))), (q22, .inl (c8, 3, .inl (fun _ => 0))), (q39, .inl (c8, 4, .inl (fun _ => 0))), (q47, .inl (c8, 8, .inl (fun _ => 0))), (q55, .inl (c55, 8, .inl (fun _ => 0))), (q62, .inl (c8, 3, .inl (fun _ => 0))), (q71, .inl (c8, 600, .inl (fun _ => 0))), (q80, .inl (c8, 600, .inl (fun _ => 0)))] H := hP
  have hD : va_D A [(h0, .inr (7, [.int 0, .int 0, .int 0, .ref q8, .int 0, .ref q15, .ref q22, .int 0, .int 1, .int (-1), .int 0, .int 0, .ref q39, .int 0, .ref q47, .ref q55, .int 0, .int 0, .ref q62, .int 0, .int 0, .ref q71, .ref q80, .null, .null, .null, .int 0, .null, .null, .int 0, .int 0, .null, .null])), (q8, .inl (c8, 300, .inl (fun _ => 0))), (q15, .inl (c8, 3, .inl (fun _ => 0))), (q22, .inl (c8, 3, .inl (fun _ => 0))), (q39, .inl (c8, 4, .inl (fun _ => 0))), (q47, .inl (c8, 8, .inl (fun _ => 0))), (q55, .inl (c55, 8, .inl (fun _ => 0))), (q62, .inl (c8, 3, .inl (fun _ => 0))), (q71, .inl (c8, 600, .inl (fun _ => 0))), (q80, .inl (c8, 600, .inl (fun _ => 0)))] := hD
  refine lv_aload_n hx hb d_M_init_85 rfl (lv_at hl 0 rfl) ?_
  refine lv_iconst (v := 4) hx hb d_M_init_86 (by decide) ?_
  refine va_newa (ty := .int) (a0 := (4, .inl (fun _ => 0))) (N' := 4) hx hb (htb _ k_48) rfl hK hP hD hS hA (fun _ => rfl) (by decide) rfl (by decide) (Nat.le_of_ble_eq_true rfl) (Nat.le_of_ble_eq_true rfl) d_M_init_87 (fun q87 c87 H hK hP hD hS => ?_)
  obtain rfl : c8 = c87 := ka_i hK 0 2 rfl rfl
  have hK := hK.sub (tys' := [(c8, .int), (c55, .boolean)]) [0, 1] rfl
  have hP : va_P (dC, dI) classes [(h0, .inr (7, [.int 0, .int 0, .int 0, .ref q8, .int 0, .ref q15, .ref q22, .int 0, .int 1, .int (-1), .int 0, .int 0, .ref q39, .int 0, .ref q47, .ref q55, .int 0, .int 0, .ref q62, .int 0, .int 0, .ref q71, .ref q80, .null, .null, .null, .int 0, .null, .null, .int 0, .int 0, .null, .null])), (q8, .inl (c8, 300, .inl (fun _ => 0))), (q15, .inl (c8, 3, .inl (fun _ => 0))), (q22, .inl (c8, 3, .inl (fun _ => 0))), (q39, .inl (c8, 4, .inl (fun _ => 0))), (q47, .inl (c8, 8, .inl (fun _ => 0))), (q55, .inl (c55, 8, .inl (fun _ => 0))), (q62, .inl (c8, 3, .inl (fun _ => 0))), (q71, .inl (c8, 600, .inl (fun _ => 0))), (q80, .inl (c8, 600, .inl (fun _ => 0))), (q87, .inl (c8, 4, .inl (fun _ => 0)))] H := hP
  have hD : va_D A [(h0, .inr (7, [.int 0, .int 0, .int 0, .ref q8, .int 0, .ref q15, .ref q22, .int 0, .int 1, .int (-1), .int 0, .int 0, .ref q39, .int 0, .ref q47, .ref q55, .int 0, .int 0, .ref q62, .int 0, .int 0, .ref q71, .ref q80, .null, .null, .null, .int 0, .null, .null, .int 0, .int 0, .null, .null])), (q8, .inl (c8, 300, .inl (fun _ => 0))), (q15, .inl (c8, 3, .inl (fun _ => 0))), (q22, .inl (c8, 3, .inl (fun _ => 0))), (q39, .inl (c8, 4, .inl (fun _ => 0))), (q47, .inl (c8, 8, .inl (fun _ => 0))), (q55, .inl (c55, 8, .inl (fun _ => 0))), (q62, .inl (c8, 3, .inl (fun _ => 0))), (q71, .inl (c8, 600, .inl (fun _ => 0))), (q80, .inl (c8, 600, .inl (fun _ => 0))), (q87, .inl (c8, 4, .inl (fun _ => 0)))] := hD
  have hK : va_K (dC, dI) classes [(c8, .int), (c55, .boolean)] s := hK
  refine va_putF (D := (dC, dI)) (ci := 7) (v := .ref q87) (ty := .array (.int)) (C := R_M) (T := F_M) (N := 33) hx hb htb in_M ft_M ft_M_ok n_M hown hK hP hD hS 0 rfl rfl 23 (by decide) (htb _ k_642) (fun _ h9 => h9) rfl hin rfl (by decide +kernel) rfl rfl (Nat.le_of_ble_eq_true rfl) d_M_init_89 (fun H locs hP hD hS => ?_)
  have hP : va_P (dC, dI) classes [(h0, .inr (7, [.int 0, .int 0, .int 0, .ref q8, .int 0, .ref q15, .ref q22, .int 0, .int 1, .int (-1), .int 0, .int 0, .ref q39, .int 0, .ref q47, .ref q55, .int 0, .int 0, .ref q62, .int 0, .int 0, .ref q71, .ref q80, .ref q87, .null, .null, .int 0, .null, .null, .int 0, .int 0, .null, .null])), (q8, .inl (c8, 300, .inl (fun _ => 0))), (q15, .inl (c8, 3, .inl (fun _ => 0))), (q22, .inl (c8, 3, .inl (fun _ => 0))), (q39, .inl (c8, 4, .inl (fun _ => 0))), (q47, .inl (c8, 8, .inl (fun _ => 0))), (q55, .inl (c55, 8, .inl (fun _ => 0))), (q62, .inl (c8, 3, .inl (fun _ => 0))), (q71, .inl (c8, 600, .inl (fun _ => 0))), (q80, .inl (c8, 600, .inl (fun _ => 0))), (q87, .inl (c8, 4, .inl (fun _ => 0)))] H := hP
  have hD : va_D A [(h0, .inr (7, [.int 0, .int 0, .int 0, .ref q8, .int 0, .ref q15, .ref q22, .int 0, .int 1, .int (-1), .int 0, .int 0, .ref q39, .int 0, .ref q47, .ref q55, .int 0, .int 0, .ref q62, .int 0, .int 0, .ref q71, .ref q80, .ref q87, .null, .null, .int 0, .null, .null, .int 0, .int 0, .null, .null])), (q8, .inl (c8, 300, .inl (fun _ => 0))), (q15, .inl (c8, 3, .inl (fun _ => 0))), (q22, .inl (c8, 3, .inl (fun _ => 0))), (q39, .inl (c8, 4, .inl (fun _ => 0))), (q47, .inl (c8, 8, .inl (fun _ => 0))), (q55, .inl (c55, 8, .inl (fun _ => 0))), (q62, .inl (c8, 3, .inl (fun _ => 0))), (q71, .inl (c8, 600, .inl (fun _ => 0))), (q80, .inl (c8, 600, .inl (fun _ => 0))), (q87, .inl (c8, 4, .inl (fun _ => 0)))] := hD
  refine lv_aload_n hx hb d_M_init_92 rfl (lv_at hl 0 rfl) ?_
  refine lv_iconst (v := 4) hx hb d_M_init_93 (by decide) ?_
  refine va_newa (ty := .int) (a0 := (4, .inl (fun _ => 0))) (N' := 4) hx hb (htb _ k_48) rfl hK hP hD hS hA (fun _ => rfl) (by decide) rfl (by decide) (Nat.le_of_ble_eq_true rfl) (Nat.le_of_ble_eq_true rfl) d_M_init_94 (fun q94 c94 H hK hP hD hS => ?_)
  obtain rfl : c8 = c94 := ka_i hK 0 2 rfl rfl
  have hK := hK.sub (tys' := [(c8, .int), (c55, .boolean)]) [0, 1] rfl
  have hP : va_P (dC, dI) classes [(h0, .inr (7, [.int 0, .int 0, .int 0, .ref q8, .int 0, .ref q15, .ref q22, .int 0, .int 1, .int (-1), .int 0, .int 0, .ref q39, .int 0, .ref q47, .ref q55, .int 0, .int 0, .ref q62, .int 0, .int 0, .ref q71, .ref q80, .ref q87, .null, .null, .int 0, .null, .null, .int 0, .int 0, .null, .null])), (q8, .inl (c8, 300, .inl (fun _ => 0))), (q15, .inl (c8, 3, .inl (fun _ => 0))), (q22, .inl (c8, 3, .inl (fun _ => 0))), (q39, .inl (c8, 4, .inl (fun _ => 0))), (q47, .inl (c8, 8, .inl (fun _ => 0))), (q55, .inl (c55, 8, .inl (fun _ => 0))), (q62, .inl (c8, 3, .inl (fun _ => 0))), (q71, .inl (c8, 600, .inl (fun _ => 0))), (q80, .inl (c8, 600, .inl (fun _ => 0))), (q87, .inl (c8, 4, .inl (fun _ => 0))), (q94, .inl (c8, 4, .inl (fun _ => 0)))] H := hP
  have hD : va_D A [(h0, .inr (7, [.int 0, .int 0, .int 0, .ref q8, .int 0, .ref q15, .ref q22, .int 0, .int 1, .int (-1), .int 0, .int 0, .ref q39, .int 0, .ref q47, .ref q55, .int 0, .int 0, .ref q62, .int 0, .int 0, .ref q71, .ref q80, .ref q87, .null, .null, .int 0, .null, .null, .int 0, .int 0, .null, .null])), (q8, .inl (c8, 300, .inl (fun _ => 0))), (q15, .inl (c8, 3, .inl (fun _ => 0))), (q22, .inl (c8, 3, .inl (fun _ => 0))), (q39, .inl (c8, 4, .inl (fun _ => 0))), (q47, .inl (c8, 8, .inl (fun _ => 0))), (q55, .inl (c55, 8, .inl (fun _ => 0))), (q62, .inl (c8, 3, .inl (fun _ => 0))), (q71, .inl (c8, 600, .inl (fun _ => 0))), (q80, .inl (c8, 600, .inl (fun _ => 0))), (q87, .inl (c8, 4, .inl (fun _ => 0))), (q94, .inl (c8, 4, .inl (fun _ => 0)))] := hD
  have hK : va_K (dC, dI) classes [(c8, .int), (c55, .boolean)] s := hK
  refine va_putF (D := (dC, dI)) (ci := 7) (v := .ref q94) (ty := .array (.int)) (C := R_M) (T := F_M) (N := 33) hx hb htb in_M ft_M ft_M_ok n_M hown hK hP hD hS 0 rfl rfl 24 (by decide) (htb _ k_643) (fun _ h9 => h9) rfl hin rfl (by decide +kernel) rfl rfl (Nat.le_of_ble_eq_true rfl) d_M_init_96 (fun H locs hP hD hS => ?_)
  have hP : va_P (dC, dI) classes [(h0, .inr (7, [.int 0, .int 0, .int 0, .ref q8, .int 0, .ref q15, .ref q22, .int 0, .int 1, .int (-1), .int 0, .int 0, .ref q39, .int 0, .ref q47, .ref q55, .int 0, .int 0, .ref q62, .int 0, .int 0, .ref q71, .ref q80, .ref q87, .ref q94, .null, .int 0, .null, .null, .int 0, .int 0, .null, .null])), (q8, .inl (c8, 300, .inl (fun _ => 0))), (q15, .inl (c8, 3, .inl (fun _ => 0))), (q22, .inl (c8, 3, .inl (fun _ => 0))), (q39, .inl (c8, 4, .inl (fun _ => 0))), (q47, .inl (c8, 8, .inl (fun _ => 0))), (q55, .inl (c55, 8, .inl (fun _ => 0))), (q62, .inl (c8, 3, .inl (fun _ => 0))), (q71, .inl (c8, 600, .inl (fun _ => 0))), (q80, .inl (c8, 600, .inl (fun _ => 0))), (q87, .inl (c8, 4, .inl (fun _ => 0))), (q94, .inl (c8, 4, .inl (fun _ => 0)))] H := hP
  have hD : va_D A [(h0, .inr (7, [.int 0, .int 0, .int 0, .ref q8, .int 0, .ref q15, .ref q22, .int 0, .int 1, .int (-1), .int 0, .int 0, .ref q39, .int 0, .ref q47, .ref q55, .int 0, .int 0, .ref q62, .int 0, .int 0, .ref q71, .ref q80, .ref q87, .ref q94, .null, .int 0, .null, .null, .int 0, .int 0, .null, .null])), (q8, .inl (c8, 300, .inl (fun _ => 0))), (q15, .inl (c8, 3, .inl (fun _ => 0))), (q22, .inl (c8, 3, .inl (fun _ => 0))), (q39, .inl (c8, 4, .inl (fun _ => 0))), (q47, .inl (c8, 8, .inl (fun _ => 0))), (q55, .inl (c55, 8, .inl (fun _ => 0))), (q62, .inl (c8, 3, .inl (fun _ => 0))), (q71, .inl (c8, 600, .inl (fun _ => 0))), (q80, .inl (c8, 600, .inl (fun _ => 0))), (q87, .inl (c8, 4, .inl (fun _ => 0))), (q94, .inl (c8, 4, .inl (fun _ => 0)))] := hD
  refine lv_aload_n hx hb d_M_init_99 rfl (lv_at hl 0 rfl) ?_
  refine lv_iconst (v := 4) hx hb d_M_init_100 (by decide) ?_
  refine va_newa (ty := .int) (a0 := (4, .inl (fun _ => 0))) (N' := 4) hx hb (htb _ k_48) rfl hK hP hD hS hA (fun _ => rfl) (by decide) rfl (by decide) (Nat.le_of_ble_eq_true rfl) (Nat.le_of_ble_eq_true rfl) d_M_init_101 (fun q101 c101 H hK hP hD hS => ?_)
  obtain rfl : c8 = c101 := ka_i hK 0 2 rfl rfl
  have hK := hK.sub (tys' := [(c8, .int), (c55, .boolean)]) [0, 1] rfl
  have hP : va_P (dC, dI) classes [(h0, .inr (7, [.int 0, .int 0, .int 0, .ref q8, .int 0, .ref q15, .ref q22, .int 0, .int 1, .int (-1), .int 0, .int 0, .ref q39, .int 0, .ref q47, .ref q55, .int 0, .int 0, .ref q62, .int 0, .int 0, .ref q71, .ref q80, .ref q87, .ref q94, .null, .int 0, .null, .null, .int 0, .int 0, .null, .null])), (q8, .inl (c8, 300, .inl (fun _ => 0))), (q15, .inl (c8, 3, .inl (fun _ => 0))), (q22, .inl (c8, 3, .inl (fun _ => 0))), (q39, .inl (c8, 4, .inl (fun _ => 0))), (q47, .inl (c8, 8, .inl (fun _ => 0))), (q55, .inl (c55, 8, .inl (fun _ => 0))), (q62, .inl (c8, 3, .inl (fun _ => 0))), (q71, .inl (c8, 600, .inl (fun _ => 0))), (q80, .inl (c8, 600, .inl (fun _ => 0))), (q87, .inl (c8, 4, .inl (fun _ => 0))), (q94, .inl (c8, 4, .inl (fun _ => 0))), (q101, .inl (c8, 4, .inl (fun _ => 0)))] H := hP
  have hD : va_D A [(h0, .inr (7, [.int 0, .int 0, .int 0, .ref q8, .int 0, .ref q15, .ref q22, .int 0, .int 1, .int (-1), .int 0, .int 0, .ref q39, .int 0, .ref q47, .ref q55, .int 0, .int 0, .ref q62, .int 0, .int 0, .ref q71, .ref q80, .ref q87, .ref q94, .null, .int 0, .null, .null, .int 0, .int 0, .null, .null])), (q8, .inl (c8, 300, .inl (fun _ => 0))), (q15, .inl (c8, 3, .inl (fun _ => 0))), (q22, .inl (c8, 3, .inl (fun _ => 0))), (q39, .inl (c8, 4, .inl (fun _ => 0))), (q47, .inl (c8, 8, .inl (fun _ => 0))), (q55, .inl (c55, 8, .inl (fun _ => 0))), (q62, .inl (c8, 3, .inl (fun _ => 0))), (q71, .inl (c8, 600, .inl (fun _ => 0))), (q80, .inl (c8, 600, .inl (fun _ => 0))), (q87, .inl (c8, 4, .inl (fun _ => 0))), (q94, .inl (c8, 4, .inl (fun _ => 0))), (q101, .inl (c8, 4, .inl (fun _ => 0)))] := hD
  have hK : va_K (dC, dI) classes [(c8, .int), (c55, .boolean)] s := hK
  refine lv_dup hx hb d_M_init_103 rfl ?_
  refine lv_iconst (v := 0) hx hb d_M_init_104 (by decide) ?_
  refine lv_iconst (v := 0) hx hb d_M_init_105 (by decide) ?_
  refine va_iast (i := 0) (x := 0) hx hb hK hP hD hS 12 0 rfl rfl (inb_in (by decide)) d_M_init_106 (fun H locs hP hD hS => ?_)
  have hP : va_P (dC, dI) classes [(h0, .inr (7, [.int 0, .int 0, .int 0, .ref q8, .int 0, .ref q15, .ref q22, .int 0, .int 1, .int (-1), .int 0, .int 0, .ref q39, .int 0, .ref q47, .ref q55, .int 0, .int 0, .ref q62, .int 0, .int 0, .ref q71, .ref q80, .ref q87, .ref q94, .null, .int 0, .null, .null, .int 0, .int 0, .null, .null])), (q8, .inl (c8, 300, .inl (fun _ => 0))), (q15, .inl (c8, 3, .inl (fun _ => 0))), (q22, .inl (c8, 3, .inl (fun _ => 0))), (q39, .inl (c8, 4, .inl (fun _ => 0))), (q47, .inl (c8, 8, .inl (fun _ => 0))), (q55, .inl (c55, 8, .inl (fun _ => 0))), (q62, .inl (c8, 3, .inl (fun _ => 0))), (q71, .inl (c8, 600, .inl (fun _ => 0))), (q80, .inl (c8, 600, .inl (fun _ => 0))), (q87, .inl (c8, 4, .inl (fun _ => 0))), (q94, .inl (c8, 4, .inl (fun _ => 0))), (q101, .inl (c8, 4, .inl (upd (fun _ => 0) (0 : Int32).toNatClampNeg 0)))] H := hP
  have hD : va_D A [(h0, .inr (7, [.int 0, .int 0, .int 0, .ref q8, .int 0, .ref q15, .ref q22, .int 0, .int 1, .int (-1), .int 0, .int 0, .ref q39, .int 0, .ref q47, .ref q55, .int 0, .int 0, .ref q62, .int 0, .int 0, .ref q71, .ref q80, .ref q87, .ref q94, .null, .int 0, .null, .null, .int 0, .int 0, .null, .null])), (q8, .inl (c8, 300, .inl (fun _ => 0))), (q15, .inl (c8, 3, .inl (fun _ => 0))), (q22, .inl (c8, 3, .inl (fun _ => 0))), (q39, .inl (c8, 4, .inl (fun _ => 0))), (q47, .inl (c8, 8, .inl (fun _ => 0))), (q55, .inl (c55, 8, .inl (fun _ => 0))), (q62, .inl (c8, 3, .inl (fun _ => 0))), (q71, .inl (c8, 600, .inl (fun _ => 0))), (q80, .inl (c8, 600, .inl (fun _ => 0))), (q87, .inl (c8, 4, .inl (fun _ => 0))), (q94, .inl (c8, 4, .inl (fun _ => 0))), (q101, .inl (c8, 4, .inl (upd (fun _ => 0) (0 : Int32).toNatClampNeg 0)))] := hD
  refine lv_dup hx hb d_M_init_107 rfl ?_
  refine lv_iconst (v := 1) hx hb d_M_init_108 (by decide) ?_
  refine lv_iconst (v := 1) hx hb d_M_init_109 (by decide) ?_
  refine va_iast (i := 1) (x := 1) hx hb hK hP hD hS 12 0 rfl rfl (inb_in (by decide)) d_M_init_110 (fun H locs hP hD hS => ?_)
  have hP : va_P (dC, dI) classes [(h0, .inr (7, [.int 0, .int 0, .int 0, .ref q8, .int 0, .ref q15, .ref q22, .int 0, .int 1, .int (-1), .int 0, .int 0, .ref q39, .int 0, .ref q47, .ref q55, .int 0, .int 0, .ref q62, .int 0, .int 0, .ref q71, .ref q80, .ref q87, .ref q94, .null, .int 0, .null, .null, .int 0, .int 0, .null, .null])), (q8, .inl (c8, 300, .inl (fun _ => 0))), (q15, .inl (c8, 3, .inl (fun _ => 0))), (q22, .inl (c8, 3, .inl (fun _ => 0))), (q39, .inl (c8, 4, .inl (fun _ => 0))), (q47, .inl (c8, 8, .inl (fun _ => 0))), (q55, .inl (c55, 8, .inl (fun _ => 0))), (q62, .inl (c8, 3, .inl (fun _ => 0))), (q71, .inl (c8, 600, .inl (fun _ => 0))), (q80, .inl (c8, 600, .inl (fun _ => 0))), (q87, .inl (c8, 4, .inl (fun _ => 0))), (q94, .inl (c8, 4, .inl (fun _ => 0))), (q101, .inl (c8, 4, .inl (upd (upd (fun _ => 0) (0 : Int32).toNatClampNeg 0) (1 : Int32).toNatClampNeg 1)))] H := hP
  have hD : va_D A [(h0, .inr (7, [.int 0, .int 0, .int 0, .ref q8, .int 0, .ref q15, .ref q22, .int 0, .int 1, .int (-1), .int 0, .int 0, .ref q39, .int 0, .ref q47, .ref q55, .int 0, .int 0, .ref q62, .int 0, .int 0, .ref q71, .ref q80, .ref q87, .ref q94, .null, .int 0, .null, .null, .int 0, .int 0, .null, .null])), (q8, .inl (c8, 300, .inl (fun _ => 0))), (q15, .inl (c8, 3, .inl (fun _ => 0))), (q22, .inl (c8, 3, .inl (fun _ => 0))), (q39, .inl (c8, 4, .inl (fun _ => 0))), (q47, .inl (c8, 8, .inl (fun _ => 0))), (q55, .inl (c55, 8, .inl (fun _ => 0))), (q62, .inl (c8, 3, .inl (fun _ => 0))), (q71, .inl (c8, 600, .inl (fun _ => 0))), (q80, .inl (c8, 600, .inl (fun _ => 0))), (q87, .inl (c8, 4, .inl (fun _ => 0))), (q94, .inl (c8, 4, .inl (fun _ => 0))), (q101, .inl (c8, 4, .inl (upd (upd (fun _ => 0) (0 : Int32).toNatClampNeg 0) (1 : Int32).toNatClampNeg 1)))] := hD
  refine lv_dup hx hb d_M_init_111 rfl ?_
  refine lv_iconst (v := 2) hx hb d_M_init_112 (by decide) ?_
  refine lv_iconst (v := 2) hx hb d_M_init_113 (by decide) ?_
  refine va_iast (i := 2) (x := 2) hx hb hK hP hD hS 12 0 rfl rfl (inb_in (by decide)) d_M_init_114 (fun H locs hP hD hS => ?_)
  have hP : va_P (dC, dI) classes [(h0, .inr (7, [.int 0, .int 0, .int 0, .ref q8, .int 0, .ref q15, .ref q22, .int 0, .int 1, .int (-1), .int 0, .int 0, .ref q39, .int 0, .ref q47, .ref q55, .int 0, .int 0, .ref q62, .int 0, .int 0, .ref q71, .ref q80, .ref q87, .ref q94, .null, .int 0, .null, .null, .int 0, .int 0, .null, .null])), (q8, .inl (c8, 300, .inl (fun _ => 0))), (q15, .inl (c8, 3, .inl (fun _ => 0))), (q22, .inl (c8, 3, .inl (fun _ => 0))), (q39, .inl (c8, 4, .inl (fun _ => 0))), (q47, .inl (c8, 8, .inl (fun _ => 0))), (q55, .inl (c55, 8, .inl (fun _ => 0))), (q62, .inl (c8, 3, .inl (fun _ => 0))), (q71, .inl (c8, 600, .inl (fun _ => 0))), (q80, .inl (c8, 600, .inl (fun _ => 0))), (q87, .inl (c8, 4, .inl (fun _ => 0))), (q94, .inl (c8, 4, .inl (fun _ => 0))), (q101, .inl (c8, 4, .inl (upd (upd (upd (fun _ => 0) (0 : Int32).toNatClampNeg 0) (1 : Int32).toNatClampNeg 1) (2 : Int32).toNatClampNeg 2)))] H := hP
  have hD : va_D A [(h0, .inr (7, [.int 0, .int 0, .int 0, .ref q8, .int 0, .ref q15, .ref q22, .int 0, .int 1, .int (-1), .int 0, .int 0, .ref q39, .int 0, .ref q47, .ref q55, .int 0, .int 0, .ref q62, .int 0, .int 0, .ref q71, .ref q80, .ref q87, .ref q94, .null, .int 0, .null, .null, .int 0, .int 0, .null, .null])), (q8, .inl (c8, 300, .inl (fun _ => 0))), (q15, .inl (c8, 3, .inl (fun _ => 0))), (q22, .inl (c8, 3, .inl (fun _ => 0))), (q39, .inl (c8, 4, .inl (fun _ => 0))), (q47, .inl (c8, 8, .inl (fun _ => 0))), (q55, .inl (c55, 8, .inl (fun _ => 0))), (q62, .inl (c8, 3, .inl (fun _ => 0))), (q71, .inl (c8, 600, .inl (fun _ => 0))), (q80, .inl (c8, 600, .inl (fun _ => 0))), (q87, .inl (c8, 4, .inl (fun _ => 0))), (q94, .inl (c8, 4, .inl (fun _ => 0))), (q101, .inl (c8, 4, .inl (upd (upd (upd (fun _ => 0) (0 : Int32).toNatClampNeg 0) (1 : Int32).toNatClampNeg 1) (2 : Int32).toNatClampNeg 2)))] := hD
  refine lv_dup hx hb d_M_init_115 rfl ?_
  refine lv_iconst (v := 3) hx hb d_M_init_116 (by decide) ?_
  refine lv_iconst (v := 3) hx hb d_M_init_117 (by decide) ?_
  refine va_iast (i := 3) (x := 3) hx hb hK hP hD hS 12 0 rfl rfl (inb_in (by decide)) d_M_init_118 (fun H locs hP hD hS => ?_)
  have hP : va_P (dC, dI) classes [(h0, .inr (7, [.int 0, .int 0, .int 0, .ref q8, .int 0, .ref q15, .ref q22, .int 0, .int 1, .int (-1), .int 0, .int 0, .ref q39, .int 0, .ref q47, .ref q55, .int 0, .int 0, .ref q62, .int 0, .int 0, .ref q71, .ref q80, .ref q87, .ref q94, .null, .int 0, .null, .null, .int 0, .int 0, .null, .null])), (q8, .inl (c8, 300, .inl (fun _ => 0))), (q15, .inl (c8, 3, .inl (fun _ => 0))), (q22, .inl (c8, 3, .inl (fun _ => 0))), (q39, .inl (c8, 4, .inl (fun _ => 0))), (q47, .inl (c8, 8, .inl (fun _ => 0))), (q55, .inl (c55, 8, .inl (fun _ => 0))), (q62, .inl (c8, 3, .inl (fun _ => 0))), (q71, .inl (c8, 600, .inl (fun _ => 0))), (q80, .inl (c8, 600, .inl (fun _ => 0))), (q87, .inl (c8, 4, .inl (fun _ => 0))), (q94, .inl (c8, 4, .inl (fun _ => 0))), (q101, .inl (c8, 4, .inl (upd (upd (upd (upd (fun _ => 0) (0 : Int32).toNatClampNeg 0) (1 : Int32).toNatClampNeg 1) (2 : Int32).toNatClampNeg 2) (3 : Int32).toNatClampNeg 3)))] H := hP
  have hD : va_D A [(h0, .inr (7, [.int 0, .int 0, .int 0, .ref q8, .int 0, .ref q15, .ref q22, .int 0, .int 1, .int (-1), .int 0, .int 0, .ref q39, .int 0, .ref q47, .ref q55, .int 0, .int 0, .ref q62, .int 0, .int 0, .ref q71, .ref q80, .ref q87, .ref q94, .null, .int 0, .null, .null, .int 0, .int 0, .null, .null])), (q8, .inl (c8, 300, .inl (fun _ => 0))), (q15, .inl (c8, 3, .inl (fun _ => 0))), (q22, .inl (c8, 3, .inl (fun _ => 0))), (q39, .inl (c8, 4, .inl (fun _ => 0))), (q47, .inl (c8, 8, .inl (fun _ => 0))), (q55, .inl (c55, 8, .inl (fun _ => 0))), (q62, .inl (c8, 3, .inl (fun _ => 0))), (q71, .inl (c8, 600, .inl (fun _ => 0))), (q80, .inl (c8, 600, .inl (fun _ => 0))), (q87, .inl (c8, 4, .inl (fun _ => 0))), (q94, .inl (c8, 4, .inl (fun _ => 0))), (q101, .inl (c8, 4, .inl (upd (upd (upd (upd (fun _ => 0) (0 : Int32).toNatClampNeg 0) (1 : Int32).toNatClampNeg 1) (2 : Int32).toNatClampNeg 2) (3 : Int32).toNatClampNeg 3)))] := hD
  refine va_putF (D := (dC, dI)) (ci := 7) (v := .ref q101) (ty := .array (.int)) (C := R_M) (T := F_M) (N := 33) hx hb htb in_M ft_M ft_M_ok n_M hown hK hP hD hS 0 rfl rfl 25 (by decide) (htb _ k_644) (fun _ h9 => h9) rfl hin rfl (by decide +kernel) rfl rfl (Nat.le_of_ble_eq_true rfl) d_M_init_119 (fun H locs hP hD hS => ?_)
  have hP : va_P (dC, dI) classes [(h0, .inr (7, [.int 0, .int 0, .int 0, .ref q8, .int 0, .ref q15, .ref q22, .int 0, .int 1, .int (-1), .int 0, .int 0, .ref q39, .int 0, .ref q47, .ref q55, .int 0, .int 0, .ref q62, .int 0, .int 0, .ref q71, .ref q80, .ref q87, .ref q94, .ref q101, .int 0, .null, .null, .int 0, .int 0, .null, .null])), (q8, .inl (c8, 300, .inl (fun _ => 0))), (q15, .inl (c8, 3, .inl (fun _ => 0))), (q22, .inl (c8, 3, .inl (fun _ => 0))), (q39, .inl (c8, 4, .inl (fun _ => 0))), (q47, .inl (c8, 8, .inl (fun _ => 0))), (q55, .inl (c55, 8, .inl (fun _ => 0))), (q62, .inl (c8, 3, .inl (fun _ => 0))), (q71, .inl (c8, 600, .inl (fun _ => 0))), (q80, .inl (c8, 600, .inl (fun _ => 0))), (q87, .inl (c8, 4, .inl (fun _ => 0))), (q94, .inl (c8, 4, .inl (fun _ => 0))), (q101, .inl (c8, 4, .inl (upd (upd (upd (upd (fun _ => 0) (0 : Int32).toNatClampNeg 0) (1 : Int32).toNatClampNeg 1) (2 : Int32).toNatClampNeg 2) (3 : Int32).toNatClampNeg 3)))] H := hP
  have hD : va_D A [(h0, .inr (7, [.int 0, .int 0, .int 0, .ref q8, .int 0, .ref q15, .ref q22, .int 0, .int 1, .int (-1), .int 0, .int 0, .ref q39, .int 0, .ref q47, .ref q55, .int 0, .int 0, .ref q62, .int 0, .int 0, .ref q71, .ref q80, .ref q87, .ref q94, .ref q101, .int 0, .null, .null, .int 0, .int 0, .null, .null])), (q8, .inl (c8, 300, .inl (fun _ => 0))), (q15, .inl (c8, 3, .inl (fun _ => 0))), (q22, .inl (c8, 3, .inl (fun _ => 0))), (q39, .inl (c8, 4, .inl (fun _ => 0))), (q47, .inl (c8, 8, .inl (fun _ => 0))), (q55, .inl (c55, 8, .inl (fun _ => 0))), (q62, .inl (c8, 3, .inl (fun _ => 0))), (q71, .inl (c8, 600, .inl (fun _ => 0))), (q80, .inl (c8, 600, .inl (fun _ => 0))), (q87, .inl (c8, 4, .inl (fun _ => 0))), (q94, .inl (c8, 4, .inl (fun _ => 0))), (q101, .inl (c8, 4, .inl (upd (upd (upd (upd (fun _ => 0) (0 : Int32).toNatClampNeg 0) (1 : Int32).toNatClampNeg 1) (2 : Int32).toNatClampNeg 2) (3 : Int32).toNatClampNeg 3)))] := hD
  refine lv_aload_n hx hb d_M_init_122 rfl (lv_at hl 0 rfl) ?_
  refine lv_bipush (v := 8) hx hb d_M_init_123 (by decide) ?_
  refine va_newa (ty := .int) (a0 := (8, .inl (fun _ => 0))) (N' := 8) hx hb (htb _ k_48) rfl hK hP hD hS hA (fun _ => rfl) (by decide) rfl (by decide) (Nat.le_of_ble_eq_true rfl) (Nat.le_of_ble_eq_true rfl) d_M_init_125 (fun q125 c125 H hK hP hD hS => ?_)
  obtain rfl : c8 = c125 := ka_i hK 0 2 rfl rfl
  have hK := hK.sub (tys' := [(c8, .int), (c55, .boolean)]) [0, 1] rfl
  have hP : va_P (dC, dI) classes [(h0, .inr (7, [.int 0, .int 0, .int 0, .ref q8, .int 0, .ref q15, .ref q22, .int 0, .int 1, .int (-1), .int 0, .int 0, .ref q39, .int 0, .ref q47, .ref q55, .int 0, .int 0, .ref q62, .int 0, .int 0, .ref q71, .ref q80, .ref q87, .ref q94, .ref q101, .int 0, .null, .null, .int 0, .int 0, .null, .null])), (q8, .inl (c8, 300, .inl (fun _ => 0))), (q15, .inl (c8, 3, .inl (fun _ => 0))), (q22, .inl (c8, 3, .inl (fun _ => 0))), (q39, .inl (c8, 4, .inl (fun _ => 0))), (q47, .inl (c8, 8, .inl (fun _ => 0))), (q55, .inl (c55, 8, .inl (fun _ => 0))), (q62, .inl (c8, 3, .inl (fun _ => 0))), (q71, .inl (c8, 600, .inl (fun _ => 0))), (q80, .inl (c8, 600, .inl (fun _ => 0))), (q87, .inl (c8, 4, .inl (fun _ => 0))), (q94, .inl (c8, 4, .inl (fun _ => 0))), (q101, .inl (c8, 4, .inl (upd (upd (upd (upd (fun _ => 0) (0 : Int32).toNatClampNeg 0) (1 : Int32).toNatClampNeg 1) (2 : Int32).toNatClampNeg 2) (3 : Int32).toNatClampNeg 3))), (q125, .inl (c8, 8, .inl (fun _ => 0)))] H := hP
  have hD : va_D A [(h0, .inr (7, [.int 0, .int 0, .int 0, .ref q8, .int 0, .ref q15, .ref q22, .int 0, .int 1, .int (-1), .int 0, .int 0, .ref q39, .int 0, .ref q47, .ref q55, .int 0, .int 0, .ref q62, .int 0, .int 0, .ref q71, .ref q80, .ref q87, .ref q94, .ref q101, .int 0, .null, .null, .int 0, .int 0, .null, .null])), (q8, .inl (c8, 300, .inl (fun _ => 0))), (q15, .inl (c8, 3, .inl (fun _ => 0))), (q22, .inl (c8, 3, .inl (fun _ => 0))), (q39, .inl (c8, 4, .inl (fun _ => 0))), (q47, .inl (c8, 8, .inl (fun _ => 0))), (q55, .inl (c55, 8, .inl (fun _ => 0))), (q62, .inl (c8, 3, .inl (fun _ => 0))), (q71, .inl (c8, 600, .inl (fun _ => 0))), (q80, .inl (c8, 600, .inl (fun _ => 0))), (q87, .inl (c8, 4, .inl (fun _ => 0))), (q94, .inl (c8, 4, .inl (fun _ => 0))), (q101, .inl (c8, 4, .inl (upd (upd (upd (upd (fun _ => 0) (0 : Int32).toNatClampNeg 0) (1 : Int32).toNatClampNeg 1) (2 : Int32).toNatClampNeg 2) (3 : Int32).toNatClampNeg 3))), (q125, .inl (c8, 8, .inl (fun _ => 0)))] := hD
  have hK : va_K (dC, dI) classes [(c8, .int), (c55, .boolean)] s := hK
  refine va_putF (D := (dC, dI)) (ci := 7) (v := .ref q125) (ty := .array (.int)) (C := R_M) (T := F_M) (N := 33) hx hb htb in_M ft_M ft_M_ok n_M hown hK hP hD hS 0 rfl rfl 27 (by decide) (htb _ k_646) (fun _ h9 => h9) rfl hin rfl (by decide +kernel) rfl rfl (Nat.le_of_ble_eq_true rfl) d_M_init_127 (fun H locs hP hD hS => ?_)
  have hP : va_P (dC, dI) classes [(h0, .inr (7, [.int 0, .int 0, .int 0, .ref q8, .int 0, .ref q15, .ref q22, .int 0, .int 1, .int (-1), .int 0, .int 0, .ref q39, .int 0, .ref q47, .ref q55, .int 0, .int 0, .ref q62, .int 0, .int 0, .ref q71, .ref q80, .ref q87, .ref q94, .ref q101, .int 0, .ref q125, .null, .int 0, .int 0, .null, .null])), (q8, .inl (c8, 300, .inl (fun _ => 0))), (q15, .inl (c8, 3, .inl (fun _ => 0))), (q22, .inl (c8, 3, .inl (fun _ => 0))), (q39, .inl (c8, 4, .inl (fun _ => 0))), (q47, .inl (c8, 8, .inl (fun _ => 0))), (q55, .inl (c55, 8, .inl (fun _ => 0))), (q62, .inl (c8, 3, .inl (fun _ => 0))), (q71, .inl (c8, 600, .inl (fun _ => 0))), (q80, .inl (c8, 600, .inl (fun _ => 0))), (q87, .inl (c8, 4, .inl (fun _ => 0))), (q94, .inl (c8, 4, .inl (fun _ => 0))), (q101, .inl (c8, 4, .inl (upd (upd (upd (upd (fun _ => 0) (0 : Int32).toNatClampNeg 0) (1 : Int32).toNatClampNeg 1) (2 : Int32).toNatClampNeg 2) (3 : Int32).toNatClampNeg 3))), (q125, .inl (c8, 8, .inl (fun _ => 0)))] H := hP
  have hD : va_D A [(h0, .inr (7, [.int 0, .int 0, .int 0, .ref q8, .int 0, .ref q15, .ref q22, .int 0, .int 1, .int (-1), .int 0, .int 0, .ref q39, .int 0, .ref q47, .ref q55, .int 0, .int 0, .ref q62, .int 0, .int 0, .ref q71, .ref q80, .ref q87, .ref q94, .ref q101, .int 0, .ref q125, .null, .int 0, .int 0, .null, .null])), (q8, .inl (c8, 300, .inl (fun _ => 0))), (q15, .inl (c8, 3, .inl (fun _ => 0))), (q22, .inl (c8, 3, .inl (fun _ => 0))), (q39, .inl (c8, 4, .inl (fun _ => 0))), (q47, .inl (c8, 8, .inl (fun _ => 0))), (q55, .inl (c55, 8, .inl (fun _ => 0))), (q62, .inl (c8, 3, .inl (fun _ => 0))), (q71, .inl (c8, 600, .inl (fun _ => 0))), (q80, .inl (c8, 600, .inl (fun _ => 0))), (q87, .inl (c8, 4, .inl (fun _ => 0))), (q94, .inl (c8, 4, .inl (fun _ => 0))), (q101, .inl (c8, 4, .inl (upd (upd (upd (upd (fun _ => 0) (0 : Int32).toNatClampNeg 0) (1 : Int32).toNatClampNeg 1) (2 : Int32).toNatClampNeg 2) (3 : Int32).toNatClampNeg 3))), (q125, .inl (c8, 8, .inl (fun _ => 0)))] := hD
  refine lv_aload_n hx hb d_M_init_130 rfl (lv_at hl 0 rfl) ?_
  refine lv_bipush (v := 8) hx hb d_M_init_131 (by decide) ?_
  refine va_newa (ty := .boolean) (a0 := (8, .inl (fun _ => 0))) (N' := 8) hx hb (htb _ k_123) rfl hK hP hD hS hA (fun _ => rfl) (by decide) rfl (by decide) (Nat.le_of_ble_eq_true rfl) (Nat.le_of_ble_eq_true rfl) d_M_init_133 (fun q133 c133 H hK hP hD hS => ?_)
  obtain rfl : c55 = c133 := ka_z hK 1 2 rfl rfl
  have hK := hK.sub (tys' := [(c8, .int), (c55, .boolean)]) [0, 1] rfl
  have hP : va_P (dC, dI) classes [(h0, .inr (7, [.int 0, .int 0, .int 0, .ref q8, .int 0, .ref q15, .ref q22, .int 0, .int 1, .int (-1), .int 0, .int 0, .ref q39, .int 0, .ref q47, .ref q55, .int 0, .int 0, .ref q62, .int 0, .int 0, .ref q71, .ref q80, .ref q87, .ref q94, .ref q101, .int 0, .ref q125, .null, .int 0, .int 0, .null, .null])), (q8, .inl (c8, 300, .inl (fun _ => 0))), (q15, .inl (c8, 3, .inl (fun _ => 0))), (q22, .inl (c8, 3, .inl (fun _ => 0))), (q39, .inl (c8, 4, .inl (fun _ => 0))), (q47, .inl (c8, 8, .inl (fun _ => 0))), (q55, .inl (c55, 8, .inl (fun _ => 0))), (q62, .inl (c8, 3, .inl (fun _ => 0))), (q71, .inl (c8, 600, .inl (fun _ => 0))), (q80, .inl (c8, 600, .inl (fun _ => 0))), (q87, .inl (c8, 4, .inl (fun _ => 0))), (q94, .inl (c8, 4, .inl (fun _ => 0))), (q101, .inl (c8, 4, .inl (upd (upd (upd (upd (fun _ => 0) (0 : Int32).toNatClampNeg 0) (1 : Int32).toNatClampNeg 1) (2 : Int32).toNatClampNeg 2) (3 : Int32).toNatClampNeg 3))), (q125, .inl (c8, 8, .inl (fun _ => 0))), (q133, .inl (c55, 8, .inl (fun _ => 0)))] H := hP
  have hD : va_D A [(h0, .inr (7, [.int 0, .int 0, .int 0, .ref q8, .int 0, .ref q15, .ref q22, .int 0, .int 1, .int (-1), .int 0, .int 0, .ref q39, .int 0, .ref q47, .ref q55, .int 0, .int 0, .ref q62, .int 0, .int 0, .ref q71, .ref q80, .ref q87, .ref q94, .ref q101, .int 0, .ref q125, .null, .int 0, .int 0, .null, .null])), (q8, .inl (c8, 300, .inl (fun _ => 0))), (q15, .inl (c8, 3, .inl (fun _ => 0))), (q22, .inl (c8, 3, .inl (fun _ => 0))), (q39, .inl (c8, 4, .inl (fun _ => 0))), (q47, .inl (c8, 8, .inl (fun _ => 0))), (q55, .inl (c55, 8, .inl (fun _ => 0))), (q62, .inl (c8, 3, .inl (fun _ => 0))), (q71, .inl (c8, 600, .inl (fun _ => 0))), (q80, .inl (c8, 600, .inl (fun _ => 0))), (q87, .inl (c8, 4, .inl (fun _ => 0))), (q94, .inl (c8, 4, .inl (fun _ => 0))), (q101, .inl (c8, 4, .inl (upd (upd (upd (upd (fun _ => 0) (0 : Int32).toNatClampNeg 0) (1 : Int32).toNatClampNeg 1) (2 : Int32).toNatClampNeg 2) (3 : Int32).toNatClampNeg 3))), (q125, .inl (c8, 8, .inl (fun _ => 0))), (q133, .inl (c55, 8, .inl (fun _ => 0)))] := hD
  have hK : va_K (dC, dI) classes [(c8, .int), (c55, .boolean)] s := hK
  refine va_putF (D := (dC, dI)) (ci := 7) (v := .ref q133) (ty := .array (.boolean)) (C := R_M) (T := F_M) (N := 33) hx hb htb in_M ft_M ft_M_ok n_M hown hK hP hD hS 0 rfl rfl 28 (by decide) (htb _ k_647) (fun _ h9 => h9) rfl hin rfl (by decide +kernel) rfl rfl (Nat.le_of_ble_eq_true rfl) d_M_init_135 (fun H locs hP hD hS => ?_)
  have hP : va_P (dC, dI) classes [(h0, .inr (7, [.int 0, .int 0, .int 0, .ref q8, .int 0, .ref q15, .ref q22, .int 0, .int 1, .int (-1), .int 0, .int 0, .ref q39, .int 0, .ref q47, .ref q55, .int 0, .int 0, .ref q62, .int 0, .int 0, .ref q71, .ref q80, .ref q87, .ref q94, .ref q101, .int 0, .ref q125, .ref q133, .int 0, .int 0, .null, .null])), (q8, .inl (c8, 300, .inl (fun _ => 0))), (q15, .inl (c8, 3, .inl (fun _ => 0))), (q22, .inl (c8, 3, .inl (fun _ => 0))), (q39, .inl (c8, 4, .inl (fun _ => 0))), (q47, .inl (c8, 8, .inl (fun _ => 0))), (q55, .inl (c55, 8, .inl (fun _ => 0))), (q62, .inl (c8, 3, .inl (fun _ => 0))), (q71, .inl (c8, 600, .inl (fun _ => 0))), (q80, .inl (c8, 600, .inl (fun _ => 0))), (q87, .inl (c8, 4, .inl (fun _ => 0))), (q94, .inl (c8, 4, .inl (fun _ => 0))), (q101, .inl (c8, 4, .inl (upd (upd (upd (upd (fun _ => 0) (0 : Int32).toNatClampNeg 0) (1 : Int32).toNatClampNeg 1) (2 : Int32).toNatClampNeg 2) (3 : Int32).toNatClampNeg 3))), (q125, .inl (c8, 8, .inl (fun _ => 0))), (q133, .inl (c55, 8, .inl (fun _ => 0)))] H := hP
  have hD : va_D A [(h0, .inr (7, [.int 0, .int 0, .int 0, .ref q8, .int 0, .ref q15, .ref q22, .int 0, .int 1, .int (-1), .int 0, .int 0, .ref q39, .int 0, .ref q47, .ref q55, .int 0, .int 0, .ref q62, .int 0, .int 0, .ref q71, .ref q80, .ref q87, .ref q94, .ref q101, .int 0, .ref q125, .ref q133, .int 0, .int 0, .null, .null])), (q8, .inl (c8, 300, .inl (fun _ => 0))), (q15, .inl (c8, 3, .inl (fun _ => 0))), (q22, .inl (c8, 3, .inl (fun _ => 0))), (q39, .inl (c8, 4, .inl (fun _ => 0))), (q47, .inl (c8, 8, .inl (fun _ => 0))), (q55, .inl (c55, 8, .inl (fun _ => 0))), (q62, .inl (c8, 3, .inl (fun _ => 0))), (q71, .inl (c8, 600, .inl (fun _ => 0))), (q80, .inl (c8, 600, .inl (fun _ => 0))), (q87, .inl (c8, 4, .inl (fun _ => 0))), (q94, .inl (c8, 4, .inl (fun _ => 0))), (q101, .inl (c8, 4, .inl (upd (upd (upd (upd (fun _ => 0) (0 : Int32).toNatClampNeg 0) (1 : Int32).toNatClampNeg 1) (2 : Int32).toNatClampNeg 2) (3 : Int32).toNatClampNeg 3))), (q125, .inl (c8, 8, .inl (fun _ => 0))), (q133, .inl (c55, 8, .inl (fun _ => 0)))] := hD
  refine lv_aload_n hx hb d_M_init_138 rfl (lv_at hl 0 rfl) ?_
  refine lv_sipush (v := 150) hx hb d_M_init_139 (by decide) ?_
  refine va_newa (ty := .int) (a0 := (150, .inl (fun _ => 0))) (N' := 150) hx hb (htb _ k_48) rfl hK hP hD hS hA (fun _ => rfl) (by decide) rfl (by decide) (Nat.le_of_ble_eq_true rfl) (Nat.le_of_ble_eq_true rfl) d_M_init_142 (fun q142 c142 H hK hP hD hS => ?_)
  obtain rfl : c8 = c142 := ka_i hK 0 2 rfl rfl
  have hK := hK.sub (tys' := [(c8, .int), (c55, .boolean)]) [0, 1] rfl
  have hP : va_P (dC, dI) classes [(h0, .inr (7, [.int 0, .int 0, .int 0, .ref q8, .int 0, .ref q15, .ref q22, .int 0, .int 1, .int (-1), .int 0, .int 0, .ref q39, .int 0, .ref q47, .ref q55, .int 0, .int 0, .ref q62, .int 0, .int 0, .ref q71, .ref q80, .ref q87, .ref q94, .ref q101, .int 0, .ref q125, .ref q133, .int 0, .int 0, .null, .null])), (q8, .inl (c8, 300, .inl (fun _ => 0))), (q15, .inl (c8, 3, .inl (fun _ => 0))), (q22, .inl (c8, 3, .inl (fun _ => 0))), (q39, .inl (c8, 4, .inl (fun _ => 0))), (q47, .inl (c8, 8, .inl (fun _ => 0))), (q55, .inl (c55, 8, .inl (fun _ => 0))), (q62, .inl (c8, 3, .inl (fun _ => 0))), (q71, .inl (c8, 600, .inl (fun _ => 0))), (q80, .inl (c8, 600, .inl (fun _ => 0))), (q87, .inl (c8, 4, .inl (fun _ => 0))), (q94, .inl (c8, 4, .inl (fun _ => 0))), (q101, .inl (c8, 4, .inl (upd (upd (upd (upd (fun _ => 0) (0 : Int32).toNatClampNeg 0) (1 : Int32).toNatClampNeg 1) (2 : Int32).toNatClampNeg 2) (3 : Int32).toNatClampNeg 3))), (q125, .inl (c8, 8, .inl (fun _ => 0))), (q133, .inl (c55, 8, .inl (fun _ => 0))), (q142, .inl (c8, 150, .inl (fun _ => 0)))] H := hP
  have hD : va_D A [(h0, .inr (7, [.int 0, .int 0, .int 0, .ref q8, .int 0, .ref q15, .ref q22, .int 0, .int 1, .int (-1), .int 0, .int 0, .ref q39, .int 0, .ref q47, .ref q55, .int 0, .int 0, .ref q62, .int 0, .int 0, .ref q71, .ref q80, .ref q87, .ref q94, .ref q101, .int 0, .ref q125, .ref q133, .int 0, .int 0, .null, .null])), (q8, .inl (c8, 300, .inl (fun _ => 0))), (q15, .inl (c8, 3, .inl (fun _ => 0))), (q22, .inl (c8, 3, .inl (fun _ => 0))), (q39, .inl (c8, 4, .inl (fun _ => 0))), (q47, .inl (c8, 8, .inl (fun _ => 0))), (q55, .inl (c55, 8, .inl (fun _ => 0))), (q62, .inl (c8, 3, .inl (fun _ => 0))), (q71, .inl (c8, 600, .inl (fun _ => 0))), (q80, .inl (c8, 600, .inl (fun _ => 0))), (q87, .inl (c8, 4, .inl (fun _ => 0))), (q94, .inl (c8, 4, .inl (fun _ => 0))), (q101, .inl (c8, 4, .inl (upd (upd (upd (upd (fun _ => 0) (0 : Int32).toNatClampNeg 0) (1 : Int32).toNatClampNeg 1) (2 : Int32).toNatClampNeg 2) (3 : Int32).toNatClampNeg 3))), (q125, .inl (c8, 8, .inl (fun _ => 0))), (q133, .inl (c55, 8, .inl (fun _ => 0))), (q142, .inl (c8, 150, .inl (fun _ => 0)))] := hD
  have hK : va_K (dC, dI) classes [(c8, .int), (c55, .boolean)] s := hK
  refine va_putF (D := (dC, dI)) (ci := 7) (v := .ref q142) (ty := .array (.int)) (C := R_M) (T := F_M) (N := 33) hx hb htb in_M ft_M ft_M_ok n_M hown hK hP hD hS 0 rfl rfl 31 (by decide) (htb _ k_650) (fun _ h9 => h9) rfl hin rfl (by decide +kernel) rfl rfl (Nat.le_of_ble_eq_true rfl) d_M_init_144 (fun H locs hP hD hS => ?_)
  have hP : va_P (dC, dI) classes [(h0, .inr (7, [.int 0, .int 0, .int 0, .ref q8, .int 0, .ref q15, .ref q22, .int 0, .int 1, .int (-1), .int 0, .int 0, .ref q39, .int 0, .ref q47, .ref q55, .int 0, .int 0, .ref q62, .int 0, .int 0, .ref q71, .ref q80, .ref q87, .ref q94, .ref q101, .int 0, .ref q125, .ref q133, .int 0, .int 0, .ref q142, .null])), (q8, .inl (c8, 300, .inl (fun _ => 0))), (q15, .inl (c8, 3, .inl (fun _ => 0))), (q22, .inl (c8, 3, .inl (fun _ => 0))), (q39, .inl (c8, 4, .inl (fun _ => 0))), (q47, .inl (c8, 8, .inl (fun _ => 0))), (q55, .inl (c55, 8, .inl (fun _ => 0))), (q62, .inl (c8, 3, .inl (fun _ => 0))), (q71, .inl (c8, 600, .inl (fun _ => 0))), (q80, .inl (c8, 600, .inl (fun _ => 0))), (q87, .inl (c8, 4, .inl (fun _ => 0))), (q94, .inl (c8, 4, .inl (fun _ => 0))), (q101, .inl (c8, 4, .inl (upd (upd (upd (upd (fun _ => 0) (0 : Int32).toNatClampNeg 0) (1 : Int32).toNatClampNeg 1) (2 : Int32).toNatClampNeg 2) (3 : Int32).toNatClampNeg 3))), (q125, .inl (c8, 8, .inl (fun _ => 0))), (q133, .inl (c55, 8, .inl (fun _ => 0))), (q142, .inl (c8, 150, .inl (fun _ => 0)))] H := hP
  have hD : va_D A [(h0, .inr (7, [.int 0, .int 0, .int 0, .ref q8, .int 0, .ref q15, .ref q22, .int 0, .int 1, .int (-1), .int 0, .int 0, .ref q39, .int 0, .ref q47, .ref q55, .int 0, .int 0, .ref q62, .int 0, .int 0, .ref q71, .ref q80, .ref q87, .ref q94, .ref q101, .int 0, .ref q125, .ref q133, .int 0, .int 0, .ref q142, .null])), (q8, .inl (c8, 300, .inl (fun _ => 0))), (q15, .inl (c8, 3, .inl (fun _ => 0))), (q22, .inl (c8, 3, .inl (fun _ => 0))), (q39, .inl (c8, 4, .inl (fun _ => 0))), (q47, .inl (c8, 8, .inl (fun _ => 0))), (q55, .inl (c55, 8, .inl (fun _ => 0))), (q62, .inl (c8, 3, .inl (fun _ => 0))), (q71, .inl (c8, 600, .inl (fun _ => 0))), (q80, .inl (c8, 600, .inl (fun _ => 0))), (q87, .inl (c8, 4, .inl (fun _ => 0))), (q94, .inl (c8, 4, .inl (fun _ => 0))), (q101, .inl (c8, 4, .inl (upd (upd (upd (upd (fun _ => 0) (0 : Int32).toNatClampNeg 0) (1 : Int32).toNatClampNeg 1) (2 : Int32).toNatClampNeg 2) (3 : Int32).toNatClampNeg 3))), (q125, .inl (c8, 8, .inl (fun _ => 0))), (q133, .inl (c55, 8, .inl (fun _ => 0))), (q142, .inl (c8, 150, .inl (fun _ => 0)))] := hD
  refine lv_aload_n hx hb d_M_init_147 rfl (lv_at hl 0 rfl) ?_
  refine lv_iconst (v := 3) hx hb d_M_init_148 (by decide) ?_
  refine va_newa (ty := .int) (a0 := (3, .inl (fun _ => 0))) (N' := 3) hx hb (htb _ k_48) rfl hK hP hD hS hA (fun _ => rfl) (by decide) rfl (by decide) (Nat.le_of_ble_eq_true rfl) (Nat.le_of_ble_eq_true rfl) d_M_init_149 (fun q149 c149 H hK hP hD hS => ?_)
  obtain rfl : c8 = c149 := ka_i hK 0 2 rfl rfl
  have hK := hK.sub (tys' := [(c8, .int), (c55, .boolean)]) [0, 1] rfl
  have hP : va_P (dC, dI) classes [(h0, .inr (7, [.int 0, .int 0, .int 0, .ref q8, .int 0, .ref q15, .ref q22, .int 0, .int 1, .int (-1), .int 0, .int 0, .ref q39, .int 0, .ref q47, .ref q55, .int 0, .int 0, .ref q62, .int 0, .int 0, .ref q71, .ref q80, .ref q87, .ref q94, .ref q101, .int 0, .ref q125, .ref q133, .int 0, .int 0, .ref q142, .null])), (q8, .inl (c8, 300, .inl (fun _ => 0))), (q15, .inl (c8, 3, .inl (fun _ => 0))), (q22, .inl (c8, 3, .inl (fun _ => 0))), (q39, .inl (c8, 4, .inl (fun _ => 0))), (q47, .inl (c8, 8, .inl (fun _ => 0))), (q55, .inl (c55, 8, .inl (fun _ => 0))), (q62, .inl (c8, 3, .inl (fun _ => 0))), (q71, .inl (c8, 600, .inl (fun _ => 0))), (q80, .inl (c8, 600, .inl (fun _ => 0))), (q87, .inl (c8, 4, .inl (fun _ => 0))), (q94, .inl (c8, 4, .inl (fun _ => 0))), (q101, .inl (c8, 4, .inl (upd (upd (upd (upd (fun _ => 0) (0 : Int32).toNatClampNeg 0) (1 : Int32).toNatClampNeg 1) (2 : Int32).toNatClampNeg 2) (3 : Int32).toNatClampNeg 3))), (q125, .inl (c8, 8, .inl (fun _ => 0))), (q133, .inl (c55, 8, .inl (fun _ => 0))), (q142, .inl (c8, 150, .inl (fun _ => 0))), (q149, .inl (c8, 3, .inl (fun _ => 0)))] H := hP
  have hD : va_D A [(h0, .inr (7, [.int 0, .int 0, .int 0, .ref q8, .int 0, .ref q15, .ref q22, .int 0, .int 1, .int (-1), .int 0, .int 0, .ref q39, .int 0, .ref q47, .ref q55, .int 0, .int 0, .ref q62, .int 0, .int 0, .ref q71, .ref q80, .ref q87, .ref q94, .ref q101, .int 0, .ref q125, .ref q133, .int 0, .int 0, .ref q142, .null])), (q8, .inl (c8, 300, .inl (fun _ => 0))), (q15, .inl (c8, 3, .inl (fun _ => 0))), (q22, .inl (c8, 3, .inl (fun _ => 0))), (q39, .inl (c8, 4, .inl (fun _ => 0))), (q47, .inl (c8, 8, .inl (fun _ => 0))), (q55, .inl (c55, 8, .inl (fun _ => 0))), (q62, .inl (c8, 3, .inl (fun _ => 0))), (q71, .inl (c8, 600, .inl (fun _ => 0))), (q80, .inl (c8, 600, .inl (fun _ => 0))), (q87, .inl (c8, 4, .inl (fun _ => 0))), (q94, .inl (c8, 4, .inl (fun _ => 0))), (q101, .inl (c8, 4, .inl (upd (upd (upd (upd (fun _ => 0) (0 : Int32).toNatClampNeg 0) (1 : Int32).toNatClampNeg 1) (2 : Int32).toNatClampNeg 2) (3 : Int32).toNatClampNeg 3))), (q125, .inl (c8, 8, .inl (fun _ => 0))), (q133, .inl (c55, 8, .inl (fun _ => 0))), (q142, .inl (c8, 150, .inl (fun _ => 0))), (q149, .inl (c8, 3, .inl (fun _ => 0)))] := hD
  have hK : va_K (dC, dI) classes [(c8, .int), (c55, .boolean)] s := hK
  refine va_putF (D := (dC, dI)) (ci := 7) (v := .ref q149) (ty := .array (.int)) (C := R_M) (T := F_M) (N := 33) hx hb htb in_M ft_M ft_M_ok n_M hown hK hP hD hS 0 rfl rfl 32 (by decide) (htb _ k_651) (fun _ h9 => h9) rfl hin rfl (by decide +kernel) rfl rfl (Nat.le_of_ble_eq_true rfl) d_M_init_151 (fun H locs hP hD hS => ?_)
  have hP : va_P (dC, dI) classes [(h0, .inr (7, [.int 0, .int 0, .int 0, .ref q8, .int 0, .ref q15, .ref q22, .int 0, .int 1, .int (-1), .int 0, .int 0, .ref q39, .int 0, .ref q47, .ref q55, .int 0, .int 0, .ref q62, .int 0, .int 0, .ref q71, .ref q80, .ref q87, .ref q94, .ref q101, .int 0, .ref q125, .ref q133, .int 0, .int 0, .ref q142, .ref q149])), (q8, .inl (c8, 300, .inl (fun _ => 0))), (q15, .inl (c8, 3, .inl (fun _ => 0))), (q22, .inl (c8, 3, .inl (fun _ => 0))), (q39, .inl (c8, 4, .inl (fun _ => 0))), (q47, .inl (c8, 8, .inl (fun _ => 0))), (q55, .inl (c55, 8, .inl (fun _ => 0))), (q62, .inl (c8, 3, .inl (fun _ => 0))), (q71, .inl (c8, 600, .inl (fun _ => 0))), (q80, .inl (c8, 600, .inl (fun _ => 0))), (q87, .inl (c8, 4, .inl (fun _ => 0))), (q94, .inl (c8, 4, .inl (fun _ => 0))), (q101, .inl (c8, 4, .inl (upd (upd (upd (upd (fun _ => 0) (0 : Int32).toNatClampNeg 0) (1 : Int32).toNatClampNeg 1) (2 : Int32).toNatClampNeg 2) (3 : Int32).toNatClampNeg 3))), (q125, .inl (c8, 8, .inl (fun _ => 0))), (q133, .inl (c55, 8, .inl (fun _ => 0))), (q142, .inl (c8, 150, .inl (fun _ => 0))), (q149, .inl (c8, 3, .inl (fun _ => 0)))] H := hP
  have hD : va_D A [(h0, .inr (7, [.int 0, .int 0, .int 0, .ref q8, .int 0, .ref q15, .ref q22, .int 0, .int 1, .int (-1), .int 0, .int 0, .ref q39, .int 0, .ref q47, .ref q55, .int 0, .int 0, .ref q62, .int 0, .int 0, .ref q71, .ref q80, .ref q87, .ref q94, .ref q101, .int 0, .ref q125, .ref q133, .int 0, .int 0, .ref q142, .ref q149])), (q8, .inl (c8, 300, .inl (fun _ => 0))), (q15, .inl (c8, 3, .inl (fun _ => 0))), (q22, .inl (c8, 3, .inl (fun _ => 0))), (q39, .inl (c8, 4, .inl (fun _ => 0))), (q47, .inl (c8, 8, .inl (fun _ => 0))), (q55, .inl (c55, 8, .inl (fun _ => 0))), (q62, .inl (c8, 3, .inl (fun _ => 0))), (q71, .inl (c8, 600, .inl (fun _ => 0))), (q80, .inl (c8, 600, .inl (fun _ => 0))), (q87, .inl (c8, 4, .inl (fun _ => 0))), (q94, .inl (c8, 4, .inl (fun _ => 0))), (q101, .inl (c8, 4, .inl (upd (upd (upd (upd (fun _ => 0) (0 : Int32).toNatClampNeg 0) (1 : Int32).toNatClampNeg 1) (2 : Int32).toNatClampNeg 2) (3 : Int32).toNatClampNeg 3))), (q125, .inl (c8, 8, .inl (fun _ => 0))), (q133, .inl (c55, 8, .inl (fun _ => 0))), (q142, .inl (c8, 150, .inl (fun _ => 0))), (q149, .inl (c8, 3, .inl (fun _ => 0)))] := hD
  refine lv_aload_n hx hb d_M_init_154 rfl (lv_at hl 0 rfl) ?_
  refine lv_iload_n hx hb d_M_init_155 rfl (lv_at hl 1 rfl) ?_
  refine lv_iconst (v := 1) hx hb d_M_init_156 (by decide) ?_
  refine W_cut (pc := 171) (fun H locs ls st => ∃ rv : Int32, st = [.int rv, .ref h0] ∧ rm4 a1 = rv ∧ lv_has ls 2 [(0, .ref h0), (1, .int a1)] ∧ va_P (dC, dI) classes [(h0, .inr (7, [.int 0, .int 0, .int 0, .ref q8, .int 0, .ref q15, .ref q22, .int 0, .int 1, .int (-1), .int 0, .int 0, .ref q39, .int 0, .ref q47, .ref q55, .int 0, .int 0, .ref q62, .int 0, .int 0, .ref q71, .ref q80, .ref q87, .ref q94, .ref q101, .int 0, .ref q125, .ref q133, .int 0, .int 0, .ref q142, .ref q149])), (q8, .inl (c8, 300, .inl (fun _ => 0))), (q15, .inl (c8, 3, .inl (fun _ => 0))), (q22, .inl (c8, 3, .inl (fun _ => 0))), (q39, .inl (c8, 4, .inl (fun _ => 0))), (q47, .inl (c8, 8, .inl (fun _ => 0))), (q55, .inl (c55, 8, .inl (fun _ => 0))), (q62, .inl (c8, 3, .inl (fun _ => 0))), (q71, .inl (c8, 600, .inl (fun _ => 0))), (q80, .inl (c8, 600, .inl (fun _ => 0))), (q87, .inl (c8, 4, .inl (fun _ => 0))), (q94, .inl (c8, 4, .inl (fun _ => 0))), (q101, .inl (c8, 4, .inl (upd (upd (upd (upd (fun _ => 0) (0 : Int32).toNatClampNeg 0) (1 : Int32).toNatClampNeg 1) (2 : Int32).toNatClampNeg 2) (3 : Int32).toNatClampNeg 3))), (q125, .inl (c8, 8, .inl (fun _ => 0))), (q133, .inl (c55, 8, .inl (fun _ => 0))), (q142, .inl (c8, 150, .inl (fun _ => 0))), (q149, .inl (c8, 3, .inl (fun _ => 0)))] H ∧ va_D A [(h0, .inr (7, [.int 0, .int 0, .int 0, .ref q8, .int 0, .ref q15, .ref q22, .int 0, .int 1, .int (-1), .int 0, .int 0, .ref q39, .int 0, .ref q47, .ref q55, .int 0, .int 0, .ref q62, .int 0, .int 0, .ref q71, .ref q80, .ref q87, .ref q94, .ref q101, .int 0, .ref q125, .ref q133, .int 0, .int 0, .ref q142, .ref q149])), (q8, .inl (c8, 300, .inl (fun _ => 0))), (q15, .inl (c8, 3, .inl (fun _ => 0))), (q22, .inl (c8, 3, .inl (fun _ => 0))), (q39, .inl (c8, 4, .inl (fun _ => 0))), (q47, .inl (c8, 8, .inl (fun _ => 0))), (q55, .inl (c55, 8, .inl (fun _ => 0))), (q62, .inl (c8, 3, .inl (fun _ => 0))), (q71, .inl (c8, 600, .inl (fun _ => 0))), (q80, .inl (c8, 600, .inl (fun _ => 0))), (q87, .inl (c8, 4, .inl (fun _ => 0))), (q94, .inl (c8, 4, .inl (fun _ => 0))), (q101, .inl (c8, 4, .inl (upd (upd (upd (upd (fun _ => 0) (0 : Int32).toNatClampNeg 0) (1 : Int32).toNatClampNeg 1) (2 : Int32).toNatClampNeg 2) (3 : Int32).toNatClampNeg 3))), (q125, .inl (c8, 8, .inl (fun _ => 0))), (q133, .inl (c55, 8, .inl (fun _ => 0))), (q142, .inl (c8, 150, .inl (fun _ => 0))), (q149, .inl (c8, 3, .inl (fun _ => 0)))] ∧ va_S A s.heap H locs) ?_ ?_
  · intro H locs ls st hI
    obtain ⟨rv, rfl, hi1, hl, hP, hD, hS⟩ := hI
    refine va_putF (D := (dC, dI)) (ci := 7) (v := .int rv) (ty := .int) (C := R_M) (T := F_M) (N := 33) hx hb htb in_M ft_M ft_M_ok n_M hown hK hP hD hS 0 rfl rfl 1 (by decide) (htb _ k_620) (fun _ h9 => h9) rfl hin rfl (by decide +kernel) rfl rfl (Nat.le_of_ble_eq_true rfl) d_M_init_171 (fun H locs hP hD hS => ?_)
    have hP : va_P (dC, dI) classes [(h0, .inr (7, [.int 0, .int rv, .int 0, .ref q8, .int 0, .ref q15, .ref q22, .int 0, .int 1, .int (-1), .int 0, .int 0, .ref q39, .int 0, .ref q47, .ref q55, .int 0, .int 0, .ref q62, .int 0, .int 0, .ref q71, .ref q80, .ref q87, .ref q94, .ref q101, .int 0, .ref q125, .ref q133, .int 0, .int 0, .ref q142, .ref q149])), (q8, .inl (c8, 300, .inl (fun _ => 0))), (q15, .inl (c8, 3, .inl (fun _ => 0))), (q22, .inl (c8, 3, .inl (fun _ => 0))), (q39, .inl (c8, 4, .inl (fun _ => 0))), (q47, .inl (c8, 8, .inl (fun _ => 0))), (q55, .inl (c55, 8, .inl (fun _ => 0))), (q62, .inl (c8, 3, .inl (fun _ => 0))), (q71, .inl (c8, 600, .inl (fun _ => 0))), (q80, .inl (c8, 600, .inl (fun _ => 0))), (q87, .inl (c8, 4, .inl (fun _ => 0))), (q94, .inl (c8, 4, .inl (fun _ => 0))), (q101, .inl (c8, 4, .inl (upd (upd (upd (upd (fun _ => 0) (0 : Int32).toNatClampNeg 0) (1 : Int32).toNatClampNeg 1) (2 : Int32).toNatClampNeg 2) (3 : Int32).toNatClampNeg 3))), (q125, .inl (c8, 8, .inl (fun _ => 0))), (q133, .inl (c55, 8, .inl (fun _ => 0))), (q142, .inl (c8, 150, .inl (fun _ => 0))), (q149, .inl (c8, 3, .inl (fun _ => 0)))] H := hP
    have hD : va_D A [(h0, .inr (7, [.int 0, .int rv, .int 0, .ref q8, .int 0, .ref q15, .ref q22, .int 0, .int 1, .int (-1), .int 0, .int 0, .ref q39, .int 0, .ref q47, .ref q55, .int 0, .int 0, .ref q62, .int 0, .int 0, .ref q71, .ref q80, .ref q87, .ref q94, .ref q101, .int 0, .ref q125, .ref q133, .int 0, .int 0, .ref q142, .ref q149])), (q8, .inl (c8, 300, .inl (fun _ => 0))), (q15, .inl (c8, 3, .inl (fun _ => 0))), (q22, .inl (c8, 3, .inl (fun _ => 0))), (q39, .inl (c8, 4, .inl (fun _ => 0))), (q47, .inl (c8, 8, .inl (fun _ => 0))), (q55, .inl (c55, 8, .inl (fun _ => 0))), (q62, .inl (c8, 3, .inl (fun _ => 0))), (q71, .inl (c8, 600, .inl (fun _ => 0))), (q80, .inl (c8, 600, .inl (fun _ => 0))), (q87, .inl (c8, 4, .inl (fun _ => 0))), (q94, .inl (c8, 4, .inl (fun _ => 0))), (q101, .inl (c8, 4, .inl (upd (upd (upd (upd (fun _ => 0) (0 : Int32).toNatClampNeg 0) (1 : Int32).toNatClampNeg 1) (2 : Int32).toNatClampNeg 2) (3 : Int32).toNatClampNeg 3))), (q125, .inl (c8, 8, .inl (fun _ => 0))), (q133, .inl (c55, 8, .inl (fun _ => 0))), (q142, .inl (c8, 150, .inl (fun _ => 0))), (q149, .inl (c8, 3, .inl (fun _ => 0)))] := hD
    have hP9 := hP.sub (ws' := wM (adl [[h0, q8, q15, q22, q39, q47, q55, q62, q71, q80, q87, q94, q101, q125, q133, q142, q149]]) (fun k => if k = 0 then c8 else c55) (iniM a1)) [0, 1, 2, 3, 4, 5, 6, 7, 8, 9, 10, 11, 12, 13, 14, 15, 16] (by rw [iniM, hi1]; rfl)
    have hD9 := hD.sub (ws' := wM (adl [[h0, q8, q15, q22, q39, q47, q55, q62, q71, q80, q87, q94, q101, q125, q133, q142, q149]]) (fun k => if k = 0 then c8 else c55) (iniM a1)) [0, 1, 2, 3, 4, 5, 6, 7, 8, 9, 10, 11, 12, 13, 14, 15, 16] (by decide) (by rw [iniM, hi1]; rfl)
    have hK9 := hK.sub (tys' := [(c8, .int), (c55, .boolean)]) [0, 1] rfl
    exact W.vret hx hb hr (fun t ht hW => ⟨⟨(), rfl, trivial, adl [[h0, q8, q15, q22, q39, q47, q55, q62, q71, q80, q87, q94, q101, q125, q133, q142, q149]], (fun k => if k = 0 then c8 else c55), rfl, by rw [ht]; exact hP9, va_K.moved hW.alike hK9, hD9⟩, hS.F ht⟩) hS.2.2 d_M_init_174
  intro KM
  refine lv_icmp_lt (tgt := 170) hx hb d_M_init_157 (by decide) (fun h157 => ?_) (fun h157 => ?_)
  · refine lv_iconst (v := 4) hx hb d_M_init_170 (by decide) ?_
    exact KM _ _ _ _ ⟨4, rfl, rm4_a h157, lv_sub hl [0, 1] rfl, hP, hD, hS⟩
  · refine lv_iload_n hx hb d_M_init_160 rfl (lv_at hl 1 rfl) ?_
    refine lv_bipush (v := 8) hx hb d_M_init_161 (by decide) ?_
    refine lv_icmp_gt (tgt := 170) hx hb d_M_init_163 (by decide) (fun h163 => ?_) (fun h163 => ?_)
    · refine lv_iconst (v := 4) hx hb d_M_init_170 (by decide) ?_
      exact KM _ _ _ _ ⟨4, rfl, rm4_b h157 h163, lv_sub hl [0, 1] rfl, hP, hD, hS⟩
    · refine lv_iload_n hx hb d_M_init_166 rfl (lv_at hl 1 rfl) ?_
      refine lv_goto (tgt := 171) hx hb d_M_init_167 (by decide) ?_
      exact KM _ _ _ _ ⟨a1, rfl, rm4_c h157 h163, lv_sub hl [0, 1] rfl, hP, hD, hS⟩
end
section
theorem d_O_init_0 : decode b_O_init 0 = .ok (.aload_n 0, 1) := by decide +kernel
theorem d_O_init_1 : decode b_O_init 1 = .ok (.invokespecial 1, 3) := by decide +kernel
theorem d_O_init_4 : decode b_O_init 4 = .ok (.aload_n 0, 1) := by decide +kernel
theorem d_O_init_5 : decode b_O_init 5 = .ok (.new 7, 3) := by decide +kernel
theorem d_O_init_8 : decode b_O_init 8 = .ok (.dup, 1) := by decide +kernel
theorem d_O_init_9 : decode b_O_init 9 = .ok (.invokespecial 9, 3) := by decide +kernel
theorem d_O_init_12 : decode b_O_init 12 = .ok (.putfield 10, 3) := by decide +kernel
theorem d_O_init_15 : decode b_O_init 15 = .ok (.aload_n 0, 1) := by decide +kernel
theorem d_O_init_16 : decode b_O_init 16 = .ok (.new 16, 3) := by decide +kernel
theorem d_O_init_19 : decode b_O_init 19 = .ok (.dup, 1) := by decide +kernel
theorem d_O_init_20 : decode b_O_init 20 = .ok (.invokespecial 18, 3) := by decide +kernel
theorem d_O_init_23 : decode b_O_init 23 = .ok (.putfield 19, 3) := by decide +kernel
theorem d_O_init_26 : decode b_O_init 26 = .ok (.aload_n 0, 1) := by decide +kernel
theorem d_O_init_27 : decode b_O_init 27 = .ok (.new 23, 3) := by decide +kernel
theorem d_O_init_30 : decode b_O_init 30 = .ok (.dup, 1) := by decide +kernel
theorem d_O_init_31 : decode b_O_init 31 = .ok (.invokespecial 25, 3) := by decide +kernel
theorem d_O_init_34 : decode b_O_init 34 = .ok (.putfield 26, 3) := by decide +kernel
theorem d_O_init_37 : decode b_O_init 37 = .ok (.aload_n 0, 1) := by decide +kernel
theorem d_O_init_38 : decode b_O_init 38 = .ok (.new 30, 3) := by decide +kernel
theorem d_O_init_41 : decode b_O_init 41 = .ok (.dup, 1) := by decide +kernel
theorem d_O_init_42 : decode b_O_init 42 = .ok (.invokespecial 32, 3) := by decide +kernel
theorem d_O_init_45 : decode b_O_init 45 = .ok (.putfield 33, 3) := by decide +kernel
theorem d_O_init_48 : decode b_O_init 48 = .ok (.aload_n 0, 1) := by decide +kernel
theorem d_O_init_49 : decode b_O_init 49 = .ok (.iconst 4, 1) := by decide +kernel
theorem d_O_init_50 : decode b_O_init 50 = .ok (.anewarray 37, 3) := by decide +kernel
theorem d_O_init_53 : decode b_O_init 53 = .ok (.putfield 39, 3) := by decide +kernel
theorem d_O_init_56 : decode b_O_init 56 = .ok (.aload_n 0, 1) := by decide +kernel
theorem d_O_init_57 : decode b_O_init 57 = .ok (.iconst 4, 1) := by decide +kernel
theorem d_O_init_58 : decode b_O_init 58 = .ok (.newarray .int, 2) := by decide +kernel
theorem d_O_init_60 : decode b_O_init 60 = .ok (.putfield 43, 3) := by decide +kernel
theorem d_O_init_63 : decode b_O_init 63 = .ok (.aload_n 0, 1) := by decide +kernel
theorem d_O_init_64 : decode b_O_init 64 = .ok (.iconst 3, 1) := by decide +kernel
theorem d_O_init_65 : decode b_O_init 65 = .ok (.newarray .int, 2) := by decide +kernel
theorem d_O_init_67 : decode b_O_init 67 = .ok (.putfield 47, 3) := by decide +kernel
theorem d_O_init_70 : decode b_O_init 70 = .ok (.aload_n 0, 1) := by decide +kernel
theorem d_O_init_71 : decode b_O_init 71 = .ok (.iconst 3, 1) := by decide +kernel
theorem d_O_init_72 : decode b_O_init 72 = .ok (.newarray .int, 2) := by decide +kernel
theorem d_O_init_74 : decode b_O_init 74 = .ok (.putfield 50, 3) := by decide +kernel
theorem d_O_init_77 : decode b_O_init 77 = .ok (.aload_n 0, 1) := by decide +kernel
theorem d_O_init_78 : decode b_O_init 78 = .ok (.iconst 0, 1) := by decide +kernel
theorem d_O_init_79 : decode b_O_init 79 = .ok (.putfield 53, 3) := by decide +kernel
theorem d_O_init_82 : decode b_O_init 82 = .ok (.aload_n 0, 1) := by decide +kernel
theorem d_O_init_83 : decode b_O_init 83 = .ok (.iconst 0, 1) := by decide +kernel
theorem d_O_init_84 : decode b_O_init 84 = .ok (.putfield 57, 3) := by decide +kernel
theorem d_O_init_87 : decode b_O_init 87 = .ok (.iload_n 1, 1) := by decide +kernel
theorem d_O_init_88 : decode b_O_init 88 = .ok (.iconst 1, 1) := by decide +kernel
theorem d_O_init_89 : decode b_O_init 89 = .ok (.if_icmp .lt 13, 3) := by decide +kernel
theorem d_O_init_92 : decode b_O_init 92 = .ok (.iload_n 1, 1) := by decide +kernel
theorem d_O_init_93 : decode b_O_init 93 = .ok (.bipush 8, 2) := by decide +kernel
theorem d_O_init_95 : decode b_O_init 95 = .ok (.if_icmp .gt 7, 3) := by decide +kernel
theorem d_O_init_98 : decode b_O_init 98 = .ok (.iload_n 1, 1) := by decide +kernel
theorem d_O_init_99 : decode b_O_init 99 = .ok (.goto 4, 3) := by decide +kernel
theorem d_O_init_102 : decode b_O_init 102 = .ok (.iconst 4, 1) := by decide +kernel
theorem d_O_init_103 : decode b_O_init 103 = .ok (.istore_n 2, 1) := by decide +kernel
theorem d_O_init_104 : decode b_O_init 104 = .ok (.aload_n 0, 1) := by decide +kernel
theorem d_O_init_105 : decode b_O_init 105 = .ok (.new 60, 3) := by decide +kernel
theorem d_O_init_108 : decode b_O_init 108 = .ok (.dup, 1) := by decide +kernel
theorem d_O_init_109 : decode b_O_init 109 = .ok (.iload_n 2, 1) := by decide +kernel
theorem d_O_init_110 : decode b_O_init 110 = .ok (.invokespecial 62, 3) := by decide +kernel
theorem d_O_init_113 : decode b_O_init 113 = .ok (.putfield 65, 3) := by decide +kernel
theorem d_O_init_116 : decode b_O_init 116 = .ok (.aload_n 0, 1) := by decide +kernel
theorem d_O_init_117 : decode b_O_init 117 = .ok (.new 60, 3) := by decide +kernel
theorem d_O_init_120 : decode b_O_init 120 = .ok (.dup, 1) := by decide +kernel
theorem d_O_init_121 : decode b_O_init 121 = .ok (.iload_n 2, 1) := by decide +kernel
theorem d_O_init_122 : decode b_O_init 122 = .ok (.invokespecial 62, 3) := by decide +kernel
theorem d_O_init_125 : decode b_O_init 125 = .ok (.putfield 69, 3) := by decide +kernel
theorem d_O_init_128 : decode b_O_init 128 = .ok (.iconst 0, 1) := by decide +kernel
theorem d_O_init_129 : decode b_O_init 129 = .ok (.istore_n 3, 1) := by decide +kernel
theorem d_O_init_130 : decode b_O_init 130 = .ok (.iload_n 3, 1) := by decide +kernel
theorem d_O_init_131 : decode b_O_init 131 = .ok (.iconst 4, 1) := by decide +kernel
theorem d_O_init_132 : decode b_O_init 132 = .ok (.if_icmp .ge 22, 3) := by decide +kernel
theorem d_O_init_135 : decode b_O_init 135 = .ok (.aload_n 0, 1) := by decide +kernel
theorem d_O_init_136 : decode b_O_init 136 = .ok (.getfield 39, 3) := by decide +kernel
theorem d_O_init_139 : decode b_O_init 139 = .ok (.iload_n 3, 1) := by decide +kernel
theorem d_O_init_140 : decode b_O_init 140 = .ok (.new 37, 3) := by decide +kernel
theorem d_O_init_143 : decode b_O_init 143 = .ok (.dup, 1) := by decide +kernel
theorem d_O_init_144 : decode b_O_init 144 = .ok (.invokespecial 72, 3) := by decide +kernel
theorem d_O_init_147 : decode b_O_init 147 = .ok (.aastore, 1) := by decide +kernel
theorem d_O_init_148 : decode b_O_init 148 = .ok (.iinc 3 1, 3) := by decide +kernel
theorem d_O_init_151 : decode b_O_init 151 = .ok (.goto (-21), 3) := by decide +kernel
theorem d_O_init_154 : decode b_O_init 154 = .ok (.return_, 1) := by decide +kernel
set_option maxHeartbeats 4000000 in
set_option maxRecDepth 100000 in
theorem c_O_init (l : Launch) (dC : Nat → ClassId) (dI : Nat → Nat → Nat) (h0 : Nat) (sz : Nat) (a1 : Int32) : Met l y_O_init (wd y_O_init b_O_init 4 none) ({ frames := 2, cells := 33, slots := 1755, locals := 33 }) (va_Pc [.ref h0, .int a1] (preC dC dI [(h0, .inr (0, [.null, .null, .null, .null, .null, .null, .null, .null, .null, .null, .int 0, .int 0]))] sz)) (va_Qv (fun (_ : Unit) => True) (fun (_ : Unit) t => ∃ (ad : Nat → Nat → Nat) (cs : Nat → ClassId), ad 0 0 = h0 ∧ va_P (dC, dI) classes (wX ad cs (iniX a1)) t.heap ∧ va_K (dC, dI) classes (tyW cs) t ∧ va_D (va_A [(h0, .inr (0, [.null, .null, .null, .null, .null, .null, .null, .null, .null, .null, .int 0, .int 0]))] sz) (wX ad cs (iniX a1))) (va_A [(h0, .inr (0, [.null, .null, .null, .null, .null, .null, .null, .null, .null, .null, .int 0, .int 0]))] sz)) 33 1755 (va_A [(h0, .inr (0, [.null, .null, .null, .null, .null, .null, .null, .null, .null, .null, .int 0, .int 0]))] sz) := by
  refine Met.ofW (cc := b_O_init) (maxL := 4) (ret := none) (by decide) rfl ?_
  intro p e s m args below meth c s₁ B hml hv
  obtain ⟨rfl, hsz, hP, hK, hD0, hN⟩ := hv
  have hx := B.exec
  have hb := B.bytes
  have hr := B.returns
  have hts := atoms_spec (ws := (wd y_O_init b_O_init 4 none)) B.pre
  have htb : ∀ w ∈ tb, w.before _ s = true := fun w h => hts w (List.mem_cons_of_mem _ h)
  have hown : s.vm.findClass R_O = some m.cls := findClass_of_methodNamed B.named
  have hlocks := B.notSynchronized
  have hin : meth.name = "<init>" := (name_of_methodNamed B.named B.method).1
  subst hsz
  have hD := hD0.self (sz := s.heap.size)
  generalize hAe : va_A [(h0, .inr (0, [.null, .null, .null, .null, .null, .null, .null, .null, .null, .null, .int 0, .int 0]))] s.heap.size = A at hD ⊢
  have hA : ∀ q : Nat, s.heap.size ≤ q → A q := fun q h => by rw [← hAe]; exact Or.inr h
  have hS : va_S A s.heap s.heap [] := va_S.rf
  have hP : va_P (dC, dI) classes [(h0, .inr (0, [.null, .null, .null, .null, .null, .null, .null, .null, .null, .null, .int 0, .int 0]))] s.heap := hP
  have hl := lv_entry ([.ref h0, .int a1]) (n := 4) (Nat.le_of_ble_eq_true rfl)
  rw [lg_entry_eq]
  generalize (lg_sl ([.ref h0, .int a1]) ++ List.replicate (4 - (lg_sl ([.ref h0, .int a1])).length) Slot.unset).toArray = ls at hl ⊢
  have hl : lv_has ls 4 [(0, .ref h0), (1, .int a1)] := hl
  refine lv_aload_n hx hb d_O_init_0 rfl (lv_at hl 0 rfl) ?_
  refine W.objInit hx hb hown (htb _ k_21) (htb _ k_22) (htb _ k_23) rfl (by rw [hml]; exact hl.1) rfl d_O_init_1 (Nat.le_of_ble_eq_true rfl) (Nat.le_of_ble_eq_true rfl) ?_
  refine W.eq (g2 := F0 m 4 ls []) rfl ?_
  refine lv_aload_n hx hb d_O_init_4 rfl (lv_at hl 0 rfl) ?_
  refine va_new (ci := 1) (fs := [.null, .null, .null, .int 0, .int 0]) (C := R_D) (T := F_D) (N := 5) hx hb htb in_D ft_D ft_D_ok hown (htb _ k_24) (htb _ k_25) (htb _ k_2) hK hP hD hS hA rfl fs_D (Nat.le_of_ble_eq_true rfl) (Nat.le_of_ble_eq_true rfl) d_O_init_5 (fun q5 H hP hD hS => ?_)
  have hP : va_P (dC, dI) classes [(h0, .inr (0, [.null, .null, .null, .null, .null, .null, .null, .null, .null, .null, .int 0, .int 0])), (q5, .inr (1, [.null, .null, .null, .int 0, .int 0]))] H := hP
  have hD : va_D A [(h0, .inr (0, [.null, .null, .null, .null, .null, .null, .null, .null, .null, .null, .int 0, .int 0])), (q5, .inr (1, [.null, .null, .null, .int 0, .int 0]))] := hD
  refine lv_dup hx hb d_O_init_8 rfl ?_
  have hPc := hP.sub (ws' := [(q5, .inr (1, [.null, .null, .null, .int 0, .int 0]))]) [1] rfl
  have hDc := hD.sub (ws' := [(q5, .inr (1, [.null, .null, .null, .int 0, .int 0]))]) [1] (by decide) rfl
  have hFc := va_free (wc := [(q5, .inr (1, [.null, .null, .null, .int 0, .int 0]))]) hD hS hA [1] rfl
  refine va_callv (va_runIN (As := []) (rest := [.ref q5, .ref h0]) ⟨hx, hb, hml, hown, hts⟩ (c_D_init l dC dI q5 H.size) ⟨va_cnB 0 hts (goodW k_28) rfl rfl rfl (hN.1) (htb _ k_2) ⟨by decide, by decide, by decide +kernel⟩ ⟨Nat.le_of_ble_eq_true rfl, Nat.le_of_ble_eq_true rfl⟩, rfl, htb _ k_27⟩ ⟨blindC, payC hPc (hK.sub (tys' := []) [] rfl) hDc hN⟩ rfl rfl hl.1 rfl (lv_room (Nat.le_of_ble_eq_true rfl)) d_O_init_9 ⟨Nat.le_of_ble_eq_true rfl, Nat.le_of_ble_eq_true rfl⟩) hS (fun q _ h => hFc q h) hFc (fun u t H locs ht hvm hpost hB hz1 hk1 hS => ?_)
  obtain ⟨q9_9, q9a_9, q9b_9, q18_9, q25_9, c9_9, c9a_9, hP1, hK1, hD1⟩ := hB
  rw [ht] at hP1
  have hK1 := va_K.moved hvm.symm hK1
  obtain ⟨hP, hD⟩ := va_join (wr := [(h0, .inr (0, [.null, .null, .null, .null, .null, .null, .null, .null, .null, .null, .int 0, .int 0]))]) (w1 := [(q5, .inr (1, [.ref q9_9, .ref q18_9, .ref q25_9, .int 0, .int 0])), (q9_9, .inl (c9_9, 2, .inr (.inr (.inr (.inr (va_two q9a_9 q9b_9)))))), (q9a_9, .inl (c9a_9, 150, .inl (fun _ => 0))), (q9b_9, .inl (c9a_9, 150, .inl (fun _ => 0))), (q18_9, .inl (c9a_9, 3, .inl (fun _ => 0))), (q25_9, .inl (c9a_9, 3, .inl (fun _ => 0)))]) hP hD [1] [0] rfl rfl (by decide) (by decide) hk1 hFc hP1 hD1
  have hK := hK.app hK1
  have hK := hK.sub (tys' := [(c9_9, .array .int), (c9a_9, .int)]) [0, 1] rfl
  have hP : va_P (dC, dI) classes [(h0, .inr (0, [.null, .null, .null, .null, .null, .null, .null, .null, .null, .null, .int 0, .int 0])), (q5, .inr (1, [.ref q9_9, .ref q18_9, .ref q25_9, .int 0, .int 0])), (q9_9, .inl (c9_9, 2, .inr (.inr (.inr (.inr (va_two q9a_9 q9b_9)))))), (q9a_9, .inl (c9a_9, 150, .inl (fun _ => 0))), (q9b_9, .inl (c9a_9, 150, .inl (fun _ => 0))), (q18_9, .inl (c9a_9, 3, .inl (fun _ => 0))), (q25_9, .inl (c9a_9, 3, .inl (fun _ => 0)))] H := hP
  have hD : va_D A [(h0, .inr (0, [.null, .null, .null, .null, .null, .null, .null, .null, .null, .null, .int 0, .int 0])), (q5, .inr (1, [.ref q9_9, .ref q18_9, .ref q25_9, .int 0, .int 0])), (q9_9, .inl (c9_9, 2, .inr (.inr (.inr (.inr (va_two q9a_9 q9b_9)))))), (q9a_9, .inl (c9a_9, 150, .inl (fun _ => 0))), (q9b_9, .inl (c9a_9, 150, .inl (fun _ => 0))), (q18_9, .inl (c9a_9, 3, .inl (fun _ => 0))), (q25_9, .inl (c9a_9, 3, .inl (fun _ => 0)))] := hD
  have hK : va_K (dC, dI) classes [(c9_9, .array .int), (c9a_9, .int)] s := hK
  refine va_putF (D := (dC, dI)) (ci := 0) (v := .ref q5) (ty := .object "ReelOffice$Deck") (C := R_O) (T := F_O) (N := 12) hx hb htb in_O ft_O ft_O_ok n_O hown hK hP hD hS 0 rfl rfl 0 (by decide) (htb _ k_148) (fun _ h9 => h9) rfl hin rfl (by decide +kernel) rfl rfl (Nat.le_of_ble_eq_true rfl) d_O_init_12 (fun H locs hP hD hS => ?_)
  have hP : va_P (dC, dI) classes [(h0, .inr (0, [.ref q5, .null, .null, .null, .null, .null, .null, .null, .null, .null, .int 0, .int 0])), (q5, .inr (1, [.ref q9_9, .ref q18_9, .ref q25_9, .int 0, .int 0])), (q9_9, .inl (c9_9, 2, .inr (.inr (.inr (.inr (va_two q9a_9 q9b_9)))))), (q9a_9, .inl (c9a_9, 150, .inl (fun _ => 0))), (q9b_9, .inl (c9a_9, 150, .inl (fun _ => 0))), (q18_9, .inl (c9a_9, 3, .inl (fun _ => 0))), (q25_9, .inl (c9a_9, 3, .inl (fun _ => 0)))] H := hP
  have hD : va_D A [(h0, .inr (0, [.ref q5, .null, .null, .null, .null, .null, .null, .null, .null, .null, .int 0, .int 0])), (q5, .inr (1, [.ref q9_9, .ref q18_9, .ref q25_9, .int 0, .int 0])), (q9_9, .inl (c9_9, 2, .inr (.inr (.inr (.inr (va_two q9a_9 q9b_9)))))), (q9a_9, .inl (c9a_9, 150, .inl (fun _ => 0))), (q9b_9, .inl (c9a_9, 150, .inl (fun _ => 0))), (q18_9, .inl (c9a_9, 3, .inl (fun _ => 0))), (q25_9, .inl (c9a_9, 3, .inl (fun _ => 0)))] := hD
  refine lv_aload_n hx hb d_O_init_15 rfl (lv_at hl 0 rfl) ?_
  refine va_new (ci := 3) (fs := [.null, .int 0, .int 0]) (C := R_P) (T := F_P) (N := 3) hx hb htb in_P ft_P ft_P_ok hown (htb _ k_49) (htb _ k_50) (htb _ k_3) hK hP hD hS hA rfl fs_P (Nat.le_of_ble_eq_true rfl) (Nat.le_of_ble_eq_true rfl) d_O_init_16 (fun q16 H hP hD hS => ?_)
  have hP : va_P (dC, dI) classes [(h0, .inr (0, [.ref q5, .null, .null, .null, .null, .null, .null, .null, .null, .null, .int 0, .int 0])), (q5, .inr (1, [.ref q9_9, .ref q18_9, .ref q25_9, .int 0, .int 0])), (q9_9, .inl (c9_9, 2, .inr (.inr (.inr (.inr (va_two q9a_9 q9b_9)))))), (q9a_9, .inl (c9a_9, 150, .inl (fun _ => 0))), (q9b_9, .inl (c9a_9, 150, .inl (fun _ => 0))), (q18_9, .inl (c9a_9, 3, .inl (fun _ => 0))), (q25_9, .inl (c9a_9, 3, .inl (fun _ => 0))), (q16, .inr (3, [.null, .int 0, .int 0]))] H := hP
  have hD : va_D A [(h0, .inr (0, [.ref q5, .null, .null, .null, .null, .null, .null, .null, .null, .null, .int 0, .int 0])), (q5, .inr (1, [.ref q9_9, .ref q18_9, .ref q25_9, .int 0, .int 0])), (q9_9, .inl (c9_9, 2, .inr (.inr (.inr (.inr (va_two q9a_9 q9b_9)))))), (q9a_9, .inl (c9a_9, 150, .inl (fun _ => 0))), (q9b_9, .inl (c9a_9, 150, .inl (fun _ => 0))), (q18_9, .inl (c9a_9, 3, .inl (fun _ => 0))), (q25_9, .inl (c9a_9, 3, .inl (fun _ => 0))), (q16, .inr (3, [.null, .int 0, .int 0]))] := hD
  refine lv_dup hx hb d_O_init_19 rfl ?_
  have hPc := hP.sub (ws' := [(q16, .inr (3, [.null, .int 0, .int 0]))]) [7] rfl
  have hDc := hD.sub (ws' := [(q16, .inr (3, [.null, .int 0, .int 0]))]) [7] (by decide) rfl
  have hFc := va_free (wc := [(q16, .inr (3, [.null, .int 0, .int 0]))]) hD hS hA [7] rfl
  refine va_callv (va_runIN (As := []) (rest := [.ref q16, .ref h0]) ⟨hx, hb, hml, hown, hts⟩ (c_P_init l dC dI q16 H.size) ⟨va_cnB 0 hts (goodW k_53) rfl rfl rfl (hN.2.1) (htb _ k_3) ⟨by decide, by decide, by decide +kernel⟩ ⟨Nat.le_of_ble_eq_true rfl, Nat.le_of_ble_eq_true rfl⟩, rfl, htb _ k_52⟩ ⟨blindC, payC hPc (hK.sub (tys' := []) [] rfl) hDc hN⟩ rfl rfl hl.1 rfl (lv_room (Nat.le_of_ble_eq_true rfl)) d_O_init_20 ⟨Nat.le_of_ble_eq_true rfl, Nat.le_of_ble_eq_true rfl⟩) hS (fun q _ h => hFc q h) hFc (fun u t H locs ht hvm hpost hB hz1 hk1 hS => ?_)
  obtain ⟨q6_20, c6_20, hP1, hK1, hD1⟩ := hB
  rw [ht] at hP1
  have hK1 := va_K.moved hvm.symm hK1
  obtain ⟨hP, hD⟩ := va_join (wr := [(h0, .inr (0, [.ref q5, .null, .null, .null, .null, .null, .null, .null, .null, .null, .int 0, .int 0])), (q5, .inr (1, [.ref q9_9, .ref q18_9, .ref q25_9, .int 0, .int 0])), (q9_9, .inl (c9_9, 2, .inr (.inr (.inr (.inr (va_two q9a_9 q9b_9)))))), (q9a_9, .inl (c9a_9, 150, .inl (fun _ => 0))), (q9b_9, .inl (c9a_9, 150, .inl (fun _ => 0))), (q18_9, .inl (c9a_9, 3, .inl (fun _ => 0))), (q25_9, .inl (c9a_9, 3, .inl (fun _ => 0)))]) (w1 := [(q16, .inr (3, [.ref q6_20, .int 0, .int 0])), (q6_20, .inl (c6_20, 3, .inl (fun _ => 0)))]) hP hD [7] [0, 1, 2, 3, 4, 5, 6] rfl rfl (by decide) (by decide) hk1 hFc hP1 hD1
  have hK := hK.app hK1
  obtain rfl : c9a_9 = c6_20 := ka_i hK 1 2 rfl rfl
  have hK := hK.sub (tys' := [(c9_9, .array .int), (c9a_9, .int)]) [0, 1] rfl
  have hP : va_P (dC, dI) classes [(h0, .inr (0, [.ref q5, .null, .null, .null, .null, .null, .null, .null, .null, .null, .int 0, .int 0])), (q5, .inr (1, [.ref q9_9, .ref q18_9, .ref q25_9, .int 0, .int 0])), (q9_9, .inl (c9_9, 2, .inr (.inr (.inr (.inr (va_two q9a_9 q9b_9)))))), (q9a_9, .inl (c9a_9, 150, .inl (fun _ => 0))), (q9b_9, .inl (c9a_9, 150, .inl (fun _ => 0))), (q18_9, .inl (c9a_9, 3, .inl (fun _ => 0))), (q25_9, .inl (c9a_9, 3, .inl (fun _ => 0))), (q16, .inr (3, [.ref q6_20, .int 0, .int 0])), (q6_20, .inl (c9a_9, 3, .inl (fun _ => 0)))] H := hP
  have hD : va_D A [(h0, .inr (0, [.ref q5, .null, .null, .null, .null, .null, .null, .null, .null, .null, .int 0, .int 0])), (q5, .inr (1, [.ref q9_9, .ref q18_9, .ref q25_9, .int 0, .int 0])), (q9_9, .inl (c9_9, 2, .inr (.inr (.inr (.inr (va_two q9a_9 q9b_9)))))), (q9a_9, .inl (c9a_9, 150, .inl (fun _ => 0))), (q9b_9, .inl (c9a_9, 150, .inl (fun _ => 0))), (q18_9, .inl (c9a_9, 3, .inl (fun _ => 0))), (q25_9, .inl (c9a_9, 3, .inl (fun _ => 0))), (q16, .inr (3, [.ref q6_20, .int 0, .int 0])), (q6_20, .inl (c9a_9, 3, .inl (fun _ => 0)))] := hD
  have hK : va_K (dC, dI) classes [(c9_9, .array .int), (c9a_9, .int)] s := hK
  refine va_putF (D := (dC, dI)) (ci := 0) (v := .ref q16) (ty := .object "ReelOffice$Plan") (C := R_O) (T := F_O) (N := 12) hx hb htb in_O ft_O ft_O_ok n_O hown hK hP hD hS 0 rfl rfl 3 (by decide) (htb _ k_151) (fun _ h9 => h9) rfl hin rfl (by decide +kernel) rfl rfl (Nat.le_of_ble_eq_true rfl) d_O_init_23 (fun H locs hP hD hS => ?_)
  have hP : va_P (dC, dI) classes [(h0, .inr (0, [.ref q5, .null, .null, .ref q16, .null, .null, .null, .null, .null, .null, .int 0, .int 0])), (q5, .inr (1, [.ref q9_9, .ref q18_9, .ref q25_9, .int 0, .int 0])), (q9_9, .inl (c9_9, 2, .inr (.inr (.inr (.inr (va_two q9a_9 q9b_9)))))), (q9a_9, .inl (c9a_9, 150, .inl (fun _ => 0))), (q9b_9, .inl (c9a_9, 150, .inl (fun _ => 0))), (q18_9, .inl (c9a_9, 3, .inl (fun _ => 0))), (q25_9, .inl (c9a_9, 3, .inl (fun _ => 0))), (q16, .inr (3, [.ref q6_20, .int 0, .int 0])), (q6_20, .inl (c9a_9, 3, .inl (fun _ => 0)))] H := hP
  have hD : va_D A [(h0, .inr (0, [.ref q5, .null, .null, .ref q16, .null, .null, .null, .null, .null, .null, .int 0, .int 0])), (q5, .inr (1, [.ref q9_9, .ref q18_9, .ref q25_9, .int 0, .int 0])), (q9_9, .inl (c9_9, 2, .inr (.inr (.inr (.inr (va_two q9a_9 q9b_9)))))), (q9a_9, .inl (c9a_9, 150, .inl (fun _ => 0))), (q9b_9, .inl (c9a_9, 150, .inl (fun _ => 0))), (q18_9, .inl (c9a_9, 3, .inl (fun _ => 0))), (q25_9, .inl (c9a_9, 3, .inl (fun _ => 0))), (q16, .inr (3, [.ref q6_20, .int 0, .int 0])), (q6_20, .inl (c9a_9, 3, .inl (fun _ => 0)))] := hD
  refine lv_aload_n hx hb d_O_init_26 rfl (lv_at hl 0 rfl) ?_
  refine va_new (ci := 4) (fs := [.int 0, .int 0, .int 0, .int 0]) (C := R_V) (T := F_V) (N := 4) hx hb htb in_V ft_V ft_V_ok hown (htb _ k_65) (htb _ k_66) (htb _ k_4) hK hP hD hS hA rfl fs_V (Nat.le_of_ble_eq_true rfl) (Nat.le_of_ble_eq_true rfl) d_O_init_27 (fun q27 H hP hD hS => ?_)
  have hP : va_P (dC, dI) classes [(h0, .inr (0, [.ref q5, .null, .null, .ref q16, .null, .null, .null, .null, .null, .null, .int 0, .int 0])), (q5, .inr (1, [.ref q9_9, .ref q18_9, .ref q25_9, .int 0, .int 0])), (q9_9, .inl (c9_9, 2, .inr (.inr (.inr (.inr (va_two q9a_9 q9b_9)))))), (q9a_9, .inl (c9a_9, 150, .inl (fun _ => 0))), (q9b_9, .inl (c9a_9, 150, .inl (fun _ => 0))), (q18_9, .inl (c9a_9, 3, .inl (fun _ => 0))), (q25_9, .inl (c9a_9, 3, .inl (fun _ => 0))), (q16, .inr (3, [.ref q6_20, .int 0, .int 0])), (q6_20, .inl (c9a_9, 3, .inl (fun _ => 0))), (q27, .inr (4, [.int 0, .int 0, .int 0, .int 0]))] H := hP
  have hD : va_D A [(h0, .inr (0, [.ref q5, .null, .null, .ref q16, .null, .null, .null, .null, .null, .null, .int 0, .int 0])), (q5, .inr (1, [.ref q9_9, .ref q18_9, .ref q25_9, .int 0, .int 0])), (q9_9, .inl (c9_9, 2, .inr (.inr (.inr (.inr (va_two q9a_9 q9b_9)))))), (q9a_9, .inl (c9a_9, 150, .inl (fun _ => 0))), (q9b_9, .inl (c9a_9, 150, .inl (fun _ => 0))), (q18_9, .inl (c9a_9, 3, .inl (fun _ => 0))), (q25_9, .inl (c9a_9, 3, .inl (fun _ => 0))), (q16, .inr (3, [.ref q6_20, .int 0, .int 0])), (q6_20, .inl (c9a_9, 3, .inl (fun _ => 0))), (q27, .inr (4, [.int 0, .int 0, .int 0, .int 0]))] := hD
  refine lv_dup hx hb d_O_init_30 rfl ?_
  have hPc := hP.sub (ws' := [(q27, .inr (4, [.int 0, .int 0, .int 0, .int 0]))]) [9] rfl
  have hDc := hD.sub (ws' := [(q27, .inr (4, [.int 0, .int 0, .int 0, .int 0]))]) [9] (by decide) rfl
  have hFc := va_free (wc := [(q27, .inr (4, [.int 0, .int 0, .int 0, .int 0]))]) hD hS hA [9] rfl
  refine va_callv (va_runIN (As := []) (rest := [.ref q27, .ref h0]) ⟨hx, hb, hml, hown, hts⟩ (c_V_init l dC dI q27 H.size) ⟨va_cnB 0 hts (goodW k_69) rfl rfl rfl (hN.2.2.1) (htb _ k_4) ⟨by decide, by decide, by decide +kernel⟩ ⟨Nat.le_of_ble_eq_true rfl, Nat.le_of_ble_eq_true rfl⟩, rfl, htb _ k_68⟩ ⟨blindC, payC hPc (hK.sub (tys' := []) [] rfl) hDc hN⟩ rfl rfl hl.1 rfl (lv_room (Nat.le_of_ble_eq_true rfl)) d_O_init_31 ⟨Nat.le_of_ble_eq_true rfl, Nat.le_of_ble_eq_true rfl⟩) hS (fun q _ h => hFc q h) hFc (fun u t H locs ht hvm hpost hB hz1 hk1 hS => ?_)
  obtain ⟨hP1, hK1, hD1⟩ := hB
  rw [ht] at hP1
  have hK1 := va_K.moved hvm.symm hK1
  obtain ⟨hP, hD⟩ := va_join (wr := [(h0, .inr (0, [.ref q5, .null, .null, .ref q16, .null, .null, .null, .null, .null, .null, .int 0, .int 0])), (q5, .inr (1, [.ref q9_9, .ref q18_9, .ref q25_9, .int 0, .int 0])), (q9_9, .inl (c9_9, 2, .inr (.inr (.inr (.inr (va_two q9a_9 q9b_9)))))), (q9a_9, .inl (c9a_9, 150, .inl (fun _ => 0))), (q9b_9, .inl (c9a_9, 150, .inl (fun _ => 0))), (q18_9, .inl (c9a_9, 3, .inl (fun _ => 0))), (q25_9, .inl (c9a_9, 3, .inl (fun _ => 0))), (q16, .inr (3, [.ref q6_20, .int 0, .int 0])), (q6_20, .inl (c9a_9, 3, .inl (fun _ => 0)))]) (w1 := [(q27, .inr (4, [.int 0, .int 1, .int 0, .int 0]))]) hP hD [9] [0, 1, 2, 3, 4, 5, 6, 7, 8] rfl rfl (by decide) (by decide) hk1 hFc hP1 hD1
  have hK := hK.app hK1
  have hK := hK.sub (tys' := [(c9_9, .array .int), (c9a_9, .int)]) [0, 1] rfl
  have hP : va_P (dC, dI) classes [(h0, .inr (0, [.ref q5, .null, .null, .ref q16, .null, .null, .null, .null, .null, .null, .int 0, .int 0])), (q5, .inr (1, [.ref q9_9, .ref q18_9, .ref q25_9, .int 0, .int 0])), (q9_9, .inl (c9_9, 2, .inr (.inr (.inr (.inr (va_two q9a_9 q9b_9)))))), (q9a_9, .inl (c9a_9, 150, .inl (fun _ => 0))), (q9b_9, .inl (c9a_9, 150, .inl (fun _ => 0))), (q18_9, .inl (c9a_9, 3, .inl (fun _ => 0))), (q25_9, .inl (c9a_9, 3, .inl (fun _ => 0))), (q16, .inr (3, [.ref q6_20, .int 0, .int 0])), (q6_20, .inl (c9a_9, 3, .inl (fun _ => 0))), (q27, .inr (4, [.int 0, .int 1, .int 0, .int 0]))] H := hP
  have hD : va_D A [(h0, .inr (0, [.ref q5, .null, .null, .ref q16, .null, .null, .null, .null, .null, .null, .int 0, .int 0])), (q5, .inr (1, [.ref q9_9, .ref q18_9, .ref q25_9, .int 0, .int 0])), (q9_9, .inl (c9_9, 2, .inr (.inr (.inr (.inr (va_two q9a_9 q9b_9)))))), (q9a_9, .inl (c9a_9, 150, .inl (fun _ => 0))), (q9b_9, .inl (c9a_9, 150, .inl (fun _ => 0))), (q18_9, .inl (c9a_9, 3, .inl (fun _ => 0))), (q25_9, .inl (c9a_9, 3, .inl (fun _ => 0))), (q16, .inr (3, [.ref q6_20, .int 0, .int 0])), (q6_20, .inl (c9a_9, 3, .inl (fun _ => 0))), (q27, .inr (4, [.int 0, .int 1, .int 0, .int 0]))] := hD
  have hK : va_K (dC, dI) classes [(c9_9, .array .int), (c9a_9, .int)] s := hK
  refine va_putF (D := (dC, dI)) (ci := 0) (v := .ref q27) (ty := .object "ReelOffice$Writer") (C := R_O) (T := F_O) (N := 12) hx hb htb in_O ft_O ft_O_ok n_O hown hK hP hD hS 0 rfl rfl 4 (by decide) (htb _ k_152) (fun _ h9 => h9) rfl hin rfl (by decide +kernel) rfl rfl (Nat.le_of_ble_eq_true rfl) d_O_init_34 (fun H locs hP hD hS => ?_)
  have hP : va_P (dC, dI) classes [(h0, .inr (0, [.ref q5, .null, .null, .ref q16, .ref q27, .null, .null, .null, .null, .null, .int 0, .int 0])), (q5, .inr (1, [.ref q9_9, .ref q18_9, .ref q25_9, .int 0, .int 0])), (q9_9, .inl (c9_9, 2, .inr (.inr (.inr (.inr (va_two q9a_9 q9b_9)))))), (q9a_9, .inl (c9a_9, 150, .inl (fun _ => 0))), (q9b_9, .inl (c9a_9, 150, .inl (fun _ => 0))), (q18_9, .inl (c9a_9, 3, .inl (fun _ => 0))), (q25_9, .inl (c9a_9, 3, .inl (fun _ => 0))), (q16, .inr (3, [.ref q6_20, .int 0, .int 0])), (q6_20, .inl (c9a_9, 3, .inl (fun _ => 0))), (q27, .inr (4, [.int 0, .int 1, .int 0, .int 0]))] H := hP
  have hD : va_D A [(h0, .inr (0, [.ref q5, .null, .null, .ref q16, .ref q27, .null, .null, .null, .null, .null, .int 0, .int 0])), (q5, .inr (1, [.ref q9_9, .ref q18_9, .ref q25_9, .int 0, .int 0])), (q9_9, .inl (c9_9, 2, .inr (.inr (.inr (.inr (va_two q9a_9 q9b_9)))))), (q9a_9, .inl (c9a_9, 150, .inl (fun _ => 0))), (q9b_9, .inl (c9a_9, 150, .inl (fun _ => 0))), (q18_9, .inl (c9a_9, 3, .inl (fun _ => 0))), (q25_9, .inl (c9a_9, 3, .inl (fun _ => 0))), (q16, .inr (3, [.ref q6_20, .int 0, .int 0])), (q6_20, .inl (c9a_9, 3, .inl (fun _ => 0))), (q27, .inr (4, [.int 0, .int 1, .int 0, .int 0]))] := hD
  refine lv_aload_n hx hb d_O_init_37 rfl (lv_at hl 0 rfl) ?_
  refine va_new (ci := 5) (fs := [.null, .int 0]) (C := R_R) (T := F_R) (N := 2) hx hb htb in_R ft_R ft_R_ok hown (htb _ k_84) (htb _ k_85) (htb _ k_5) hK hP hD hS hA rfl fs_R (Nat.le_of_ble_eq_true rfl) (Nat.le_of_ble_eq_true rfl) d_O_init_38 (fun q38 H hP hD hS => ?_)
  have hP : va_P (dC, dI) classes [(h0, .inr (0, [.ref q5, .null, .null, .ref q16, .ref q27, .null, .null, .null, .null, .null, .int 0, .int 0])), (q5, .inr (1, [.ref q9_9, .ref q18_9, .ref q25_9, .int 0, .int 0])), (q9_9, .inl (c9_9, 2, .inr (.inr (.inr (.inr (va_two q9a_9 q9b_9)))))), (q9a_9, .inl (c9a_9, 150, .inl (fun _ => 0))), (q9b_9, .inl (c9a_9, 150, .inl (fun _ => 0))), (q18_9, .inl (c9a_9, 3, .inl (fun _ => 0))), (q25_9, .inl (c9a_9, 3, .inl (fun _ => 0))), (q16, .inr (3, [.ref q6_20, .int 0, .int 0])), (q6_20, .inl (c9a_9, 3, .inl (fun _ => 0))), (q27, .inr (4, [.int 0, .int 1, .int 0, .int 0])), (q38, .inr (5, [.null, .int 0]))] H := hP
  have hD : va_D A [(h0, .inr (0, [.ref q5, .null, .null, .ref q16, .ref q27, .null, .null, .null, .null, .null, .int 0, .int 0])), (q5, .inr (1, [.ref q9_9, .ref q18_9, .ref q25_9, .int 0, .int 0])), (q9_9, .inl (c9_9, 2, .inr (.inr (.inr (.inr (va_two q9a_9 q9b_9)))))), (q9a_9, .inl (c9a_9, 150, .inl (fun _ => 0))), (q9b_9, .inl (c9a_9, 150, .inl (fun _ => 0))), (q18_9, .inl (c9a_9, 3, .inl (fun _ => 0))), (q25_9, .inl (c9a_9, 3, .inl (fun _ => 0))), (q16, .inr (3, [.ref q6_20, .int 0, .int 0])), (q6_20, .inl (c9a_9, 3, .inl (fun _ => 0))), (q27, .inr (4, [.int 0, .int 1, .int 0, .int 0])), (q38, .inr (5, [.null, .int 0]))] := hD
  refine lv_dup hx hb d_O_init_41 rfl ?_
  have hPc := hP.sub (ws' := [(q38, .inr (5, [.null, .int 0]))]) [10] rfl
  have hDc := hD.sub (ws' := [(q38, .inr (5, [.null, .int 0]))]) [10] (by decide) rfl
  have hFc := va_free (wc := [(q38, .inr (5, [.null, .int 0]))]) hD hS hA [10] rfl
  refine va_callv (va_runIN (As := []) (rest := [.ref q38, .ref h0]) ⟨hx, hb, hml, hown, hts⟩ (c_R_init l dC dI q38 H.size) ⟨va_cnB 0 hts (goodW k_88) rfl rfl rfl (hN.2.2.2.1) (htb _ k_5) ⟨by decide, by decide, by decide +kernel⟩ ⟨Nat.le_of_ble_eq_true rfl, Nat.le_of_ble_eq_true rfl⟩, rfl, htb _ k_87⟩ ⟨blindC, payC hPc (hK.sub (tys' := []) [] rfl) hDc hN⟩ rfl rfl hl.1 rfl (lv_room (Nat.le_of_ble_eq_true rfl)) d_O_init_42 ⟨Nat.le_of_ble_eq_true rfl, Nat.le_of_ble_eq_true rfl⟩) hS (fun q _ h => hFc q h) hFc (fun u t H locs ht hvm hpost hB hz1 hk1 hS => ?_)
  obtain ⟨q8_42, c8_42, hP1, hK1, hD1⟩ := hB
  rw [ht] at hP1
  have hK1 := va_K.moved hvm.symm hK1
  obtain ⟨hP, hD⟩ := va_join (wr := [(h0, .inr (0, [.ref q5, .null, .null, .ref q16, .ref q27, .null, .null, .null, .null, .null, .int 0, .int 0])), (q5, .inr (1, [.ref q9_9, .ref q18_9, .ref q25_9, .int 0, .int 0])), (q9_9, .inl (c9_9, 2, .inr (.inr (.inr (.inr (va_two q9a_9 q9b_9)))))), (q9a_9, .inl (c9a_9, 150, .inl (fun _ => 0))), (q9b_9, .inl (c9a_9, 150, .inl (fun _ => 0))), (q18_9, .inl (c9a_9, 3, .inl (fun _ => 0))), (q25_9, .inl (c9a_9, 3, .inl (fun _ => 0))), (q16, .inr (3, [.ref q6_20, .int 0, .int 0])), (q6_20, .inl (c9a_9, 3, .inl (fun _ => 0))), (q27, .inr (4, [.int 0, .int 1, .int 0, .int 0]))]) (w1 := [(q38, .inr (5, [.ref q8_42, .int 0])), (q8_42, .inl (c8_42, 150, .inl (fun _ => 0)))]) hP hD [10] [0, 1, 2, 3, 4, 5, 6, 7, 8, 9] rfl rfl (by decide) (by decide) hk1 hFc hP1 hD1
  have hK := hK.app hK1
  obtain rfl : c9a_9 = c8_42 := ka_i hK 1 2 rfl rfl
  have hK := hK.sub (tys' := [(c9_9, .array .int), (c9a_9, .int)]) [0, 1] rfl
  have hP : va_P (dC, dI) classes [(h0, .inr (0, [.ref q5, .null, .null, .ref q16, .ref q27, .null, .null, .null, .null, .null, .int 0, .int 0])), (q5, .inr (1, [.ref q9_9, .ref q18_9, .ref q25_9, .int 0, .int 0])), (q9_9, .inl (c9_9, 2, .inr (.inr (.inr (.inr (va_two q9a_9 q9b_9)))))), (q9a_9, .inl (c9a_9, 150, .inl (fun _ => 0))), (q9b_9, .inl (c9a_9, 150, .inl (fun _ => 0))), (q18_9, .inl (c9a_9, 3, .inl (fun _ => 0))), (q25_9, .inl (c9a_9, 3, .inl (fun _ => 0))), (q16, .inr (3, [.ref q6_20, .int 0, .int 0])), (q6_20, .inl (c9a_9, 3, .inl (fun _ => 0))), (q27, .inr (4, [.int 0, .int 1, .int 0, .int 0])), (q38, .inr (5, [.ref q8_42, .int 0])), (q8_42, .inl (c9a_9, 150, .inl (fun _ => 0)))] H := hP
  have hD : va_D A [(h0, .inr (0, [.ref q5, .null, .null, .ref q16, .ref q27, .null, .null, .null, .null, .null, .int 0, .int 0])), (q5, .inr (1, [.ref q9_9, .ref q18_9, .ref q25_9, .int 0, .int 0])), (q9_9, .inl (c9_9, 2, .inr (.inr (.inr (.inr (va_two q9a_9 q9b_9)))))), (q9a_9, .inl (c9a_9, 150, .inl (fun _ => 0))), (q9b_9, .inl (c9a_9, 150, .inl (fun _ => 0))), (q18_9, .inl (c9a_9, 3, .inl (fun _ => 0))), (q25_9, .inl (c9a_9, 3, .inl (fun _ => 0))), (q16, .inr (3, [.ref q6_20, .int 0, .int 0])), (q6_20, .inl (c9a_9, 3, .inl (fun _ => 0))), (q27, .inr (4, [.int 0, .int 1, .int 0, .int 0])), (q38, .inr (5, [.ref q8_42, .int 0])), (q8_42, .inl (c9a_9, 150, .inl (fun _ => 0)))] := hD
  have hK : va_K (dC, dI) classes [(c9_9, .array .int), (c9a_9, .int)] s := hK
  refine va_putF (D := (dC, dI)) (ci := 0) (v := .ref q38) (ty := .object "ReelOffice$Row") (C := R_O) (T := F_O) (N := 12) hx hb htb in_O ft_O ft_O_ok n_O hown hK hP hD hS 0 rfl rfl 5 (by decide) (htb _ k_153) (fun _ h9 => h9) rfl hin rfl (by decide +kernel) rfl rfl (Nat.le_of_ble_eq_true rfl) d_O_init_45 (fun H locs hP hD hS => ?_)
  have hP : va_P (dC, dI) classes [(h0, .inr (0, [.ref q5, .null, .null, .ref q16, .ref q27, .ref q38, .null, .null, .null, .null, .int 0, .int 0])), (q5, .inr (1, [.ref q9_9, .ref q18_9, .ref q25_9, .int 0, .int 0])), (q9_9, .inl (c9_9, 2, .inr (.inr (.inr (.inr (va_two q9a_9 q9b_9)))))), (q9a_9, .inl (c9a_9, 150, .inl (fun _ => 0))), (q9b_9, .inl (c9a_9, 150, .inl (fun _ => 0))), (q18_9, .inl (c9a_9, 3, .inl (fun _ => 0))), (q25_9, .inl (c9a_9, 3, .inl (fun _ => 0))), (q16, .inr (3, [.ref q6_20, .int 0, .int 0])), (q6_20, .inl (c9a_9, 3, .inl (fun _ => 0))), (q27, .inr (4, [.int 0, .int 1, .int 0, .int 0])), (q38, .inr (5, [.ref q8_42, .int 0])), (q8_42, .inl (c9a_9, 150, .inl (fun _ => 0)))] H := hP
  have hD : va_D A [(h0, .inr (0, [.ref q5, .null, .null, .ref q16, .ref q27, .ref q38, .null, .null, .null, .null, .int 0, .int 0])), (q5, .inr (1, [.ref q9_9, .ref q18_9, .ref q25_9, .int 0, .int 0])), (q9_9, .inl (c9_9, 2, .inr (.inr (.inr (.inr (va_two q9a_9 q9b_9)))))), (q9a_9, .inl (c9a_9, 150, .inl (fun _ => 0))), (q9b_9, .inl (c9a_9, 150, .inl (fun _ => 0))), (q18_9, .inl (c9a_9, 3, .inl (fun _ => 0))), (q25_9, .inl (c9a_9, 3, .inl (fun _ => 0))), (q16, .inr (3, [.ref q6_20, .int 0, .int 0])), (q6_20, .inl (c9a_9, 3, .inl (fun _ => 0))), (q27, .inr (4, [.int 0, .int 1, .int 0, .int 0])), (q38, .inr (5, [.ref q8_42, .int 0])), (q8_42, .inl (c9a_9, 150, .inl (fun _ => 0)))] := hD
  refine lv_aload_n hx hb d_O_init_48 rfl (lv_at hl 0 rfl) ?_
  refine lv_iconst (v := 4) hx hb d_O_init_49 (by decide) ?_
  refine va_newq (C := R_T) (N' := 4) hx hb hown (htb _ k_99) hN.2.2.2.2.2.2.2.2.1 hK hP hD hS hA (by decide) rfl (by decide) (Nat.le_of_ble_eq_true rfl) (Nat.le_of_ble_eq_true rfl) d_O_init_50 (fun q50 c50 H hK hP hD hS => ?_)
  have hP : va_P (dC, dI) classes [(h0, .inr (0, [.ref q5, .null, .null, .ref q16, .ref q27, .ref q38, .null, .null, .null, .null, .int 0, .int 0])), (q5, .inr (1, [.ref q9_9, .ref q18_9, .ref q25_9, .int 0, .int 0])), (q9_9, .inl (c9_9, 2, .inr (.inr (.inr (.inr (va_two q9a_9 q9b_9)))))), (q9a_9, .inl (c9a_9, 150, .inl (fun _ => 0))), (q9b_9, .inl (c9a_9, 150, .inl (fun _ => 0))), (q18_9, .inl (c9a_9, 3, .inl (fun _ => 0))), (q25_9, .inl (c9a_9, 3, .inl (fun _ => 0))), (q16, .inr (3, [.ref q6_20, .int 0, .int 0])), (q6_20, .inl (c9a_9, 3, .inl (fun _ => 0))), (q27, .inr (4, [.int 0, .int 1, .int 0, .int 0])), (q38, .inr (5, [.ref q8_42, .int 0])), (q8_42, .inl (c9a_9, 150, .inl (fun _ => 0))), (q50, .inl (c50, 4, .inr (.inr (.inr (.inr (fun _ => none))))))] H := hP
  have hD : va_D A [(h0, .inr (0, [.ref q5, .null, .null, .ref q16, .ref q27, .ref q38, .null, .null, .null, .null, .int 0, .int 0])), (q5, .inr (1, [.ref q9_9, .ref q18_9, .ref q25_9, .int 0, .int 0])), (q9_9, .inl (c9_9, 2, .inr (.inr (.inr (.inr (va_two q9a_9 q9b_9)))))), (q9a_9, .inl (c9a_9, 150, .inl (fun _ => 0))), (q9b_9, .inl (c9a_9, 150, .inl (fun _ => 0))), (q18_9, .inl (c9a_9, 3, .inl (fun _ => 0))), (q25_9, .inl (c9a_9, 3, .inl (fun _ => 0))), (q16, .inr (3, [.ref q6_20, .int 0, .int 0])), (q6_20, .inl (c9a_9, 3, .inl (fun _ => 0))), (q27, .inr (4, [.int 0, .int 1, .int 0, .int 0])), (q38, .inr (5, [.ref q8_42, .int 0])), (q8_42, .inl (c9a_9, 150, .inl (fun _ => 0))), (q50, .inl (c50, 4, .inr (.inr (.inr (.inr (fun _ => none))))))] := hD
  have hK : va_K (dC, dI) classes [(c9_9, .array .int), (c9a_9, .int), (c50, .object "ReelOffice$Tape")] s := hK
  refine va_putF (D := (dC, dI)) (ci := 0) (v := .ref q50) (ty := .array (.object "ReelOffice$Tape")) (C := R_O) (T := F_O) (N := 12) hx hb htb in_O ft_O ft_O_ok n_O hown hK hP hD hS 0 rfl rfl 6 (by decide) (htb _ k_154) (fun _ h9 => h9) rfl hin rfl (by decide +kernel) rfl rfl (Nat.le_of_ble_eq_true rfl) d_O_init_53 (fun H locs hP hD hS => ?_)
  have hP : va_P (dC, dI) classes [(h0, .inr (0, [.ref q5, .null, .null, .ref q16, .ref q27, .ref q38, .ref q50, .null, .null, .null, .int 0, .int 0])), (q5, .inr (1, [.ref q9_9, .ref q18_9, .ref q25_9, .int 0, .int 0])), (q9_9, .inl (c9_9, 2, .inr (.inr (.inr (.inr (va_two q9a_9 q9b_9)))))), (q9a_9, .inl (c9a_9, 150, .inl (fun _ => 0))), (q9b_9, .inl (c9a_9, 150, .inl (fun _ => 0))), (q18_9, .inl (c9a_9, 3, .inl (fun _ => 0))), (q25_9, .inl (c9a_9, 3, .inl (fun _ => 0))), (q16, .inr (3, [.ref q6_20, .int 0, .int 0])), (q6_20, .inl (c9a_9, 3, .inl (fun _ => 0))), (q27, .inr (4, [.int 0, .int 1, .int 0, .int 0])), (q38, .inr (5, [.ref q8_42, .int 0])), (q8_42, .inl (c9a_9, 150, .inl (fun _ => 0))), (q50, .inl (c50, 4, .inr (.inr (.inr (.inr (fun _ => none))))))] H := hP
  have hD : va_D A [(h0, .inr (0, [.ref q5, .null, .null, .ref q16, .ref q27, .ref q38, .ref q50, .null, .null, .null, .int 0, .int 0])), (q5, .inr (1, [.ref q9_9, .ref q18_9, .ref q25_9, .int 0, .int 0])), (q9_9, .inl (c9_9, 2, .inr (.inr (.inr (.inr (va_two q9a_9 q9b_9)))))), (q9a_9, .inl (c9a_9, 150, .inl (fun _ => 0))), (q9b_9, .inl (c9a_9, 150, .inl (fun _ => 0))), (q18_9, .inl (c9a_9, 3, .inl (fun _ => 0))), (q25_9, .inl (c9a_9, 3, .inl (fun _ => 0))), (q16, .inr (3, [.ref q6_20, .int 0, .int 0])), (q6_20, .inl (c9a_9, 3, .inl (fun _ => 0))), (q27, .inr (4, [.int 0, .int 1, .int 0, .int 0])), (q38, .inr (5, [.ref q8_42, .int 0])), (q8_42, .inl (c9a_9, 150, .inl (fun _ => 0))), (q50, .inl (c50, 4, .inr (.inr (.inr (.inr (fun _ => none))))))] := hD
  refine lv_aload_n hx hb d_O_init_56 rfl (lv_at hl 0 rfl) ?_
  refine lv_iconst (v := 4) hx hb d_O_init_57 (by decide) ?_
  refine va_newa (ty := .int) (a0 := (4, .inl (fun _ => 0))) (N' := 4) hx hb (htb _ k_48) rfl hK hP hD hS hA (fun _ => rfl) (by decide) rfl (by decide) (Nat.le_of_ble_eq_true rfl) (Nat.le_of_ble_eq_true rfl) d_O_init_58 (fun q58 c58 H hK hP hD hS => ?_)
  obtain rfl : c9a_9 = c58 := ka_i hK 1 3 rfl rfl
  have hK := hK.sub (tys' := [(c9_9, .array .int), (c9a_9, .int), (c50, .object "ReelOffice$Tape")]) [0, 1, 2] rfl
  have hP : va_P (dC, dI) classes [(h0, .inr (0, [.ref q5, .null, .null, .ref q16, .ref q27, .ref q38, .ref q50, .null, .null, .null, .int 0, .int 0])), (q5, .inr (1, [.ref q9_9, .ref q18_9, .ref q25_9, .int 0, .int 0])), (q9_9, .inl (c9_9, 2, .inr (.inr (.inr (.inr (va_two q9a_9 q9b_9)))))), (q9a_9, .inl (c9a_9, 150, .inl (fun _ => 0))), (q9b_9, .inl (c9a_9, 150, .inl (fun _ => 0))), (q18_9, .inl (c9a_9, 3, .inl (fun _ => 0))), (q25_9, .inl (c9a_9, 3, .inl (fun _ => 0))), (q16, .inr (3, [.ref q6_20, .int 0, .int 0])), (q6_20, .inl (c9a_9, 3, .inl (fun _ => 0))), (q27, .inr (4, [.int 0, .int 1, .int 0, .int 0])), (q38, .inr (5, [.ref q8_42, .int 0])), (q8_42, .inl (c9a_9, 150, .inl (fun _ => 0))), (q50, .inl (c50, 4, .inr (.inr (.inr (.inr (fun _ => none)))))), (q58, .inl (c9a_9, 4, .inl (fun _ => 0)))] H := hP
  have hD : va_D A [(h0, .inr (0, [.ref q5, .null, .null, .ref q16, .ref q27, .ref q38, .ref q50, .null, .null, .null, .int 0, .int 0])), (q5, .inr (1, [.ref q9_9, .ref q18_9, .ref q25_9, .int 0, .int 0])), (q9_9, .inl (c9_9, 2, .inr (.inr (.inr (.inr (va_two q9a_9 q9b_9)))))), (q9a_9, .inl (c9a_9, 150, .inl (fun _ => 0))), (q9b_9, .inl (c9a_9, 150, .inl (fun _ => 0))), (q18_9, .inl (c9a_9, 3, .inl (fun _ => 0))), (q25_9, .inl (c9a_9, 3, .inl (fun _ => 0))), (q16, .inr (3, [.ref q6_20, .int 0, .int 0])), (q6_20, .inl (c9a_9, 3, .inl (fun _ => 0))), (q27, .inr (4, [.int 0, .int 1, .int 0, .int 0])), (q38, .inr (5, [.ref q8_42, .int 0])), (q8_42, .inl (c9a_9, 150, .inl (fun _ => 0))), (q50, .inl (c50, 4, .inr (.inr (.inr (.inr (fun _ => none)))))), (q58, .inl (c9a_9, 4, .inl (fun _ => 0)))] := hD
  have hK : va_K (dC, dI) classes [(c9_9, .array .int), (c9a_9, .int), (c50, .object "ReelOffice$Tape")] s := hK
  refine va_putF (D := (dC, dI)) (ci := 0) (v := .ref q58) (ty := .array (.int)) (C := R_O) (T := F_O) (N := 12) hx hb htb in_O ft_O ft_O_ok n_O hown hK hP hD hS 0 rfl rfl 7 (by decide) (htb _ k_155) (fun _ h9 => h9) rfl hin rfl (by decide +kernel) rfl rfl (Nat.le_of_ble_eq_true rfl) d_O_init_60 (fun H locs hP hD hS => ?_)
  have hP : va_P (dC, dI) classes [(h0, .inr (0, [.ref q5, .null, .null, .ref q16, .ref q27, .ref q38, .ref q50, .ref q58, .null, .null, .int 0, .int 0])), (q5, .inr (1, [.ref q9_9, .ref q18_9, .ref q25_9, .int 0, .int 0])), (q9_9, .inl (c9_9, 2, .inr (.inr (.inr (.inr (va_two q9a_9 q9b_9)))))), (q9a_9, .inl (c9a_9, 150, .inl (fun _ => 0))), (q9b_9, .inl (c9a_9, 150, .inl (fun _ => 0))), (q18_9, .inl (c9a_9, 3, .inl (fun _ => 0))), (q25_9, .inl (c9a_9, 3, .inl (fun _ => 0))), (q16, .inr (3, [.ref q6_20, .int 0, .int 0])), (q6_20, .inl (c9a_9, 3, .inl (fun _ => 0))), (q27, .inr (4, [.int 0, .int 1, .int 0, .int 0])), (q38, .inr (5, [.ref q8_42, .int 0])), (q8_42, .inl (c9a_9, 150, .inl (fun _ => 0))), (q50, .inl (c50, 4, .inr (.inr (.inr (.inr (fun _ => none)))))), (q58, .inl (c9a_9, 4, .inl (fun _ => 0)))] H := hP
  have hD : va_D A [(h0, .inr (0, [.ref q5, .null, .null, .ref q16, .ref q27, .ref q38, .ref q50, .ref q58, .null, .null, .int 0, .int 0])), (q5, .inr (1, [.ref q9_9, .ref q18_9, .ref q25_9, .int 0, .int 0])), (q9_9, .inl (c9_9, 2, .inr (.inr (.inr (.inr (va_two q9a_9 q9b_9)))))), (q9a_9, .inl (c9a_9, 150, .inl (fun _ => 0))), (q9b_9, .inl (c9a_9, 150, .inl (fun _ => 0))), (q18_9, .inl (c9a_9, 3, .inl (fun _ => 0))), (q25_9, .inl (c9a_9, 3, .inl (fun _ => 0))), (q16, .inr (3, [.ref q6_20, .int 0, .int 0])), (q6_20, .inl (c9a_9, 3, .inl (fun _ => 0))), (q27, .inr (4, [.int 0, .int 1, .int 0, .int 0])), (q38, .inr (5, [.ref q8_42, .int 0])), (q8_42, .inl (c9a_9, 150, .inl (fun _ => 0))), (q50, .inl (c50, 4, .inr (.inr (.inr (.inr (fun _ => none)))))), (q58, .inl (c9a_9, 4, .inl (fun _ => 0)))] := hD
  refine lv_aload_n hx hb d_O_init_63 rfl (lv_at hl 0 rfl) ?_
  refine lv_iconst (v := 3) hx hb d_O_init_64 (by decide) ?_
  refine va_newa (ty := .int) (a0 := (3, .inl (fun _ => 0))) (N' := 3) hx hb (htb _ k_48) rfl hK hP hD hS hA (fun _ => rfl) (by decide) rfl (by decide) (Nat.le_of_ble_eq_true rfl) (Nat.le_of_ble_eq_true rfl) d_O_init_65 (fun q65 c65 H hK hP hD hS => ?_)
  obtain rfl : c9a_9 = c65 := ka_i hK 1 3 rfl rfl
  have hK := hK.sub (tys' := [(c9_9, .array .int), (c9a_9, .int), (c50, .object "ReelOffice$Tape")]) [0, 1, 2] rfl
  have hP : va_P (dC, dI) classes [(h0, .inr (0, [.ref q5, .null, .null, .ref q16, .ref q27, .ref q38, .ref q50, .ref q58, .null, .null, .int 0, .int 0])), (q5, .inr (1, [.ref q9_9, .ref q18_9, .ref q25_9, .int 0, .int 0])), (q9_9, .inl (c9_9, 2, .inr (.inr (.inr (.inr (va_two q9a_9 q9b_9)))))), (q9a_9, .inl (c9a_9, 150, .inl (fun _ => 0))), (q9b_9, .inl (c9a_9, 150, .inl (fun _ => 0))), (q18_9, .inl (c9a_9, 3, .inl (fun _ => 0))), (q25_9, .inl (c9a_9, 3, .inl (fun _ => 0))), (q16, .inr (3, [.ref q6_20, .int 0, .int 0])), (q6_20, .inl (c9a_9, 3, .inl (fun _ => 0))), (q27, .inr (4, [.int 0, .int 1, .int 0, .int 0])), (q38, .inr (5, [.ref q8_42, .int 0])), (q8_42, .inl (c9a_9, 150, .inl (fun _ => 0))), (q50, .inl (c50, 4, .inr (.inr (.inr (.inr (fun _ => none)))))), (q58, .inl (c9a_9, 4, .inl (fun _ => 0))), (q65, .inl (c9a_9, 3, .inl (fun _ => 0)))] H := hP
  have hD : va_D A [(h0, .inr (0, [.ref q5, .null, .null, .ref q16, .ref q27, .ref q38, .ref q50, .ref q58, .null, .null, .int 0, .int 0])), (q5, .inr (1, [.ref q9_9, .ref q18_9, .ref q25_9, .int 0, .int 0])), (q9_9, .inl (c9_9, 2, .inr (.inr (.inr (.inr (va_two q9a_9 q9b_9)))))), (q9a_9, .inl (c9a_9, 150, .inl (fun _ => 0))), (q9b_9, .inl (c9a_9, 150, .inl (fun _ => 0))), (q18_9, .inl (c9a_9, 3, .inl (fun _ => 0))), (q25_9, .inl (c9a_9, 3, .inl (fun _ => 0))), (q16, .inr (3, [.ref q6_20, .int 0, .int 0])), (q6_20, .inl (c9a_9, 3, .inl (fun _ => 0))), (q27, .inr (4, [.int 0, .int 1, .int 0, .int 0])), (q38, .inr (5, [.ref q8_42, .int 0])), (q8_42, .inl (c9a_9, 150, .inl (fun _ => 0))), (q50, .inl (c50, 4, .inr (.inr (.inr (.inr (fun _ => none)))))), (q58, .inl (c9a_9, 4, .inl (fun _ => 0))), (q65, .inl (c9a_9, 3, .inl (fun _ => 0)))] := hD
  have hK : va_K (dC, dI) classes [(c9_9, .array .int), (c9a_9, .int), (c50, .object "ReelOffice$Tape")] s := hK
  refine va_putF (D := (dC, dI)) (ci := 0) (v := .ref q65) (ty := .array (.int)) (C := R_O) (T := F_O) (N := 12) hx hb htb in_O ft_O ft_O_ok n_O hown hK hP hD hS 0 rfl rfl 8 (by decide) (htb _ k_156) (fun _ h9 => h9) rfl hin rfl (by decide +kernel) rfl rfl (Nat.le_of_ble_eq_true rfl) d_O_init_67 (fun H locs hP hD hS => ?_)
  have hP : va_P (dC, dI) classes [(h0, .inr (0, [.ref q5, .null, .null, .ref q16, .ref q27, .ref q38, .ref q50, .ref q58, .ref q65, .null, .int 0, .int 0])), (q5, .inr (1, [.ref q9_9, .ref q18_9, .ref q25_9, .int 0, .int 0])), (q9_9, .inl (c9_9, 2, .inr (.inr (.inr (.inr (va_two q9a_9 q9b_9)))))), (q9a_9, .inl (c9a_9, 150, .inl (fun _ => 0))), (q9b_9, .inl (c9a_9, 150, .inl (fun _ => 0))), (q18_9, .inl (c9a_9, 3, .inl (fun _ => 0))), (q25_9, .inl (c9a_9, 3, .inl (fun _ => 0))), (q16, .inr (3, [.ref q6_20, .int 0, .int 0])), (q6_20, .inl (c9a_9, 3, .inl (fun _ => 0))), (q27, .inr (4, [.int 0, .int 1, .int 0, .int 0])), (q38, .inr (5, [.ref q8_42, .int 0])), (q8_42, .inl (c9a_9, 150, .inl (fun _ => 0))), (q50, .inl (c50, 4, .inr (.inr (.inr (.inr (fun _ => none)))))), (q58, .inl (c9a_9, 4, .inl (fun _ => 0))), (q65, .inl (c9a_9, 3, .inl (fun _ => 0)))] H := hP
  have hD : va_D A [(h0, .inr (0, [.ref q5, .null, .null, .ref q16, .ref q27, .ref q38, .ref q50, .ref q58, .ref q65, .null, .int 0, .int 0])), (q5, .inr (1, [.ref q9_9, .ref q18_9, .ref q25_9, .int 0, .int 0])), (q9_9, .inl (c9_9, 2, .inr (.inr (.inr (.inr (va_two q9a_9 q9b_9)))))), (q9a_9, .inl (c9a_9, 150, .inl (fun _ => 0))), (q9b_9, .inl (c9a_9, 150, .inl (fun _ => 0))), (q18_9, .inl (c9a_9, 3, .inl (fun _ => 0))), (q25_9, .inl (c9a_9, 3, .inl (fun _ => 0))), (q16, .inr (3, [.ref q6_20, .int 0, .int 0])), (q6_20, .inl (c9a_9, 3, .inl (fun _ => 0))), (q27, .inr (4, [.int 0, .int 1, .int 0, .int 0])), (q38, .inr (5, [.ref q8_42, .int 0])), (q8_42, .inl (c9a_9, 150, .inl (fun _ => 0))), (q50, .inl (c50, 4, .inr (.inr (.inr (.inr (fun _ => none)))))), (q58, .inl (c9a_9, 4, .inl (fun _ => 0))), (q65, .inl (c9a_9, 3, .inl (fun _ => 0)))] := hD
  refine lv_aload_n hx hb d_O_init_70 rfl (lv_at hl 0 rfl) ?_
  refine lv_iconst (v := 3) hx hb d_O_init_71 (by decide) ?_
  refine va_newa (ty := .int) (a0 := (3, .inl (fun _ => 0))) (N' := 3) hx hb (htb _ k_48) rfl hK hP hD hS hA (fun _ => rfl) (by decide) rfl (by decide) (Nat.le_of_ble_eq_true rfl) (Nat.le_of_ble_eq_true rfl) d_O_init_72 (fun q72 c72 H hK hP hD hS => ?_)
  obtain rfl : c9a_9 = c72 := ka_i hK 1 3 rfl rfl
  have hK := hK.sub (tys' := [(c9_9, .array .int), (c9a_9, .int), (c50, .object "ReelOffice$Tape")]) [0, 1, 2] rfl
  have hP : va_P (dC, dI) classes [(h0, .inr (0, [.ref q5, .null, .null, .ref q16, .ref q27, .ref q38, .ref q50, .ref q58, .ref q65, .null, .int 0, .int 0])), (q5, .inr (1, [.ref q9_9, .ref q18_9, .ref q25_9, .int 0, .int 0])), (q9_9, .inl (c9_9, 2, .inr (.inr (.inr (.inr (va_two q9a_9 q9b_9)))))), (q9a_9, .inl (c9a_9, 150, .inl (fun _ => 0))), (q9b_9, .inl (c9a_9, 150, .inl (fun _ => 0))), (q18_9, .inl (c9a_9, 3, .inl (fun _ => 0))), (q25_9, .inl (c9a_9, 3, .inl (fun _ => 0))), (q16, .inr (3, [.ref q6_20, .int 0, .int 0])), (q6_20, .inl (c9a_9, 3, .inl (fun _ => 0))), (q27, .inr (4, [.int 0, .int 1, .int 0, .int 0])), (q38, .inr (5, [.ref q8_42, .int 0])), (q8_42, .inl (c9a_9, 150, .inl (fun _ => 0))), (q50, .inl (c50, 4, .inr (.inr (.inr (.inr (fun _ => none)))))), (q58, .inl (c9a_9, 4, .inl (fun _ => 0))), (q65, .inl (c9a_9, 3, .inl (fun _ => 0))), (q72, .inl (c9a_9, 3, .inl (fun _ => 0)))] H := hP
  have hD : va_D A [(h0, .inr (0, [.ref q5, .null, .null, .ref q16, .ref q27, .ref q38, .ref q50, .ref q58, .ref q65, .null, .int 0, .int 0])), (q5, .inr (1, [.ref q9_9, .ref q18_9, .ref q25_9, .int 0, .int 0])), (q9_9, .inl (c9_9, 2, .inr (.inr (.inr (.inr (va_two q9a_9 q9b_9)))))), (q9a_9, .inl (c9a_9, 150, .inl (fun _ => 0))), (q9b_9, .inl (c9a_9, 150, .inl (fun _ => 0))), (q18_9, .inl (c9a_9, 3, .inl (fun _ => 0))), (q25_9, .inl (c9a_9, 3, .inl (fun _ => 0))), (q16, .inr (3, [.ref q6_20, .int 0, .int 0])), (q6_20, .inl (c9a_9, 3, .inl (fun _ => 0))), (q27, .inr (4, [.int 0, .int 1, .int 0, .int 0])), (q38, .inr (5, [.ref q8_42, .int 0])), (q8_42, .inl (c9a_9, 150, .inl (fun _ => 0))), (q50, .inl (c50, 4, .inr (.inr (.inr (.inr (fun _ => none)))))), (q58, .inl (c9a_9, 4, .inl (fun _ => 0))), (q65, .inl (c9a_9, 3, .inl (fun _ => 0))), (q72, .inl (c9a_9, 3, .inl (fun _ => 0)))] := hD
  have hK : va_K (dC, dI) classes [(c9_9, .array .int), (c9a_9, .int), (c50, .object "ReelOffice$Tape")] s := hK
  refine va_putF (D := (dC, dI)) (ci := 0) (v := .ref q72) (ty := .array (.int)) (C := R_O) (T := F_O) (N := 12) hx hb htb in_O ft_O ft_O_ok n_O hown hK hP hD hS 0 rfl rfl 9 (by decide) (htb _ k_157) (fun _ h9 => h9) rfl hin rfl (by decide +kernel) rfl rfl (Nat.le_of_ble_eq_true rfl) d_O_init_74 (fun H locs hP hD hS => ?_)
  have hP : va_P (dC, dI) classes [(h0, .inr (0, [.ref q5, .null, .null, .ref q16, .ref q27, .ref q38, .ref q50, .ref q58, .ref q65, .ref q72, .int 0, .int 0])), (q5, .inr (1, [.ref q9_9, .ref q18_9, .ref q25_9, .int 0, .int 0])), (q9_9, .inl (c9_9, 2, .inr (.inr (.inr (.inr (va_two q9a_9 q9b_9)))))), (q9a_9, .inl (c9a_9, 150, .inl (fun _ => 0))), (q9b_9, .inl (c9a_9, 150, .inl (fun _ => 0))), (q18_9, .inl (c9a_9, 3, .inl (fun _ => 0))), (q25_9, .inl (c9a_9, 3, .inl (fun _ => 0))), (q16, .inr (3, [.ref q6_20, .int 0, .int 0])), (q6_20, .inl (c9a_9, 3, .inl (fun _ => 0))), (q27, .inr (4, [.int 0, .int 1, .int 0, .int 0])), (q38, .inr (5, [.ref q8_42, .int 0])), (q8_42, .inl (c9a_9, 150, .inl (fun _ => 0))), (q50, .inl (c50, 4, .inr (.inr (.inr (.inr (fun _ => none)))))), (q58, .inl (c9a_9, 4, .inl (fun _ => 0))), (q65, .inl (c9a_9, 3, .inl (fun _ => 0))), (q72, .inl (c9a_9, 3, .inl (fun _ => 0)))] H := hP
  have hD : va_D A [(h0, .inr (0, [.ref q5, .null, .null, .ref q16, .ref q27, .ref q38, .ref q50, .ref q58, .ref q65, .ref q72, .int 0, .int 0])), (q5, .inr (1, [.ref q9_9, .ref q18_9, .ref q25_9, .int 0, .int 0])), (q9_9, .inl (c9_9, 2, .inr (.inr (.inr (.inr (va_two q9a_9 q9b_9)))))), (q9a_9, .inl (c9a_9, 150, .inl (fun _ => 0))), (q9b_9, .inl (c9a_9, 150, .inl (fun _ => 0))), (q18_9, .inl (c9a_9, 3, .inl (fun _ => 0))), (q25_9, .inl (c9a_9, 3, .inl (fun _ => 0))), (q16, .inr (3, [.ref q6_20, .int 0, .int 0])), (q6_20, .inl (c9a_9, 3, .inl (fun _ => 0))), (q27, .inr (4, [.int 0, .int 1, .int 0, .int 0])), (q38, .inr (5, [.ref q8_42, .int 0])), (q8_42, .inl (c9a_9, 150, .inl (fun _ => 0))), (q50, .inl (c50, 4, .inr (.inr (.inr (.inr (fun _ => none)))))), (q58, .inl (c9a_9, 4, .inl (fun _ => 0))), (q65, .inl (c9a_9, 3, .inl (fun _ => 0))), (q72, .inl (c9a_9, 3, .inl (fun _ => 0)))] := hD
  refine lv_aload_n hx hb d_O_init_77 rfl (lv_at hl 0 rfl) ?_
  refine lv_iconst (v := 0) hx hb d_O_init_78 (by decide) ?_
  refine va_put (D := (dC, dI)) (ci := 0) (v := .int 0) (ty := .int) (C := R_O) (T := F_O) (N := 12) hx hb htb in_O ft_O ft_O_ok n_O hown hK hP hD hS 0 rfl rfl 10 (by decide) (htb _ k_158) (fun _ h9 => h9) rfl (by decide +kernel) rfl rfl (Nat.le_of_ble_eq_true rfl) d_O_init_79 (fun H locs hP hD hS => ?_)
  have hP : va_P (dC, dI) classes [(h0, .inr (0, [.ref q5, .null, .null, .ref q16, .ref q27, .ref q38, .ref q50, .ref q58, .ref q65, .ref q72, .int 0, .int 0])), (q5, .inr (1, [.ref q9_9, .ref q18_9, .ref q25_9, .int 0, .int 0])), (q9_9, .inl (c9_9, 2, .inr (.inr (.inr (.inr (va_two q9a_9 q9b_9)))))), (q9a_9, .inl (c9a_9, 150, .inl (fun _ => 0))), (q9b_9, .inl (c9a_9, 150, .inl (fun _ => 0))), (q18_9, .inl (c9a_9, 3, .inl (fun _ => 0))), (q25_9, .inl (c9a_9, 3, .inl (fun _ => 0))), (q16, .inr (3, [.ref q6_20, .int 0, .int 0])), (q6_20, .inl (c9a_9, 3, .inl (fun _ => 0))), (q27, .inr (4, [.int 0, .int 1, .int 0, .int 0])), (q38, .inr (5, [.ref q8_42, .int 0])), (q8_42, .inl (c9a_9, 150, .inl (fun _ => 0))), (q50, .inl (c50, 4, .inr (.inr (.inr (.inr (fun _ => none)))))), (q58, .inl (c9a_9, 4, .inl (fun _ => 0))), (q65, .inl (c9a_9, 3, .inl (fun _ => 0))), (q72, .inl (c9a_9, 3, .inl (fun _ => 0)))] H := hP
  have hD : va_D A [(h0, .inr (0, [.ref q5, .null, .null, .ref q16, .ref q27, .ref q38, .ref q50, .ref q58, .ref q65, .ref q72, .int 0, .int 0])), (q5, .inr (1, [.ref q9_9, .ref q18_9, .ref q25_9, .int 0, .int 0])), (q9_9, .inl (c9_9, 2, .inr (.inr (.inr (.inr (va_two q9a_9 q9b_9)))))), (q9a_9, .inl (c9a_9, 150, .inl (fun _ => 0))), (q9b_9, .inl (c9a_9, 150, .inl (fun _ => 0))), (q18_9, .inl (c9a_9, 3, .inl (fun _ => 0))), (q25_9, .inl (c9a_9, 3, .inl (fun _ => 0))), (q16, .inr (3, [.ref q6_20, .int 0, .int 0])), (q6_20, .inl (c9a_9, 3, .inl (fun _ => 0))), (q27, .inr (4, [.int 0, .int 1, .int 0, .int 0])), (q38, .inr (5, [.ref q8_42, .int 0])), (q8_42, .inl (c9a_9, 150, .inl (fun _ => 0))), (q50, .inl (c50, 4, .inr (.inr (.inr (.inr (fun _ => none)))))), (q58, .inl (c9a_9, 4, .inl (fun _ => 0))), (q65, .inl (c9a_9, 3, .inl (fun _ => 0))), (q72, .inl (c9a_9, 3, .inl (fun _ => 0)))] := hD
  refine lv_aload_n hx hb d_O_init_82 rfl (lv_at hl 0 rfl) ?_
  refine lv_iconst (v := 0) hx hb d_O_init_83 (by decide) ?_
  refine va_put (D := (dC, dI)) (ci := 0) (v := .int 0) (ty := .int) (C := R_O) (T := F_O) (N := 12) hx hb htb in_O ft_O ft_O_ok n_O hown hK hP hD hS 0 rfl rfl 11 (by decide) (htb _ k_159) (fun _ h9 => h9) rfl (by decide +kernel) rfl rfl (Nat.le_of_ble_eq_true rfl) d_O_init_84 (fun H locs hP hD hS => ?_)
  have hP : va_P (dC, dI) classes [(h0, .inr (0, [.ref q5, .null, .null, .ref q16, .ref q27, .ref q38, .ref q50, .ref q58, .ref q65, .ref q72, .int 0, .int 0])), (q5, .inr (1, [.ref q9_9, .ref q18_9, .ref q25_9, .int 0, .int 0])), (q9_9, .inl (c9_9, 2, .inr (.inr (.inr (.inr (va_two q9a_9 q9b_9)))))), (q9a_9, .inl (c9a_9, 150, .inl (fun _ => 0))), (q9b_9, .inl (c9a_9, 150, .inl (fun _ => 0))), (q18_9, .inl (c9a_9, 3, .inl (fun _ => 0))), (q25_9, .inl (c9a_9, 3, .inl (fun _ => 0))), (q16, .inr (3, [.ref q6_20, .int 0, .int 0])), (q6_20, .inl (c9a_9, 3, .inl (fun _ => 0))), (q27, .inr (4, [.int 0, .int 1, .int 0, .int 0])), (q38, .inr (5, [.ref q8_42, .int 0])), (q8_42, .inl (c9a_9, 150, .inl (fun _ => 0))), (q50, .inl (c50, 4, .inr (.inr (.inr (.inr (fun _ => none)))))), (q58, .inl (c9a_9, 4, .inl (fun _ => 0))), (q65, .inl (c9a_9, 3, .inl (fun _ => 0))), (q72, .inl (c9a_9, 3, .inl (fun _ => 0)))] H := hP
  have hD : va_D A [(h0, .inr (0, [.ref q5, .null, .null, .ref q16, .ref q27, .ref q38, .ref q50, .ref q58, .ref q65, .ref q72, .int 0, .int 0])), (q5, .inr (1, [.ref q9_9, .ref q18_9, .ref q25_9, .int 0, .int 0])), (q9_9, .inl (c9_9, 2, .inr (.inr (.inr (.inr (va_two q9a_9 q9b_9)))))), (q9a_9, .inl (c9a_9, 150, .inl (fun _ => 0))), (q9b_9, .inl (c9a_9, 150, .inl (fun _ => 0))), (q18_9, .inl (c9a_9, 3, .inl (fun _ => 0))), (q25_9, .inl (c9a_9, 3, .inl (fun _ => 0))), (q16, .inr (3, [.ref q6_20, .int 0, .int 0])), (q6_20, .inl (c9a_9, 3, .inl (fun _ => 0))), (q27, .inr (4, [.int 0, .int 1, .int 0, .int 0])), (q38, .inr (5, [.ref q8_42, .int 0])), (q8_42, .inl (c9a_9, 150, .inl (fun _ => 0))), (q50, .inl (c50, 4, .inr (.inr (.inr (.inr (fun _ => none)))))), (q58, .inl (c9a_9, 4, .inl (fun _ => 0))), (q65, .inl (c9a_9, 3, .inl (fun _ => 0))), (q72, .inl (c9a_9, 3, .inl (fun _ => 0)))] := hD
  refine lv_iload_n hx hb d_O_init_87 rfl (lv_at hl 1 rfl) ?_
  refine lv_iconst (v := 1) hx hb d_O_init_88 (by decide) ?_
  refine W_cut (pc := 103) (fun H locs ls st => ∃ rv : Int32, st = [.int rv] ∧ rm4 a1 = rv ∧ lv_has ls 4 [(0, .ref h0), (1, .int a1)] ∧ va_P (dC, dI) classes [(h0, .inr (0, [.ref q5, .null, .null, .ref q16, .ref q27, .ref q38, .ref q50, .ref q58, .ref q65, .ref q72, .int 0, .int 0])), (q5, .inr (1, [.ref q9_9, .ref q18_9, .ref q25_9, .int 0, .int 0])), (q9_9, .inl (c9_9, 2, .inr (.inr (.inr (.inr (va_two q9a_9 q9b_9)))))), (q9a_9, .inl (c9a_9, 150, .inl (fun _ => 0))), (q9b_9, .inl (c9a_9, 150, .inl (fun _ => 0))), (q18_9, .inl (c9a_9, 3, .inl (fun _ => 0))), (q25_9, .inl (c9a_9, 3, .inl (fun _ => 0))), (q16, .inr (3, [.ref q6_20, .int 0, .int 0])), (q6_20, .inl (c9a_9, 3, .inl (fun _ => 0))), (q27, .inr (4, [.int 0, .int 1, .int 0, .int 0])), (q38, .inr (5, [.ref q8_42, .int 0])), (q8_42, .inl (c9a_9, 150, .inl (fun _ => 0))), (q50, .inl (c50, 4, .inr (.inr (.inr (.inr (fun _ => none)))))), (q58, .inl (c9a_9, 4, .inl (fun _ => 0))), (q65, .inl (c9a_9, 3, .inl (fun _ => 0))), (q72, .inl (c9a_9, 3, .inl (fun _ => 0)))] H ∧ va_D A [(h0, .inr (0, [.ref q5, .null, .null, .ref q16, .ref q27, .ref q38, .ref q50, .ref q58, .ref q65, .ref q72, .int 0, .int 0])), (q5, .inr (1, [.ref q9_9, .ref q18_9, .ref q25_9, .int 0, .int 0])), (q9_9, .inl (c9_9, 2, .inr (.inr (.inr (.inr (va_two q9a_9 q9b_9)))))), (q9a_9, .inl (c9a_9, 150, .inl (fun _ => 0))), (q9b_9, .inl (c9a_9, 150, .inl (fun _ => 0))), (q18_9, .inl (c9a_9, 3, .inl (fun _ => 0))), (q25_9, .inl (c9a_9, 3, .inl (fun _ => 0))), (q16, .inr (3, [.ref q6_20, .int 0, .int 0])), (q6_20, .inl (c9a_9, 3, .inl (fun _ => 0))), (q27, .inr (4, [.int 0, .int 1, .int 0, .int 0])), (q38, .inr (5, [.ref q8_42, .int 0])), (q8_42, .inl (c9a_9, 150, .inl (fun _ => 0))), (q50, .inl (c50, 4, .inr (.inr (.inr (.inr (fun _ => none)))))), (q58, .inl (c9a_9, 4, .inl (fun _ => 0))), (q65, .inl (c9a_9, 3, .inl (fun _ => 0))), (q72, .inl (c9a_9, 3, .inl (fun _ => 0)))] ∧ va_S A s.heap H locs) ?_ ?_
  · intro H locs ls st hI
    obtain ⟨rv, rfl, hi1, hl, hP, hD, hS⟩ := hI
    refine lv_istore_n hx hb d_O_init_103 rfl hl (by decide) (lv' := [(2, .int rv), (0, .ref h0), (1, .int a1)]) rfl (fun ls hl => ?_)
    refine lv_aload_n hx hb d_O_init_104 rfl (lv_at hl 1 rfl) ?_
    refine va_new (ci := 2) (fs := [.int 0, .null, .null, .int 0, .int 0]) (C := R_S) (T := F_S) (N := 5) hx hb htb in_S ft_S ft_S_ok hown (htb _ k_101) (htb _ k_102) (htb _ k_6) hK hP hD hS hA rfl fs_S (Nat.le_of_ble_eq_true rfl) (Nat.le_of_ble_eq_true rfl) d_O_init_105 (fun q105 H hP hD hS => ?_)
    have hP : va_P (dC, dI) classes [(h0, .inr (0, [.ref q5, .null, .null, .ref q16, .ref q27, .ref q38, .ref q50, .ref q58, .ref q65, .ref q72, .int 0, .int 0])), (q5, .inr (1, [.ref q9_9, .ref q18_9, .ref q25_9, .int 0, .int 0])), (q9_9, .inl (c9_9, 2, .inr (.inr (.inr (.inr (va_two q9a_9 q9b_9)))))), (q9a_9, .inl (c9a_9, 150, .inl (fun _ => 0))), (q9b_9, .inl (c9a_9, 150, .inl (fun _ => 0))), (q18_9, .inl (c9a_9, 3, .inl (fun _ => 0))), (q25_9, .inl (c9a_9, 3, .inl (fun _ => 0))), (q16, .inr (3, [.ref q6_20, .int 0, .int 0])), (q6_20, .inl (c9a_9, 3, .inl (fun _ => 0))), (q27, .inr (4, [.int 0, .int 1, .int 0, .int 0])), (q38, .inr (5, [.ref q8_42, .int 0])), (q8_42, .inl (c9a_9, 150, .inl (fun _ => 0))), (q50, .inl (c50, 4, .inr (.inr (.inr (.inr (fun _ => none)))))), (q58, .inl (c9a_9, 4, .inl (fun _ => 0))), (q65, .inl (c9a_9, 3, .inl (fun _ => 0))), (q72, .inl (c9a_9, 3, .inl (fun _ => 0))), (q105, .inr (2, [.int 0, .null, .null, .int 0, .int 0]))] H := hP
    have hD : va_D A [(h0, .inr (0, [.ref q5, .null, .null, .ref q16, .ref q27, .ref q38, .ref q50, .ref q58, .ref q65, .ref q72, .int 0, .int 0])), (q5, .inr (1, [.ref q9_9, .ref q18_9, .ref q25_9, .int 0, .int 0])), (q9_9, .inl (c9_9, 2, .inr (.inr (.inr (.inr (va_two q9a_9 q9b_9)))))), (q9a_9, .inl (c9a_9, 150, .inl (fun _ => 0))), (q9b_9, .inl (c9a_9, 150, .inl (fun _ => 0))), (q18_9, .inl (c9a_9, 3, .inl (fun _ => 0))), (q25_9, .inl (c9a_9, 3, .inl (fun _ => 0))), (q16, .inr (3, [.ref q6_20, .int 0, .int 0])), (q6_20, .inl (c9a_9, 3, .inl (fun _ => 0))), (q27, .inr (4, [.int 0, .int 1, .int 0, .int 0])), (q38, .inr (5, [.ref q8_42, .int 0])), (q8_42, .inl (c9a_9, 150, .inl (fun _ => 0))), (q50, .inl (c50, 4, .inr (.inr (.inr (.inr (fun _ => none)))))), (q58, .inl (c9a_9, 4, .inl (fun _ => 0))), (q65, .inl (c9a_9, 3, .inl (fun _ => 0))), (q72, .inl (c9a_9, 3, .inl (fun _ => 0))), (q105, .inr (2, [.int 0, .null, .null, .int 0, .int 0]))] := hD
    refine lv_dup hx hb d_O_init_108 rfl ?_
    refine lv_iload_n hx hb d_O_init_109 rfl (lv_at hl 0 rfl) ?_
    have hPc := hP.sub (ws' := [(q105, .inr (2, [.int 0, .null, .null, .int 0, .int 0]))]) [16] rfl
    have hDc := hD.sub (ws' := [(q105, .inr (2, [.int 0, .null, .null, .int 0, .int 0]))]) [16] (by decide) rfl
    have hFc := va_free (wc := [(q105, .inr (2, [.int 0, .null, .null, .int 0, .int 0]))]) hD hS hA [16] rfl
    refine va_callv (va_runI (As := [.int rv]) (rest := [.ref q105, .ref h0]) ⟨hx, hb, hml, hown, hts⟩ (c_S_init l dC dI q105 H.size rv) (cwI 1 hts (goodW k_105) rfl rfl rfl (htb _ k_6) (htb _ k_103) (htb _ k_104) rfl ⟨by decide, by decide, by decide +kernel⟩ ⟨Nat.le_of_ble_eq_true rfl, Nat.le_of_ble_eq_true rfl⟩) ⟨blindC, payC hPc (hK.sub (tys' := []) [] rfl) hDc hN⟩ rfl rfl hl.1 rfl (lv_room (Nat.le_of_ble_eq_true rfl)) d_O_init_110 ⟨Nat.le_of_ble_eq_true rfl, Nat.le_of_ble_eq_true rfl⟩) hS (fun q _ h => hFc q h) hFc (fun u t H locs ht hvm hpost hB hz1 hk1 hS => ?_)
    obtain ⟨q7_110, q15_110, c7_110, c15_110, hP1, hK1, hD1⟩ := hB
    rw [ht] at hP1
    have hK1 := va_K.moved hvm.symm hK1
    obtain ⟨hP, hD⟩ := va_join (wr := [(h0, .inr (0, [.ref q5, .null, .null, .ref q16, .ref q27, .ref q38, .ref q50, .ref q58, .ref q65, .ref q72, .int 0, .int 0])), (q5, .inr (1, [.ref q9_9, .ref q18_9, .ref q25_9, .int 0, .int 0])), (q9_9, .inl (c9_9, 2, .inr (.inr (.inr (.inr (va_two q9a_9 q9b_9)))))), (q9a_9, .inl (c9a_9, 150, .inl (fun _ => 0))), (q9b_9, .inl (c9a_9, 150, .inl (fun _ => 0))), (q18_9, .inl (c9a_9, 3, .inl (fun _ => 0))), (q25_9, .inl (c9a_9, 3, .inl (fun _ => 0))), (q16, .inr (3, [.ref q6_20, .int 0, .int 0])), (q6_20, .inl (c9a_9, 3, .inl (fun _ => 0))), (q27, .inr (4, [.int 0, .int 1, .int 0, .int 0])), (q38, .inr (5, [.ref q8_42, .int 0])), (q8_42, .inl (c9a_9, 150, .inl (fun _ => 0))), (q50, .inl (c50, 4, .inr (.inr (.inr (.inr (fun _ => none)))))), (q58, .inl (c9a_9, 4, .inl (fun _ => 0))), (q65, .inl (c9a_9, 3, .inl (fun _ => 0))), (q72, .inl (c9a_9, 3, .inl (fun _ => 0)))]) (w1 := [(q105, .inr (2, [.int rv, .ref q7_110, .ref q15_110, .int 0, .int 0])), (q7_110, .inl (c7_110, 8, .inl (fun _ => 0))), (q15_110, .inl (c15_110, 8, .inl (fun _ => 0)))]) hP hD [16] [0, 1, 2, 3, 4, 5, 6, 7, 8, 9, 10, 11, 12, 13, 14, 15] rfl rfl (by decide) (by decide) hk1 hFc hP1 hD1
    have hK := hK.app hK1
    obtain rfl : c9a_9 = c7_110 := ka_i hK 1 3 rfl rfl
    have hK := hK.sub (tys' := [(c9_9, .array .int), (c9a_9, .int), (c50, .object "ReelOffice$Tape"), (c15_110, .boolean)]) [0, 1, 2, 4] rfl
    have hP : va_P (dC, dI) classes [(h0, .inr (0, [.ref q5, .null, .null, .ref q16, .ref q27, .ref q38, .ref q50, .ref q58, .ref q65, .ref q72, .int 0, .int 0])), (q5, .inr (1, [.ref q9_9, .ref q18_9, .ref q25_9, .int 0, .int 0])), (q9_9, .inl (c9_9, 2, .inr (.inr (.inr (.inr (va_two q9a_9 q9b_9)))))), (q9a_9, .inl (c9a_9, 150, .inl (fun _ => 0))), (q9b_9, .inl (c9a_9, 150, .inl (fun _ => 0))), (q18_9, .inl (c9a_9, 3, .inl (fun _ => 0))), (q25_9, .inl (c9a_9, 3, .inl (fun _ => 0))), (q16, .inr (3, [.ref q6_20, .int 0, .int 0])), (q6_20, .inl (c9a_9, 3, .inl (fun _ => 0))), (q27, .inr (4, [.int 0, .int 1, .int 0, .int 0])), (q38, .inr (5, [.ref q8_42, .int 0])), (q8_42, .inl (c9a_9, 150, .inl (fun _ => 0))), (q50, .inl (c50, 4, .inr (.inr (.inr (.inr (fun _ => none)))))), (q58, .inl (c9a_9, 4, .inl (fun _ => 0))), (q65, .inl (c9a_9, 3, .inl (fun _ => 0))), (q72, .inl (c9a_9, 3, .inl (fun _ => 0))), (q105, .inr (2, [.int rv, .ref q7_110, .ref q15_110, .int 0, .int 0])), (q7_110, .inl (c9a_9, 8, .inl (fun _ => 0))), (q15_110, .inl (c15_110, 8, .inl (fun _ => 0)))] H := hP
    have hD : va_D A [(h0, .inr (0, [.ref q5, .null, .null, .ref q16, .ref q27, .ref q38, .ref q50, .ref q58, .ref q65, .ref q72, .int 0, .int 0])), (q5, .inr (1, [.ref q9_9, .ref q18_9, .ref q25_9, .int 0, .int 0])), (q9_9, .inl (c9_9, 2, .inr (.inr (.inr (.inr (va_two q9a_9 q9b_9)))))), (q9a_9, .inl (c9a_9, 150, .inl (fun _ => 0))), (q9b_9, .inl (c9a_9, 150, .inl (fun _ => 0))), (q18_9, .inl (c9a_9, 3, .inl (fun _ => 0))), (q25_9, .inl (c9a_9, 3, .inl (fun _ => 0))), (q16, .inr (3, [.ref q6_20, .int 0, .int 0])), (q6_20, .inl (c9a_9, 3, .inl (fun _ => 0))), (q27, .inr (4, [.int 0, .int 1, .int 0, .int 0])), (q38, .inr (5, [.ref q8_42, .int 0])), (q8_42, .inl (c9a_9, 150, .inl (fun _ => 0))), (q50, .inl (c50, 4, .inr (.inr (.inr (.inr (fun _ => none)))))), (q58, .inl (c9a_9, 4, .inl (fun _ => 0))), (q65, .inl (c9a_9, 3, .inl (fun _ => 0))), (q72, .inl (c9a_9, 3, .inl (fun _ => 0))), (q105, .inr (2, [.int rv, .ref q7_110, .ref q15_110, .int 0, .int 0])), (q7_110, .inl (c9a_9, 8, .inl (fun _ => 0))), (q15_110, .inl (c15_110, 8, .inl (fun _ => 0)))] := hD
    have hK : va_K (dC, dI) classes [(c9_9, .array .int), (c9a_9, .int), (c50, .object "ReelOffice$Tape"), (c15_110, .boolean)] s := hK
    refine va_putF (D := (dC, dI)) (ci := 0) (v := .ref q105) (ty := .object "ReelOffice$Store") (C := R_O) (T := F_O) (N := 12) hx hb htb in_O ft_O ft_O_ok n_O hown hK hP hD hS 0 rfl rfl 1 (by decide) (htb _ k_149) (fun _ h9 => h9) rfl hin rfl (by decide +kernel) rfl rfl (Nat.le_of_ble_eq_true rfl) d_O_init_113 (fun H locs hP hD hS => ?_)
    have hP : va_P (dC, dI) classes [(h0, .inr (0, [.ref q5, .ref q105, .null, .ref q16, .ref q27, .ref q38, .ref q50, .ref q58, .ref q65, .ref q72, .int 0, .int 0])), (q5, .inr (1, [.ref q9_9, .ref q18_9, .ref q25_9, .int 0, .int 0])), (q9_9, .inl (c9_9, 2, .inr (.inr (.inr (.inr (va_two q9a_9 q9b_9)))))), (q9a_9, .inl (c9a_9, 150, .inl (fun _ => 0))), (q9b_9, .inl (c9a_9, 150, .inl (fun _ => 0))), (q18_9, .inl (c9a_9, 3, .inl (fun _ => 0))), (q25_9, .inl (c9a_9, 3, .inl (fun _ => 0))), (q16, .inr (3, [.ref q6_20, .int 0, .int 0])), (q6_20, .inl (c9a_9, 3, .inl (fun _ => 0))), (q27, .inr (4, [.int 0, .int 1, .int 0, .int 0])), (q38, .inr (5, [.ref q8_42, .int 0])), (q8_42, .inl (c9a_9, 150, .inl (fun _ => 0))), (q50, .inl (c50, 4, .inr (.inr (.inr (.inr (fun _ => none)))))), (q58, .inl (c9a_9, 4, .inl (fun _ => 0))), (q65, .inl (c9a_9, 3, .inl (fun _ => 0))), (q72, .inl (c9a_9, 3, .inl (fun _ => 0))), (q105, .inr (2, [.int rv, .ref q7_110, .ref q15_110, .int 0, .int 0])), (q7_110, .inl (c9a_9, 8, .inl (fun _ => 0))), (q15_110, .inl (c15_110, 8, .inl (fun _ => 0)))] H := hP
    have hD : va_D A [(h0, .inr (0, [.ref q5, .ref q105, .null, .ref q16, .ref q27, .ref q38, .ref q50, .ref q58, .ref q65, .ref q72, .int 0, .int 0])), (q5, .inr (1, [.ref q9_9, .ref q18_9, .ref q25_9, .int 0, .int 0])), (q9_9, .inl (c9_9, 2, .inr (.inr (.inr (.inr (va_two q9a_9 q9b_9)))))), (q9a_9, .inl (c9a_9, 150, .inl (fun _ => 0))), (q9b_9, .inl (c9a_9, 150, .inl (fun _ => 0))), (q18_9, .inl (c9a_9, 3, .inl (fun _ => 0))), (q25_9, .inl (c9a_9, 3, .inl (fun _ => 0))), (q16, .inr (3, [.ref q6_20, .int 0, .int 0])), (q6_20, .inl (c9a_9, 3, .inl (fun _ => 0))), (q27, .inr (4, [.int 0, .int 1, .int 0, .int 0])), (q38, .inr (5, [.ref q8_42, .int 0])), (q8_42, .inl (c9a_9, 150, .inl (fun _ => 0))), (q50, .inl (c50, 4, .inr (.inr (.inr (.inr (fun _ => none)))))), (q58, .inl (c9a_9, 4, .inl (fun _ => 0))), (q65, .inl (c9a_9, 3, .inl (fun _ => 0))), (q72, .inl (c9a_9, 3, .inl (fun _ => 0))), (q105, .inr (2, [.int rv, .ref q7_110, .ref q15_110, .int 0, .int 0])), (q7_110, .inl (c9a_9, 8, .inl (fun _ => 0))), (q15_110, .inl (c15_110, 8, .inl (fun _ => 0)))] := hD
    refine lv_aload_n hx hb d_O_init_116 rfl (lv_at hl 1 rfl) ?_
    refine va_new (ci := 2) (fs := [.int 0, .null, .null, .int 0, .int 0]) (C := R_S) (T := F_S) (N := 5) hx hb htb in_S ft_S ft_S_ok hown (htb _ k_101) (htb _ k_102) (htb _ k_6) hK hP hD hS hA rfl fs_S (Nat.le_of_ble_eq_true rfl) (Nat.le_of_ble_eq_true rfl) d_O_init_117 (fun q117 H hP hD hS => ?_)
    have hP : va_P (dC, dI) classes [(h0, .inr (0, [.ref q5, .ref q105, .null, .ref q16, .ref q27, .ref q38, .ref q50, .ref q58, .ref q65, .ref q72, .int 0, .int 0])), (q5, .inr (1, [.ref q9_9, .ref q18_9, .ref q25_9, .int 0, .int 0])), (q9_9, .inl (c9_9, 2, .inr (.inr (.inr (.inr (va_two q9a_9 q9b_9)))))), (q9a_9, .inl (c9a_9, 150, .inl (fun _ => 0))), (q9b_9, .inl (c9a_9, 150, .inl (fun _ => 0))), (q18_9, .inl (c9a_9, 3, .inl (fun _ => 0))), (q25_9, .inl (c9a_9, 3, .inl (fun _ => 0))), (q16, .inr (3, [.ref q6_20, .int 0, .int 0])), (q6_20, .inl (c9a_9, 3, .inl (fun _ => 0))), (q27, .inr (4, [.int 0, .int 1, .int 0, .int 0])), (q38, .inr (5, [.ref q8_42, .int 0])), (q8_42, .inl (c9a_9, 150, .inl (fun _ => 0))), (q50, .inl (c50, 4, .inr (.inr (.inr (.inr (fun _ => none)))))), (q58, .inl (c9a_9, 4, .inl (fun _ => 0))), (q65, .inl (c9a_9, 3, .inl (fun _ => 0))), (q72, .inl (c9a_9, 3, .inl (fun _ => 0))), (q105, .inr (2, [.int rv, .ref q7_110, .ref q15_110, .int 0, .int 0])), (q7_110, .inl (c9a_9, 8, .inl (fun _ => 0))), (q15_110, .inl (c15_110, 8, .inl (fun _ => 0))), (q117, .inr (2, [.int 0, .null, .null, .int 0, .int 0]))] H := hP
    have hD : va_D A [(h0, .inr (0, [.ref q5, .ref q105, .null, .ref q16, .ref q27, .ref q38, .ref q50, .ref q58, .ref q65, .ref q72, .int 0, .int 0])), (q5, .inr (1, [.ref q9_9, .ref q18_9, .ref q25_9, .int 0, .int 0])), (q9_9, .inl (c9_9, 2, .inr (.inr (.inr (.inr (va_two q9a_9 q9b_9)))))), (q9a_9, .inl (c9a_9, 150, .inl (fun _ => 0))), (q9b_9, .inl (c9a_9, 150, .inl (fun _ => 0))), (q18_9, .inl (c9a_9, 3, .inl (fun _ => 0))), (q25_9, .inl (c9a_9, 3, .inl (fun _ => 0))), (q16, .inr (3, [.ref q6_20, .int 0, .int 0])), (q6_20, .inl (c9a_9, 3, .inl (fun _ => 0))), (q27, .inr (4, [.int 0, .int 1, .int 0, .int 0])), (q38, .inr (5, [.ref q8_42, .int 0])), (q8_42, .inl (c9a_9, 150, .inl (fun _ => 0))), (q50, .inl (c50, 4, .inr (.inr (.inr (.inr (fun _ => none)))))), (q58, .inl (c9a_9, 4, .inl (fun _ => 0))), (q65, .inl (c9a_9, 3, .inl (fun _ => 0))), (q72, .inl (c9a_9, 3, .inl (fun _ => 0))), (q105, .inr (2, [.int rv, .ref q7_110, .ref q15_110, .int 0, .int 0])), (q7_110, .inl (c9a_9, 8, .inl (fun _ => 0))), (q15_110, .inl (c15_110, 8, .inl (fun _ => 0))), (q117, .inr (2, [.int 0, .null, .null, .int 0, .int 0]))] := hD
    refine lv_dup hx hb d_O_init_120 rfl ?_
    refine lv_iload_n hx hb d_O_init_121 rfl (lv_at hl 0 rfl) ?_
    have hPc := hP.sub (ws' := [(q117, .inr (2, [.int 0, .null, .null, .int 0, .int 0]))]) [19] rfl
    have hDc := hD.sub (ws' := [(q117, .inr (2, [.int 0, .null, .null, .int 0, .int 0]))]) [19] (by decide) rfl
    have hFc := va_free (wc := [(q117, .inr (2, [.int 0, .null, .null, .int 0, .int 0]))]) hD hS hA [19] rfl
    refine va_callv (va_runI (As := [.int rv]) (rest := [.ref q117, .ref h0]) ⟨hx, hb, hml, hown, hts⟩ (c_S_init l dC dI q117 H.size rv) (cwI 1 hts (goodW k_105) rfl rfl rfl (htb _ k_6) (htb _ k_103) (htb _ k_104) rfl ⟨by decide, by decide, by decide +kernel⟩ ⟨Nat.le_of_ble_eq_true rfl, Nat.le_of_ble_eq_true rfl⟩) ⟨blindC, payC hPc (hK.sub (tys' := []) [] rfl) hDc hN⟩ rfl rfl hl.1 rfl (lv_room (Nat.le_of_ble_eq_true rfl)) d_O_init_122 ⟨Nat.le_of_ble_eq_true rfl, Nat.le_of_ble_eq_true rfl⟩) hS (fun q _ h => hFc q h) hFc (fun u t H locs ht hvm hpost hB hz1 hk1 hS => ?_)
    obtain ⟨q7_122, q15_122, c7_122, c15_122, hP1, hK1, hD1⟩ := hB
    rw [ht] at hP1
    have hK1 := va_K.moved hvm.symm hK1
    obtain ⟨hP, hD⟩ := va_join (wr := [(h0, .inr (0, [.ref q5, .ref q105, .null, .ref q16, .ref q27, .ref q38, .ref q50, .ref q58, .ref q65, .ref q72, .int 0, .int 0])), (q5, .inr (1, [.ref q9_9, .ref q18_9, .ref q25_9, .int 0, .int 0])), (q9_9, .inl (c9_9, 2, .inr (.inr (.inr (.inr (va_two q9a_9 q9b_9)))))), (q9a_9, .inl (c9a_9, 150, .inl (fun _ => 0))), (q9b_9, .inl (c9a_9, 150, .inl (fun _ => 0))), (q18_9, .inl (c9a_9, 3, .inl (fun _ => 0))), (q25_9, .inl (c9a_9, 3, .inl (fun _ => 0))), (q16, .inr (3, [.ref q6_20, .int 0, .int 0])), (q6_20, .inl (c9a_9, 3, .inl (fun _ => 0))), (q27, .inr (4, [.int 0, .int 1, .int 0, .int 0])), (q38, .inr (5, [.ref q8_42, .int 0])), (q8_42, .inl (c9a_9, 150, .inl (fun _ => 0))), (q50, .inl (c50, 4, .inr (.inr (.inr (.inr (fun _ => none)))))), (q58, .inl (c9a_9, 4, .inl (fun _ => 0))), (q65, .inl (c9a_9, 3, .inl (fun _ => 0))), (q72, .inl (c9a_9, 3, .inl (fun _ => 0))), (q105, .inr (2, [.int rv, .ref q7_110, .ref q15_110, .int 0, .int 0])), (q7_110, .inl (c9a_9, 8, .inl (fun _ => 0))), (q15_110, .inl (c15_110, 8, .inl (fun _ => 0)))]) (w1 := [(q117, .inr (2, [.int rv, .ref q7_122, .ref q15_122, .int 0, .int 0])), (q7_122, .inl (c7_122, 8, .inl (fun _ => 0))), (q15_122, .inl (c15_122, 8, .inl (fun _ => 0)))]) hP hD [19] [0, 1, 2, 3, 4, 5, 6, 7, 8, 9, 10, 11, 12, 13, 14, 15, 16, 17, 18] rfl rfl (by decide) (by decide) hk1 hFc hP1 hD1
    have hK := hK.app hK1
    obtain rfl : c9a_9 = c7_122 := ka_i hK 1 4 rfl rfl
    obtain rfl : c15_110 = c15_122 := ka_z hK 3 5 rfl rfl
    have hK := hK.sub (tys' := [(c9_9, .array .int), (c9a_9, .int), (c50, .object "ReelOffice$Tape"), (c15_110, .boolean)]) [0, 1, 2, 3] rfl
    have hP : va_P (dC, dI) classes [(h0, .inr (0, [.ref q5, .ref q105, .null, .ref q16, .ref q27, .ref q38, .ref q50, .ref q58, .ref q65, .ref q72, .int 0, .int 0])), (q5, .inr (1, [.ref q9_9, .ref q18_9, .ref q25_9, .int 0, .int 0])), (q9_9, .inl (c9_9, 2, .inr (.inr (.inr (.inr (va_two q9a_9 q9b_9)))))), (q9a_9, .inl (c9a_9, 150, .inl (fun _ => 0))), (q9b_9, .inl (c9a_9, 150, .inl (fun _ => 0))), (q18_9, .inl (c9a_9, 3, .inl (fun _ => 0))), (q25_9, .inl (c9a_9, 3, .inl (fun _ => 0))), (q16, .inr (3, [.ref q6_20, .int 0, .int 0])), (q6_20, .inl (c9a_9, 3, .inl (fun _ => 0))), (q27, .inr (4, [.int 0, .int 1, .int 0, .int 0])), (q38, .inr (5, [.ref q8_42, .int 0])), (q8_42, .inl (c9a_9, 150, .inl (fun _ => 0))), (q50, .inl (c50, 4, .inr (.inr (.inr (.inr (fun _ => none)))))), (q58, .inl (c9a_9, 4, .inl (fun _ => 0))), (q65, .inl (c9a_9, 3, .inl (fun _ => 0))), (q72, .inl (c9a_9, 3, .inl (fun _ => 0))), (q105, .inr (2, [.int rv, .ref q7_110, .ref q15_110, .int 0, .int 0])), (q7_110, .inl (c9a_9, 8, .inl (fun _ => 0))), (q15_110, .inl (c15_110, 8, .inl (fun _ => 0))), (q117, .inr (2, [.int rv, .ref q7_122, .ref q15_122, .int 0, .int 0])), (q7_122, .inl (c9a_9, 8, .inl (fun _ => 0))), (q15_122, .inl (c15_110, 8, .inl (fun _ => 0)))] H := hP
    have hD : va_D A [(h0, .inr (0, [.ref q5, .ref q105, .null, .ref q16, .ref q27, .ref q38, .ref q50, .ref q58, .ref q65, .ref q72, .int 0, .int 0])), (q5, .inr (1, [.ref q9_9, .ref q18_9, .ref q25_9, .int 0, .int 0])), (q9_9, .inl (c9_9, 2, .inr (.inr (.inr (.inr (va_two q9a_9 q9b_9)))))), (q9a_9, .inl (c9a_9, 150, .inl (fun _ => 0))), (q9b_9, .inl (c9a_9, 150, .inl (fun _ => 0))), (q18_9, .inl (c9a_9, 3, .inl (fun _ => 0))), (q25_9, .inl (c9a_9, 3, .inl (fun _ => 0))), (q16, .inr (3, [.ref q6_20, .int 0, .int 0])), (q6_20, .inl (c9a_9, 3, .inl (fun _ => 0))), (q27, .inr (4, [.int 0, .int 1, .int 0, .int 0])), (q38, .inr (5, [.ref q8_42, .int 0])), (q8_42, .inl (c9a_9, 150, .inl (fun _ => 0))), (q50, .inl (c50, 4, .inr (.inr (.inr (.inr (fun _ => none)))))), (q58, .inl (c9a_9, 4, .inl (fun _ => 0))), (q65, .inl (c9a_9, 3, .inl (fun _ => 0))), (q72, .inl (c9a_9, 3, .inl (fun _ => 0))), (q105, .inr (2, [.int rv, .ref q7_110, .ref q15_110, .int 0, .int 0])), (q7_110, .inl (c9a_9, 8, .inl (fun _ => 0))), (q15_110, .inl (c15_110, 8, .inl (fun _ => 0))), (q117, .inr (2, [.int rv, .ref q7_122, .ref q15_122, .int 0, .int 0])), (q7_122, .inl (c9a_9, 8, .inl (fun _ => 0))), (q15_122, .inl (c15_110, 8, .inl (fun _ => 0)))] := hD
    have hK : va_K (dC, dI) classes [(c9_9, .array .int), (c9a_9, .int), (c50, .object "ReelOffice$Tape"), (c15_110, .boolean)] s := hK
    refine va_putF (D := (dC, dI)) (ci := 0) (v := .ref q117) (ty := .object "ReelOffice$Store") (C := R_O) (T := F_O) (N := 12) hx hb htb in_O ft_O ft_O_ok n_O hown hK hP hD hS 0 rfl rfl 2 (by decide) (htb _ k_150) (fun _ h9 => h9) rfl hin rfl (by decide +kernel) rfl rfl (Nat.le_of_ble_eq_true rfl) d_O_init_125 (fun H locs hP hD hS => ?_)
    have hP : va_P (dC, dI) classes [(h0, .inr (0, [.ref q5, .ref q105, .ref q117, .ref q16, .ref q27, .ref q38, .ref q50, .ref q58, .ref q65, .ref q72, .int 0, .int 0])), (q5, .inr (1, [.ref q9_9, .ref q18_9, .ref q25_9, .int 0, .int 0])), (q9_9, .inl (c9_9, 2, .inr (.inr (.inr (.inr (va_two q9a_9 q9b_9)))))), (q9a_9, .inl (c9a_9, 150, .inl (fun _ => 0))), (q9b_9, .inl (c9a_9, 150, .inl (fun _ => 0))), (q18_9, .inl (c9a_9, 3, .inl (fun _ => 0))), (q25_9, .inl (c9a_9, 3, .inl (fun _ => 0))), (q16, .inr (3, [.ref q6_20, .int 0, .int 0])), (q6_20, .inl (c9a_9, 3, .inl (fun _ => 0))), (q27, .inr (4, [.int 0, .int 1, .int 0, .int 0])), (q38, .inr (5, [.ref q8_42, .int 0])), (q8_42, .inl (c9a_9, 150, .inl (fun _ => 0))), (q50, .inl (c50, 4, .inr (.inr (.inr (.inr (fun _ => none)))))), (q58, .inl (c9a_9, 4, .inl (fun _ => 0))), (q65, .inl (c9a_9, 3, .inl (fun _ => 0))), (q72, .inl (c9a_9, 3, .inl (fun _ => 0))), (q105, .inr (2, [.int rv, .ref q7_110, .ref q15_110, .int 0, .int 0])), (q7_110, .inl (c9a_9, 8, .inl (fun _ => 0))), (q15_110, .inl (c15_110, 8, .inl (fun _ => 0))), (q117, .inr (2, [.int rv, .ref q7_122, .ref q15_122, .int 0, .int 0])), (q7_122, .inl (c9a_9, 8, .inl (fun _ => 0))), (q15_122, .inl (c15_110, 8, .inl (fun _ => 0)))] H := hP
    have hD : va_D A [(h0, .inr (0, [.ref q5, .ref q105, .ref q117, .ref q16, .ref q27, .ref q38, .ref q50, .ref q58, .ref q65, .ref q72, .int 0, .int 0])), (q5, .inr (1, [.ref q9_9, .ref q18_9, .ref q25_9, .int 0, .int 0])), (q9_9, .inl (c9_9, 2, .inr (.inr (.inr (.inr (va_two q9a_9 q9b_9)))))), (q9a_9, .inl (c9a_9, 150, .inl (fun _ => 0))), (q9b_9, .inl (c9a_9, 150, .inl (fun _ => 0))), (q18_9, .inl (c9a_9, 3, .inl (fun _ => 0))), (q25_9, .inl (c9a_9, 3, .inl (fun _ => 0))), (q16, .inr (3, [.ref q6_20, .int 0, .int 0])), (q6_20, .inl (c9a_9, 3, .inl (fun _ => 0))), (q27, .inr (4, [.int 0, .int 1, .int 0, .int 0])), (q38, .inr (5, [.ref q8_42, .int 0])), (q8_42, .inl (c9a_9, 150, .inl (fun _ => 0))), (q50, .inl (c50, 4, .inr (.inr (.inr (.inr (fun _ => none)))))), (q58, .inl (c9a_9, 4, .inl (fun _ => 0))), (q65, .inl (c9a_9, 3, .inl (fun _ => 0))), (q72, .inl (c9a_9, 3, .inl (fun _ => 0))), (q105, .inr (2, [.int rv, .ref q7_110, .ref q15_110, .int 0, .int 0])), (q7_110, .inl (c9a_9, 8, .inl (fun _ => 0))), (q15_110, .inl (c15_110, 8, .inl (fun _ => 0))), (q117, .inr (2, [.int rv, .ref q7_122, .ref q15_122, .int 0, .int 0])), (q7_122, .inl (c9a_9, 8, .inl (fun _ => 0))), (q15_122, .inl (c15_110, 8, .inl (fun _ => 0)))] := hD
    refine lv_iconst (v := 0) hx hb d_O_init_128 (by decide) ?_
    refine lv_istore_n hx hb d_O_init_129 rfl hl (by decide) (lv' := [(3, .int 0), (2, .int rv), (0, .ref h0), (1, .int a1)]) rfl (fun ls hl => ?_)
    refine lv_iload_n hx hb d_O_init_130 rfl (lv_at hl 0 rfl) ?_
    refine lv_iconst (v := 4) hx hb d_O_init_131 (by decide) ?_
    refine lv_icmp_ge (tgt := 154) hx hb d_O_init_132 (by decide) (fun h => absurd h (by decide)) (fun _ => ?_)
    refine lv_aload_n hx hb d_O_init_135 rfl (lv_at hl 2 rfl) ?_
    refine va_get (D := (dC, dI)) (ci := 0) (v := .ref q50) (C := R_O) (T := F_O) (N := 12) hx hb htb in_O hown hK hP 0 rfl rfl 6 (by decide) (htb _ k_154) (fun _ h9 => h9) rfl d_O_init_136 ?_
    refine lv_iload_n hx hb d_O_init_139 rfl (lv_at hl 0 rfl) ?_
    refine va_new (ci := 6) (fs := [.null, .null, .int 0, .int 0, .int 0, .int 0]) (C := R_T) (T := F_T) (N := 6) hx hb htb in_T ft_T ft_T_ok hown (htb _ k_99) (htb _ k_124) (htb _ k_7) hK hP hD hS hA rfl fs_T (Nat.le_of_ble_eq_true rfl) (Nat.le_of_ble_eq_true rfl) d_O_init_140 (fun q140 H hP hD hS => ?_)
    have hP : va_P (dC, dI) classes [(h0, .inr (0, [.ref q5, .ref q105, .ref q117, .ref q16, .ref q27, .ref q38, .ref q50, .ref q58, .ref q65, .ref q72, .int 0, .int 0])), (q5, .inr (1, [.ref q9_9, .ref q18_9, .ref q25_9, .int 0, .int 0])), (q9_9, .inl (c9_9, 2, .inr (.inr (.inr (.inr (va_two q9a_9 q9b_9)))))), (q9a_9, .inl (c9a_9, 150, .inl (fun _ => 0))), (q9b_9, .inl (c9a_9, 150, .inl (fun _ => 0))), (q18_9, .inl (c9a_9, 3, .inl (fun _ => 0))), (q25_9, .inl (c9a_9, 3, .inl (fun _ => 0))), (q16, .inr (3, [.ref q6_20, .int 0, .int 0])), (q6_20, .inl (c9a_9, 3, .inl (fun _ => 0))), (q27, .inr (4, [.int 0, .int 1, .int 0, .int 0])), (q38, .inr (5, [.ref q8_42, .int 0])), (q8_42, .inl (c9a_9, 150, .inl (fun _ => 0))), (q50, .inl (c50, 4, .inr (.inr (.inr (.inr (fun _ => none)))))), (q58, .inl (c9a_9, 4, .inl (fun _ => 0))), (q65, .inl (c9a_9, 3, .inl (fun _ => 0))), (q72, .inl (c9a_9, 3, .inl (fun _ => 0))), (q105, .inr (2, [.int rv, .ref q7_110, .ref q15_110, .int 0, .int 0])), (q7_110, .inl (c9a_9, 8, .inl (fun _ => 0))), (q15_110, .inl (c15_110, 8, .inl (fun _ => 0))), (q117, .inr (2, [.int rv, .ref q7_122, .ref q15_122, .int 0, .int 0])), (q7_122, .inl (c9a_9, 8, .inl (fun _ => 0))), (q15_122, .inl (c15_110, 8, .inl (fun _ => 0))), (q140, .inr (6, [.null, .null, .int 0, .int 0, .int 0, .int 0]))] H := hP
    have hD : va_D A [(h0, .inr (0, [.ref q5, .ref q105, .ref q117, .ref q16, .ref q27, .ref q38, .ref q50, .ref q58, .ref q65, .ref q72, .int 0, .int 0])), (q5, .inr (1, [.ref q9_9, .ref q18_9, .ref q25_9, .int 0, .int 0])), (q9_9, .inl (c9_9, 2, .inr (.inr (.inr (.inr (va_two q9a_9 q9b_9)))))), (q9a_9, .inl (c9a_9, 150, .inl (fun _ => 0))), (q9b_9, .inl (c9a_9, 150, .inl (fun _ => 0))), (q18_9, .inl (c9a_9, 3, .inl (fun _ => 0))), (q25_9, .inl (c9a_9, 3, .inl (fun _ => 0))), (q16, .inr (3, [.ref q6_20, .int 0, .int 0])), (q6_20, .inl (c9a_9, 3, .inl (fun _ => 0))), (q27, .inr (4, [.int 0, .int 1, .int 0, .int 0])), (q38, .inr (5, [.ref q8_42, .int 0])), (q8_42, .inl (c9a_9, 150, .inl (fun _ => 0))), (q50, .inl (c50, 4, .inr (.inr (.inr (.inr (fun _ => none)))))), (q58, .inl (c9a_9, 4, .inl (fun _ => 0))), (q65, .inl (c9a_9, 3, .inl (fun _ => 0))), (q72, .inl (c9a_9, 3, .inl (fun _ => 0))), (q105, .inr (2, [.int rv, .ref q7_110, .ref q15_110, .int 0, .int 0])), (q7_110, .inl (c9a_9, 8, .inl (fun _ => 0))), (q15_110, .inl (c15_110, 8, .inl (fun _ => 0))), (q117, .inr (2, [.int rv, .ref q7_122, .ref q15_122, .int 0, .int 0])), (q7_122, .inl (c9a_9, 8, .inl (fun _ => 0))), (q15_122, .inl (c15_110, 8, .inl (fun _ => 0))), (q140, .inr (6, [.null, .null, .int 0, .int 0, .int 0, .int 0]))] := hD
    refine lv_dup hx hb d_O_init_143 rfl ?_
    have hPc := hP.sub (ws' := [(q140, .inr (6, [.null, .null, .int 0, .int 0, .int 0, .int 0]))]) [22] rfl
    have hDc := hD.sub (ws' := [(q140, .inr (6, [.null, .null, .int 0, .int 0, .int 0, .int 0]))]) [22] (by decide) rfl
    have hFc := va_free (wc := [(q140, .inr (6, [.null, .null, .int 0, .int 0, .int 0, .int 0]))]) hD hS hA [22] rfl
    refine va_callv (va_runIN (As := []) (rest := [.ref q140, .int 0, .ref q50]) ⟨hx, hb, hml, hown, hts⟩ (c_T_init l dC dI q140 H.size) ⟨va_cnB 0 hts (goodW k_127) rfl rfl rfl (hN.2.2.2.2.2.2.1) (htb _ k_7) ⟨by decide, by decide, by decide +kernel⟩ ⟨Nat.le_of_ble_eq_true rfl, Nat.le_of_ble_eq_true rfl⟩, rfl, htb _ k_126⟩ ⟨blindC, payC hPc (hK.sub (tys' := []) [] rfl) hDc hN⟩ rfl rfl hl.1 rfl (lv_room (Nat.le_of_ble_eq_true rfl)) d_O_init_144 ⟨Nat.le_of_ble_eq_true rfl, Nat.le_of_ble_eq_true rfl⟩) hS (fun q _ h => hFc q h) hFc (fun u t H locs ht hvm hpost hB hz1 hk1 hS => ?_)
    obtain ⟨q8_144, q17_144, c8_144, hP1, hK1, hD1⟩ := hB
    rw [ht] at hP1
    have hK1 := va_K.moved hvm.symm hK1
    obtain ⟨hP, hD⟩ := va_join (wr := [(h0, .inr (0, [.ref q5, .ref q105, .ref q117, .ref q16, .ref q27, .ref q38, .ref q50, .ref q58, .ref q65, .ref q72, .int 0, .int 0])), (q5, .inr (1, [.ref q9_9, .ref q18_9, .ref q25_9, .int 0, .int 0])), (q9_9, .inl (c9_9, 2, .inr (.inr (.inr (.inr (va_two q9a_9 q9b_9)))))), (q9a_9, .inl (c9a_9, 150, .inl (fun _ => 0))), (q9b_9, .inl (c9a_9, 150, .inl (fun _ => 0))), (q18_9, .inl (c9a_9, 3, .inl (fun _ => 0))), (q25_9, .inl (c9a_9, 3, .inl (fun _ => 0))), (q16, .inr (3, [.ref q6_20, .int 0, .int 0])), (q6_20, .inl (c9a_9, 3, .inl (fun _ => 0))), (q27, .inr (4, [.int 0, .int 1, .int 0, .int 0])), (q38, .inr (5, [.ref q8_42, .int 0])), (q8_42, .inl (c9a_9, 150, .inl (fun _ => 0))), (q50, .inl (c50, 4, .inr (.inr (.inr (.inr (fun _ => none)))))), (q58, .inl (c9a_9, 4, .inl (fun _ => 0))), (q65, .inl (c9a_9, 3, .inl (fun _ => 0))), (q72, .inl (c9a_9, 3, .inl (fun _ => 0))), (q105, .inr (2, [.int rv, .ref q7_110, .ref q15_110, .int 0, .int 0])), (q7_110, .inl (c9a_9, 8, .inl (fun _ => 0))), (q15_110, .inl (c15_110, 8, .inl (fun _ => 0))), (q117, .inr (2, [.int rv, .ref q7_122, .ref q15_122, .int 0, .int 0])), (q7_122, .inl (c9a_9, 8, .inl (fun _ => 0))), (q15_122, .inl (c15_110, 8, .inl (fun _ => 0)))]) (w1 := [(q140, .inr (6, [.ref q8_144, .ref q17_144, .int 0, .int 0, .int 0, .int 0])), (q8_144, .inl (c8_144, 150, .inl (fun _ => 0))), (q17_144, .inl (c8_144, 150, .inl (fun _ => 0)))]) hP hD [22] [0, 1, 2, 3, 4, 5, 6, 7, 8, 9, 10, 11, 12, 13, 14, 15, 16, 17, 18, 19, 20, 21] rfl rfl (by decide) (by decide) hk1 hFc hP1 hD1
    have hK := hK.app hK1
    obtain rfl : c9a_9 = c8_144 := ka_i hK 1 4 rfl rfl
    have hK := hK.sub (tys' := [(c9_9, .array .int), (c9a_9, .int), (c50, .object "ReelOffice$Tape"), (c15_110, .boolean)]) [0, 1, 2, 3] rfl
    have hP : va_P (dC, dI) classes [(h0, .inr (0, [.ref q5, .ref q105, .ref q117, .ref q16, .ref q27, .ref q38, .ref q50, .ref q58, .ref q65, .ref q72, .int 0, .int 0])), (q5, .inr (1, [.ref q9_9, .ref q18_9, .ref q25_9, .int 0, .int 0])), (q9_9, .inl (c9_9, 2, .inr (.inr (.inr (.inr (va_two q9a_9 q9b_9)))))), (q9a_9, .inl (c9a_9, 150, .inl (fun _ => 0))), (q9b_9, .inl (c9a_9, 150, .inl (fun _ => 0))), (q18_9, .inl (c9a_9, 3, .inl (fun _ => 0))), (q25_9, .inl (c9a_9, 3, .inl (fun _ => 0))), (q16, .inr (3, [.ref q6_20, .int 0, .int 0])), (q6_20, .inl (c9a_9, 3, .inl (fun _ => 0))), (q27, .inr (4, [.int 0, .int 1, .int 0, .int 0])), (q38, .inr (5, [.ref q8_42, .int 0])), (q8_42, .inl (c9a_9, 150, .inl (fun _ => 0))), (q50, .inl (c50, 4, .inr (.inr (.inr (.inr (fun _ => none)))))), (q58, .inl (c9a_9, 4, .inl (fun _ => 0))), (q65, .inl (c9a_9, 3, .inl (fun _ => 0))), (q72, .inl (c9a_9, 3, .inl (fun _ => 0))), (q105, .inr (2, [.int rv, .ref q7_110, .ref q15_110, .int 0, .int 0])), (q7_110, .inl (c9a_9, 8, .inl (fun _ => 0))), (q15_110, .inl (c15_110, 8, .inl (fun _ => 0))), (q117, .inr (2, [.int rv, .ref q7_122, .ref q15_122, .int 0, .int 0])), (q7_122, .inl (c9a_9, 8, .inl (fun _ => 0))), (q15_122, .inl (c15_110, 8, .inl (fun _ => 0))), (q140, .inr (6, [.ref q8_144, .ref q17_144, .int 0, .int 0, .int 0, .int 0])), (q8_144, .inl (c9a_9, 150, .inl (fun _ => 0))), (q17_144, .inl (c9a_9, 150, .inl (fun _ => 0)))] H := hP
    have hD : va_D A [(h0, .inr (0, [.ref q5, .ref q105, .ref q117, .ref q16, .ref q27, .ref q38, .ref q50, .ref q58, .ref q65, .ref q72, .int 0, .int 0])), (q5, .inr (1, [.ref q9_9, .ref q18_9, .ref q25_9, .int 0, .int 0])), (q9_9, .inl (c9_9, 2, .inr (.inr (.inr (.inr (va_two q9a_9 q9b_9)))))), (q9a_9, .inl (c9a_9, 150, .inl (fun _ => 0))), (q9b_9, .inl (c9a_9, 150, .inl (fun _ => 0))), (q18_9, .inl (c9a_9, 3, .inl (fun _ => 0))), (q25_9, .inl (c9a_9, 3, .inl (fun _ => 0))), (q16, .inr (3, [.ref q6_20, .int 0, .int 0])), (q6_20, .inl (c9a_9, 3, .inl (fun _ => 0))), (q27, .inr (4, [.int 0, .int 1, .int 0, .int 0])), (q38, .inr (5, [.ref q8_42, .int 0])), (q8_42, .inl (c9a_9, 150, .inl (fun _ => 0))), (q50, .inl (c50, 4, .inr (.inr (.inr (.inr (fun _ => none)))))), (q58, .inl (c9a_9, 4, .inl (fun _ => 0))), (q65, .inl (c9a_9, 3, .inl (fun _ => 0))), (q72, .inl (c9a_9, 3, .inl (fun _ => 0))), (q105, .inr (2, [.int rv, .ref q7_110, .ref q15_110, .int 0, .int 0])), (q7_110, .inl (c9a_9, 8, .inl (fun _ => 0))), (q15_110, .inl (c15_110, 8, .inl (fun _ => 0))), (q117, .inr (2, [.int rv, .ref q7_122, .ref q15_122, .int 0, .int 0])), (q7_122, .inl (c9a_9, 8, .inl (fun _ => 0))), (q15_122, .inl (c15_110, 8, .inl (fun _ => 0))), (q140, .inr (6, [.ref q8_144, .ref q17_144, .int 0, .int 0, .int 0, .int 0])), (q8_144, .inl (c9a_9, 150, .inl (fun _ => 0))), (q17_144, .inl (c9a_9, 150, .inl (fun _ => 0)))] := hD
    have hK : va_K (dC, dI) classes [(c9_9, .array .int), (c9a_9, .int), (c50, .object "ReelOffice$Tape"), (c15_110, .boolean)] s := hK
    refine va_astq (i := 0) hx hb hK hP hD hS 12 2 22 6 rfl rfl rfl rfl (inb_in (by decide)) d_O_init_147 (fun H locs hP hD hS => ?_)
    have hP : va_P (dC, dI) classes [(h0, .inr (0, [.ref q5, .ref q105, .ref q117, .ref q16, .ref q27, .ref q38, .ref q50, .ref q58, .ref q65, .ref q72, .int 0, .int 0])), (q5, .inr (1, [.ref q9_9, .ref q18_9, .ref q25_9, .int 0, .int 0])), (q9_9, .inl (c9_9, 2, .inr (.inr (.inr (.inr (va_two q9a_9 q9b_9)))))), (q9a_9, .inl (c9a_9, 150, .inl (fun _ => 0))), (q9b_9, .inl (c9a_9, 150, .inl (fun _ => 0))), (q18_9, .inl (c9a_9, 3, .inl (fun _ => 0))), (q25_9, .inl (c9a_9, 3, .inl (fun _ => 0))), (q16, .inr (3, [.ref q6_20, .int 0, .int 0])), (q6_20, .inl (c9a_9, 3, .inl (fun _ => 0))), (q27, .inr (4, [.int 0, .int 1, .int 0, .int 0])), (q38, .inr (5, [.ref q8_42, .int 0])), (q8_42, .inl (c9a_9, 150, .inl (fun _ => 0))), (q50, .inl (c50, 4, .inr (.inr (.inr (.inr (va_up (fun _ => none) (0 : Int32).toNatClampNeg (some q140))))))), (q58, .inl (c9a_9, 4, .inl (fun _ => 0))), (q65, .inl (c9a_9, 3, .inl (fun _ => 0))), (q72, .inl (c9a_9, 3, .inl (fun _ => 0))), (q105, .inr (2, [.int rv, .ref q7_110, .ref q15_110, .int 0, .int 0])), (q7_110, .inl (c9a_9, 8, .inl (fun _ => 0))), (q15_110, .inl (c15_110, 8, .inl (fun _ => 0))), (q117, .inr (2, [.int rv, .ref q7_122, .ref q15_122, .int 0, .int 0])), (q7_122, .inl (c9a_9, 8, .inl (fun _ => 0))), (q15_122, .inl (c15_110, 8, .inl (fun _ => 0))), (q140, .inr (6, [.ref q8_144, .ref q17_144, .int 0, .int 0, .int 0, .int 0])), (q8_144, .inl (c9a_9, 150, .inl (fun _ => 0))), (q17_144, .inl (c9a_9, 150, .inl (fun _ => 0)))] H := hP
    have hD : va_D A [(h0, .inr (0, [.ref q5, .ref q105, .ref q117, .ref q16, .ref q27, .ref q38, .ref q50, .ref q58, .ref q65, .ref q72, .int 0, .int 0])), (q5, .inr (1, [.ref q9_9, .ref q18_9, .ref q25_9, .int 0, .int 0])), (q9_9, .inl (c9_9, 2, .inr (.inr (.inr (.inr (va_two q9a_9 q9b_9)))))), (q9a_9, .inl (c9a_9, 150, .inl (fun _ => 0))), (q9b_9, .inl (c9a_9, 150, .inl (fun _ => 0))), (q18_9, .inl (c9a_9, 3, .inl (fun _ => 0))), (q25_9, .inl (c9a_9, 3, .inl (fun _ => 0))), (q16, .inr (3, [.ref q6_20, .int 0, .int 0])), (q6_20, .inl (c9a_9, 3, .inl (fun _ => 0))), (q27, .inr (4, [.int 0, .int 1, .int 0, .int 0])), (q38, .inr (5, [.ref q8_42, .int 0])), (q8_42, .inl (c9a_9, 150, .inl (fun _ => 0))), (q50, .inl (c50, 4, .inr (.inr (.inr (.inr (va_up (fun _ => none) (0 : Int32).toNatClampNeg (some q140))))))), (q58, .inl (c9a_9, 4, .inl (fun _ => 0))), (q65, .inl (c9a_9, 3, .inl (fun _ => 0))), (q72, .inl (c9a_9, 3, .inl (fun _ => 0))), (q105, .inr (2, [.int rv, .ref q7_110, .ref q15_110, .int 0, .int 0])), (q7_110, .inl (c9a_9, 8, .inl (fun _ => 0))), (q15_110, .inl (c15_110, 8, .inl (fun _ => 0))), (q117, .inr (2, [.int rv, .ref q7_122, .ref q15_122, .int 0, .int 0])), (q7_122, .inl (c9a_9, 8, .inl (fun _ => 0))), (q15_122, .inl (c15_110, 8, .inl (fun _ => 0))), (q140, .inr (6, [.ref q8_144, .ref q17_144, .int 0, .int 0, .int 0, .int 0])), (q8_144, .inl (c9a_9, 150, .inl (fun _ => 0))), (q17_144, .inl (c9a_9, 150, .inl (fun _ => 0)))] := hD
    refine lv_iinc (k := 0) (v := 1) hx hb d_O_init_148 hl rfl (by decide) (by decide) (lv' := [(3, .int 1), (2, .int rv), (0, .ref h0), (1, .int a1)]) rfl (fun ls hl => ?_)
    refine lv_goto (tgt := 130) hx hb d_O_init_151 (by decide) ?_
    refine lv_iload_n hx hb d_O_init_130 rfl (lv_at hl 0 rfl) ?_
    refine lv_iconst (v := 4) hx hb d_O_init_131 (by decide) ?_
    refine lv_icmp_ge (tgt := 154) hx hb d_O_init_132 (by decide) (fun h => absurd h (by decide)) (fun _ => ?_)
    refine lv_aload_n hx hb d_O_init_135 rfl (lv_at hl 2 rfl) ?_
    refine va_get (D := (dC, dI)) (ci := 0) (v := .ref q50) (C := R_O) (T := F_O) (N := 12) hx hb htb in_O hown hK hP 0 rfl rfl 6 (by decide) (htb _ k_154) (fun _ h9 => h9) rfl d_O_init_136 ?_
    refine lv_iload_n hx hb d_O_init_139 rfl (lv_at hl 0 rfl) ?_
    refine va_new (ci := 6) (fs := [.null, .null, .int 0, .int 0, .int 0, .int 0]) (C := R_T) (T := F_T) (N := 6) hx hb htb in_T ft_T ft_T_ok hown (htb _ k_99) (htb _ k_124) (htb _ k_7) hK hP hD hS hA rfl fs_T (Nat.le_of_ble_eq_true rfl) (Nat.le_of_ble_eq_true rfl) d_O_init_140 (fun q140b H hP hD hS => ?_)
    have hP : va_P (dC, dI) classes [(h0, .inr (0, [.ref q5, .ref q105, .ref q117, .ref q16, .ref q27, .ref q38, .ref q50, .ref q58, .ref q65, .ref q72, .int 0, .int 0])), (q5, .inr (1, [.ref q9_9, .ref q18_9, .ref q25_9, .int 0, .int 0])), (q9_9, .inl (c9_9, 2, .inr (.inr (.inr (.inr (va_two q9a_9 q9b_9)))))), (q9a_9, .inl (c9a_9, 150, .inl (fun _ => 0))), (q9b_9, .inl (c9a_9, 150, .inl (fun _ => 0))), (q18_9, .inl (c9a_9, 3, .inl (fun _ => 0))), (q25_9, .inl (c9a_9, 3, .inl (fun _ => 0))), (q16, .inr (3, [.ref q6_20, .int 0, .int 0])), (q6_20, .inl (c9a_9, 3, .inl (fun _ => 0))), (q27, .inr (4, [.int 0, .int 1, .int 0, .int 0])), (q38, .inr (5, [.ref q8_42, .int 0])), (q8_42, .inl (c9a_9, 150, .inl (fun _ => 0))), (q50, .inl (c50, 4, .inr (.inr (.inr (.inr (va_up (fun _ => none) (0 : Int32).toNatClampNeg (some q140))))))), (q58, .inl (c9a_9, 4, .inl (fun _ => 0))), (q65, .inl (c9a_9, 3, .inl (fun _ => 0))), (q72, .inl (c9a_9, 3, .inl (fun _ => 0))), (q105, .inr (2, [.int rv, .ref q7_110, .ref q15_110, .int 0, .int 0])), (q7_110, .inl (c9a_9, 8, .inl (fun _ => 0))), (q15_110, .inl (c15_110, 8, .inl (fun _ => 0))), (q117, .inr (2, [.int rv, .ref q7_122, .ref q15_122, .int 0, .int 0])), (q7_122, .inl (c9a_9, 8, .inl (fun _ => 0))), (q15_122, .inl (c15_110, 8, .inl (fun _ => 0))), (q140, .inr (6, [.ref q8_144, .ref q17_144, .int 0, .int 0, .int 0, .int 0])), (q8_144, .inl (c9a_9, 150, .inl (fun _ => 0))), (q17_144, .inl (c9a_9, 150, .inl (fun _ => 0))), (q140b, .inr (6, [.null, .null, .int 0, .int 0, .int 0, .int 0]))] H := hP
    have hD : va_D A [(h0, .inr (0, [.ref q5, .ref q105, .ref q117, .ref q16, .ref q27, .ref q38, .ref q50, .ref q58, .ref q65, .ref q72, .int 0, .int 0])), (q5, .inr (1, [.ref q9_9, .ref q18_9, .ref q25_9, .int 0, .int 0])), (q9_9, .inl (c9_9, 2, .inr (.inr (.inr (.inr (va_two q9a_9 q9b_9)))))), (q9a_9, .inl (c9a_9, 150, .inl (fun _ => 0))), (q9b_9, .inl (c9a_9, 150, .inl (fun _ => 0))), (q18_9, .inl (c9a_9, 3, .inl (fun _ => 0))), (q25_9, .inl (c9a_9, 3, .inl (fun _ => 0))), (q16, .inr (3, [.ref q6_20, .int 0, .int 0])), (q6_20, .inl (c9a_9, 3, .inl (fun _ => 0))), (q27, .inr (4, [.int 0, .int 1, .int 0, .int 0])), (q38, .inr (5, [.ref q8_42, .int 0])), (q8_42, .inl (c9a_9, 150, .inl (fun _ => 0))), (q50, .inl (c50, 4, .inr (.inr (.inr (.inr (va_up (fun _ => none) (0 : Int32).toNatClampNeg (some q140))))))), (q58, .inl (c9a_9, 4, .inl (fun _ => 0))), (q65, .inl (c9a_9, 3, .inl (fun _ => 0))), (q72, .inl (c9a_9, 3, .inl (fun _ => 0))), (q105, .inr (2, [.int rv, .ref q7_110, .ref q15_110, .int 0, .int 0])), (q7_110, .inl (c9a_9, 8, .inl (fun _ => 0))), (q15_110, .inl (c15_110, 8, .inl (fun _ => 0))), (q117, .inr (2, [.int rv, .ref q7_122, .ref q15_122, .int 0, .int 0])), (q7_122, .inl (c9a_9, 8, .inl (fun _ => 0))), (q15_122, .inl (c15_110, 8, .inl (fun _ => 0))), (q140, .inr (6, [.ref q8_144, .ref q17_144, .int 0, .int 0, .int 0, .int 0])), (q8_144, .inl (c9a_9, 150, .inl (fun _ => 0))), (q17_144, .inl (c9a_9, 150, .inl (fun _ => 0))), (q140b, .inr (6, [.null, .null, .int 0, .int 0, .int 0, .int 0]))] := hD
    refine lv_dup hx hb d_O_init_143 rfl ?_
    have hPc := hP.sub (ws' := [(q140b, .inr (6, [.null, .null, .int 0, .int 0, .int 0, .int 0]))]) [25] rfl
    have hDc := hD.sub (ws' := [(q140b, .inr (6, [.null, .null, .int 0, .int 0, .int 0, .int 0]))]) [25] (by decide) rfl
    have hFc := va_free (wc := [(q140b, .inr (6, [.null, .null, .int 0, .int 0, .int 0, .int 0]))]) hD hS hA [25] rfl
    refine va_callv (va_runIN (As := []) (rest := [.ref q140b, .int 1, .ref q50]) ⟨hx, hb, hml, hown, hts⟩ (c_T_init l dC dI q140b H.size) ⟨va_cnB 0 hts (goodW k_127) rfl rfl rfl (hN.2.2.2.2.2.2.1) (htb _ k_7) ⟨by decide, by decide, by decide +kernel⟩ ⟨Nat.le_of_ble_eq_true rfl, Nat.le_of_ble_eq_true rfl⟩, rfl, htb _ k_126⟩ ⟨blindC, payC hPc (hK.sub (tys' := []) [] rfl) hDc hN⟩ rfl rfl hl.1 rfl (lv_room (Nat.le_of_ble_eq_true rfl)) d_O_init_144 ⟨Nat.le_of_ble_eq_true rfl, Nat.le_of_ble_eq_true rfl⟩) hS (fun q _ h => hFc q h) hFc (fun u t H locs ht hvm hpost hB hz1 hk1 hS => ?_)
    obtain ⟨q8_b144, q17_b144, c8_b144, hP1, hK1, hD1⟩ := hB
    rw [ht] at hP1
    have hK1 := va_K.moved hvm.symm hK1
    obtain ⟨hP, hD⟩ := va_join (wr := [(h0, .inr (0, [.ref q5, .ref q105, .ref q117, .ref q16, .ref q27, .ref q38, .ref q50, .ref q58, .ref q65, .ref q72, .int 0, .int 0])), (q5, .inr (1, [.ref q9_9, .ref q18_9, .ref q25_9, .int 0, .int 0])), (q9_9, .inl (c9_9, 2, .inr (.inr (.inr (.inr (va_two q9a_9 q9b_9)))))), (q9a_9, .inl (c9a_9, 150, .inl (fun _ => 0))), (q9b_9, .inl (c9a_9, 150, .inl (fun _ => 0))), (q18_9, .inl (c9a_9, 3, .inl (fun _ => 0))), (q25_9, .inl (c9a_9, 3, .inl (fun _ => 0))), (q16, .inr (3, [.ref q6_20, .int 0, .int 0])), (q6_20, .inl (c9a_9, 3, .inl (fun _ => 0))), (q27, .inr (4, [.int 0, .int 1, .int 0, .int 0])), (q38, .inr (5, [.ref q8_42, .int 0])), (q8_42, .inl (c9a_9, 150, .inl (fun _ => 0))), (q50, .inl (c50, 4, .inr (.inr (.inr (.inr (va_up (fun _ => none) (0 : Int32).toNatClampNeg (some q140))))))), (q58, .inl (c9a_9, 4, .inl (fun _ => 0))), (q65, .inl (c9a_9, 3, .inl (fun _ => 0))), (q72, .inl (c9a_9, 3, .inl (fun _ => 0))), (q105, .inr (2, [.int rv, .ref q7_110, .ref q15_110, .int 0, .int 0])), (q7_110, .inl (c9a_9, 8, .inl (fun _ => 0))), (q15_110, .inl (c15_110, 8, .inl (fun _ => 0))), (q117, .inr (2, [.int rv, .ref q7_122, .ref q15_122, .int 0, .int 0])), (q7_122, .inl (c9a_9, 8, .inl (fun _ => 0))), (q15_122, .inl (c15_110, 8, .inl (fun _ => 0))), (q140, .inr (6, [.ref q8_144, .ref q17_144, .int 0, .int 0, .int 0, .int 0])), (q8_144, .inl (c9a_9, 150, .inl (fun _ => 0))), (q17_144, .inl (c9a_9, 150, .inl (fun _ => 0)))]) (w1 := [(q140b, .inr (6, [.ref q8_b144, .ref q17_b144, .int 0, .int 0, .int 0, .int 0])), (q8_b144, .inl (c8_b144, 150, .inl (fun _ => 0))), (q17_b144, .inl (c8_b144, 150, .inl (fun _ => 0)))]) hP hD [25] [0, 1, 2, 3, 4, 5, 6, 7, 8, 9, 10, 11, 12, 13, 14, 15, 16, 17, 18, 19, 20, 21, 22, 23, 24] rfl rfl (by decide) (by decide) hk1 hFc hP1 hD1
    have hK := hK.app hK1
    obtain rfl : c9a_9 = c8_b144 := ka_i hK 1 4 rfl rfl
    have hK := hK.sub (tys' := [(c9_9, .array .int), (c9a_9, .int), (c50, .object "ReelOffice$Tape"), (c15_110, .boolean)]) [0, 1, 2, 3] rfl
    have hP : va_P (dC, dI) classes [(h0, .inr (0, [.ref q5, .ref q105, .ref q117, .ref q16, .ref q27, .ref q38, .ref q50, .ref q58, .ref q65, .ref q72, .int 0, .int 0])), (q5, .inr (1, [.ref q9_9, .ref q18_9, .ref q25_9, .int 0, .int 0])), (q9_9, .inl (c9_9, 2, .inr (.inr (.inr (.inr (va_two q9a_9 q9b_9)))))), (q9a_9, .inl (c9a_9, 150, .inl (fun _ => 0))), (q9b_9, .inl (c9a_9, 150, .inl (fun _ => 0))), (q18_9, .inl (c9a_9, 3, .inl (fun _ => 0))), (q25_9, .inl (c9a_9, 3, .inl (fun _ => 0))), (q16, .inr (3, [.ref q6_20, .int 0, .int 0])), (q6_20, .inl (c9a_9, 3, .inl (fun _ => 0))), (q27, .inr (4, [.int 0, .int 1, .int 0, .int 0])), (q38, .inr (5, [.ref q8_42, .int 0])), (q8_42, .inl (c9a_9, 150, .inl (fun _ => 0))), (q50, .inl (c50, 4, .inr (.inr (.inr (.inr (va_up (fun _ => none) (0 : Int32).toNatClampNeg (some q140))))))), (q58, .inl (c9a_9, 4, .inl (fun _ => 0))), (q65, .inl (c9a_9, 3, .inl (fun _ => 0))), (q72, .inl (c9a_9, 3, .inl (fun _ => 0))), (q105, .inr (2, [.int rv, .ref q7_110, .ref q15_110, .int 0, .int 0])), (q7_110, .inl (c9a_9, 8, .inl (fun _ => 0))), (q15_110, .inl (c15_110, 8, .inl (fun _ => 0))), (q117, .inr (2, [.int rv, .ref q7_122, .ref q15_122, .int 0, .int 0])), (q7_122, .inl (c9a_9, 8, .inl (fun _ => 0))), (q15_122, .inl (c15_110, 8, .inl (fun _ => 0))), (q140, .inr (6, [.ref q8_144, .ref q17_144, .int 0, .int 0, .int 0, .int 0])), (q8_144, .inl (c9a_9, 150, .inl (fun _ => 0))), (q17_144, .inl (c9a_9, 150, .inl (fun _ => 0))), (q140b, .inr (6, [.ref q8_b144, .ref q17_b144, .int 0, .int 0, .int 0, .int 0])), (q8_b144, .inl (c9a_9, 150, .inl (fun _ => 0))), (q17_b144, .inl (c9a_9, 150, .inl (fun _ => 0)))] H := hP
    have hD : va_D A [(h0, .inr (0, [.ref q5, .ref q105, .ref q117, .ref q16, .ref q27, .ref q38, .ref q50, .ref q58, .ref q65, .ref q72, .int 0, .int 0])), (q5, .inr (1, [.ref q9_9, .ref q18_9, .ref q25_9, .int 0, .int 0])), (q9_9, .inl (c9_9, 2, .inr (.inr (.inr (.inr (va_two q9a_9 q9b_9)))))), (q9a_9, .inl (c9a_9, 150, .inl (fun _ => 0))), (q9b_9, .inl (c9a_9, 150, .inl (fun _ => 0))), (q18_9, .inl (c9a_9, 3, .inl (fun _ => 0))), (q25_9, .inl (c9a_9, 3, .inl (fun _ => 0))), (q16, .inr (3, [.ref q6_20, .int 0, .int 0])), (q6_20, .inl (c9a_9, 3, .inl (fun _ => 0))), (q27, .inr (4, [.int 0, .int 1, .int 0, .int 0])), (q38, .inr (5, [.ref q8_42, .int 0])), (q8_42, .inl (c9a_9, 150, .inl (fun _ => 0))), (q50, .inl (c50, 4, .inr (.inr (.inr (.inr (va_up (fun _ => none) (0 : Int32).toNatClampNeg (some q140))))))), (q58, .inl (c9a_9, 4, .inl (fun _ => 0))), (q65, .inl (c9a_9, 3, .inl (fun _ => 0))), (q72, .inl (c9a_9, 3, .inl (fun _ => 0))), (q105, .inr (2, [.int rv, .ref q7_110, .ref q15_110, .int 0, .int 0])), (q7_110, .inl (c9a_9, 8, .inl (fun _ => 0))), (q15_110, .inl (c15_110, 8, .inl (fun _ => 0))), (q117, .inr (2, [.int rv, .ref q7_122, .ref q15_122, .int 0, .int 0])), (q7_122, .inl (c9a_9, 8, .inl (fun _ => 0))), (q15_122, .inl (c15_110, 8, .inl (fun _ => 0))), (q140, .inr (6, [.ref q8_144, .ref q17_144, .int 0, .int 0, .int 0, .int 0])), (q8_144, .inl (c9a_9, 150, .inl (fun _ => 0))), (q17_144, .inl (c9a_9, 150, .inl (fun _ => 0))), (q140b, .inr (6, [.ref q8_b144, .ref q17_b144, .int 0, .int 0, .int 0, .int 0])), (q8_b144, .inl (c9a_9, 150, .inl (fun _ => 0))), (q17_b144, .inl (c9a_9, 150, .inl (fun _ => 0)))] := hD
    have hK : va_K (dC, dI) classes [(c9_9, .array .int), (c9a_9, .int), (c50, .object "ReelOffice$Tape"), (c15_110, .boolean)] s := hK
    refine va_astq (i := 1) hx hb hK hP hD hS 12 2 25 6 rfl rfl rfl rfl (inb_in (by decide)) d_O_init_147 (fun H locs hP hD hS => ?_)
    have hP : va_P (dC, dI) classes [(h0, .inr (0, [.ref q5, .ref q105, .ref q117, .ref q16, .ref q27, .ref q38, .ref q50, .ref q58, .ref q65, .ref q72, .int 0, .int 0])), (q5, .inr (1, [.ref q9_9, .ref q18_9, .ref q25_9, .int 0, .int 0])), (q9_9, .inl (c9_9, 2, .inr (.inr (.inr (.inr (va_two q9a_9 q9b_9)))))), (q9a_9, .inl (c9a_9, 150, .inl (fun _ => 0))), (q9b_9, .inl (c9a_9, 150, .inl (fun _ => 0))), (q18_9, .inl (c9a_9, 3, .inl (fun _ => 0))), (q25_9, .inl (c9a_9, 3, .inl (fun _ => 0))), (q16, .inr (3, [.ref q6_20, .int 0, .int 0])), (q6_20, .inl (c9a_9, 3, .inl (fun _ => 0))), (q27, .inr (4, [.int 0, .int 1, .int 0, .int 0])), (q38, .inr (5, [.ref q8_42, .int 0])), (q8_42, .inl (c9a_9, 150, .inl (fun _ => 0))), (q50, .inl (c50, 4, .inr (.inr (.inr (.inr (va_up (va_up (fun _ => none) (0 : Int32).toNatClampNeg (some q140)) (1 : Int32).toNatClampNeg (some q140b))))))), (q58, .inl (c9a_9, 4, .inl (fun _ => 0))), (q65, .inl (c9a_9, 3, .inl (fun _ => 0))), (q72, .inl (c9a_9, 3, .inl (fun _ => 0))), (q105, .inr (2, [.int rv, .ref q7_110, .ref q15_110, .int 0, .int 0])), (q7_110, .inl (c9a_9, 8, .inl (fun _ => 0))), (q15_110, .inl (c15_110, 8, .inl (fun _ => 0))), (q117, .inr (2, [.int rv, .ref q7_122, .ref q15_122, .int 0, .int 0])), (q7_122, .inl (c9a_9, 8, .inl (fun _ => 0))), (q15_122, .inl (c15_110, 8, .inl (fun _ => 0))), (q140, .inr (6, [.ref q8_144, .ref q17_144, .int 0, .int 0, .int 0, .int 0])), (q8_144, .inl (c9a_9, 150, .inl (fun _ => 0))), (q17_144, .inl (c9a_9, 150, .inl (fun _ => 0))), (q140b, .inr (6, [.ref q8_b144, .ref q17_b144, .int 0, .int 0, .int 0, .int 0])), (q8_b144, .inl (c9a_9, 150, .inl (fun _ => 0))), (q17_b144, .inl (c9a_9, 150, .inl (fun _ => 0)))] H := hP
    have hD : va_D A [(h0, .inr (0, [.ref q5, .ref q105, .ref q117, .ref q16, .ref q27, .ref q38, .ref q50, .ref q58, .ref q65, .ref q72, .int 0, .int 0])), (q5, .inr (1, [.ref q9_9, .ref q18_9, .ref q25_9, .int 0, .int 0])), (q9_9, .inl (c9_9, 2, .inr (.inr (.inr (.inr (va_two q9a_9 q9b_9)))))), (q9a_9, .inl (c9a_9, 150, .inl (fun _ => 0))), (q9b_9, .inl (c9a_9, 150, .inl (fun _ => 0))), (q18_9, .inl (c9a_9, 3, .inl (fun _ => 0))), (q25_9, .inl (c9a_9, 3, .inl (fun _ => 0))), (q16, .inr (3, [.ref q6_20, .int 0, .int 0])), (q6_20, .inl (c9a_9, 3, .inl (fun _ => 0))), (q27, .inr (4, [.int 0, .int 1, .int 0, .int 0])), (q38, .inr (5, [.ref q8_42, .int 0])), (q8_42, .inl (c9a_9, 150, .inl (fun _ => 0))), (q50, .inl (c50, 4, .inr (.inr (.inr (.inr (va_up (va_up (fun _ => none) (0 : Int32).toNatClampNeg (some q140)) (1 : Int32).toNatClampNeg (some q140b))))))), (q58, .inl (c9a_9, 4, .inl (fun _ => 0))), (q65, .inl (c9a_9, 3, .inl (fun _ => 0))), (q72, .inl (c9a_9, 3, .inl (fun _ => 0))), (q105, .inr (2, [.int rv, .ref q7_110, .ref q15_110, .int 0, .int 0])), (q7_110, .inl (c9a_9, 8, .inl (fun _ => 0))), (q15_110, .inl (c15_110, 8, .inl (fun _ => 0))), (q117, .inr (2, [.int rv, .ref q7_122, .ref q15_122, .int 0, .int 0])), (q7_122, .inl (c9a_9, 8, .inl (fun _ => 0))), (q15_122, .inl (c15_110, 8, .inl (fun _ => 0))), (q140, .inr (6, [.ref q8_144, .ref q17_144, .int 0, .int 0, .int 0, .int 0])), (q8_144, .inl (c9a_9, 150, .inl (fun _ => 0))), (q17_144, .inl (c9a_9, 150, .inl (fun _ => 0))), (q140b, .inr (6, [.ref q8_b144, .ref q17_b144, .int 0, .int 0, .int 0, .int 0])), (q8_b144, .inl (c9a_9, 150, .inl (fun _ => 0))), (q17_b144, .inl (c9a_9, 150, .inl (fun _ => 0)))] := hD
    refine lv_iinc (k := 0) (v := 2) hx hb d_O_init_148 hl rfl (by decide) (by decide) (lv' := [(3, .int 2), (2, .int rv), (0, .ref h0), (1, .int a1)]) rfl (fun ls hl => ?_)
    refine lv_goto (tgt := 130) hx hb d_O_init_151 (by decide) ?_
    refine lv_iload_n hx hb d_O_init_130 rfl (lv_at hl 0 rfl) ?_
    refine lv_iconst (v := 4) hx hb d_O_init_131 (by decide) ?_
    refine lv_icmp_ge (tgt := 154) hx hb d_O_init_132 (by decide) (fun h => absurd h (by decide)) (fun _ => ?_)
    refine lv_aload_n hx hb d_O_init_135 rfl (lv_at hl 2 rfl) ?_
    refine va_get (D := (dC, dI)) (ci := 0) (v := .ref q50) (C := R_O) (T := F_O) (N := 12) hx hb htb in_O hown hK hP 0 rfl rfl 6 (by decide) (htb _ k_154) (fun _ h9 => h9) rfl d_O_init_136 ?_
    refine lv_iload_n hx hb d_O_init_139 rfl (lv_at hl 0 rfl) ?_
    refine va_new (ci := 6) (fs := [.null, .null, .int 0, .int 0, .int 0, .int 0]) (C := R_T) (T := F_T) (N := 6) hx hb htb in_T ft_T ft_T_ok hown (htb _ k_99) (htb _ k_124) (htb _ k_7) hK hP hD hS hA rfl fs_T (Nat.le_of_ble_eq_true rfl) (Nat.le_of_ble_eq_true rfl) d_O_init_140 (fun q140c H hP hD hS => ?_)
    have hP : va_P (dC, dI) classes [(h0, .inr (0, [.ref q5, .ref q105, .ref q117, .ref q16, .ref q27, .ref q38, .ref q50, .ref q58, .ref q65, .ref q72, .int 0, .int 0])), (q5, .inr (1, [.ref q9_9, .ref q18_9, .ref q25_9, .int 0, .int 0])), (q9_9, .inl (c9_9, 2, .inr (.inr (.inr (.inr (va_two q9a_9 q9b_9)))))), (q9a_9, .inl (c9a_9, 150, .inl (fun _ => 0))), (q9b_9, .inl (c9a_9, 150, .inl (fun _ => 0))), (q18_9, .inl (c9a_9, 3, .inl (fun _ => 0))), (q25_9, .inl (c9a_9, 3, .inl (fun _ => 0))), (q16, .inr (3, [.ref q6_20, .int 0, .int 0])), (q6_20, .inl (c9a_9, 3, .inl (fun _ => 0))), (q27, .inr (4, [.int 0, .int 1, .int 0, .int 0])), (q38, .inr (5, [.ref q8_42, .int 0])), (q8_42, .inl (c9a_9, 150, .inl (fun _ => 0))), (q50, .inl (c50, 4, .inr (.inr (.inr (.inr (va_up (va_up (fun _ => none) (0 : Int32).toNatClampNeg (some q140)) (1 : Int32).toNatClampNeg (some q140b))))))), (q58, .inl (c9a_9, 4, .inl (fun _ => 0))), (q65, .inl (c9a_9, 3, .inl (fun _ => 0))), (q72, .inl (c9a_9, 3, .inl (fun _ => 0))), (q105, .inr (2, [.int rv, .ref q7_110, .ref q15_110, .int 0, .int 0])), (q7_110, .inl (c9a_9, 8, .inl (fun _ => 0))), (q15_110, .inl (c15_110, 8, .inl (fun _ => 0))), (q117, .inr (2, [.int rv, .ref q7_122, .ref q15_122, .int 0, .int 0])), (q7_122, .inl (c9a_9, 8, .inl (fun _ => 0))), (q15_122, .inl (c15_110, 8, .inl (fun _ => 0))), (q140, .inr (6, [.ref q8_144, .ref q17_144, .int 0, .int 0, .int 0, .int 0])), (q8_144, .inl (c9a_9, 150, .inl (fun _ => 0))), (q17_144, .inl (c9a_9, 150, .inl (fun _ => 0))), (q140b, .inr (6, [.ref q8_b144, .ref q17_b144, .int 0, .int 0, .int 0, .int 0])), (q8_b144, .inl (c9a_9, 150, .inl (fun _ => 0))), (q17_b144, .inl (c9a_9, 150, .inl (fun _ => 0))), (q140c, .inr (6, [.null, .null, .int 0, .int 0, .int 0, .int 0]))] H := hP
    have hD : va_D A [(h0, .inr (0, [.ref q5, .ref q105, .ref q117, .ref q16, .ref q27, .ref q38, .ref q50, .ref q58, .ref q65, .ref q72, .int 0, .int 0])), (q5, .inr (1, [.ref q9_9, .ref q18_9, .ref q25_9, .int 0, .int 0])), (q9_9, .inl (c9_9, 2, .inr (.inr (.inr (.inr (va_two q9a_9 q9b_9)))))), (q9a_9, .inl (c9a_9, 150, .inl (fun _ => 0))), (q9b_9, .inl (c9a_9, 150, .inl (fun _ => 0))), (q18_9, .inl (c9a_9, 3, .inl (fun _ => 0))), (q25_9, .inl (c9a_9, 3, .inl (fun _ => 0))), (q16, .inr (3, [.ref q6_20, .int 0, .int 0])), (q6_20, .inl (c9a_9, 3, .inl (fun _ => 0))), (q27, .inr (4, [.int 0, .int 1, .int 0, .int 0])), (q38, .inr (5, [.ref q8_42, .int 0])), (q8_42, .inl (c9a_9, 150, .inl (fun _ => 0))), (q50, .inl (c50, 4, .inr (.inr (.inr (.inr (va_up (va_up (fun _ => none) (0 : Int32).toNatClampNeg (some q140)) (1 : Int32).toNatClampNeg (some q140b))))))), (q58, .inl (c9a_9, 4, .inl (fun _ => 0))), (q65, .inl (c9a_9, 3, .inl (fun _ => 0))), (q72, .inl (c9a_9, 3, .inl (fun _ => 0))), (q105, .inr (2, [.int rv, .ref q7_110, .ref q15_110, .int 0, .int 0])), (q7_110, .inl (c9a_9, 8, .inl (fun _ => 0))), (q15_110, .inl (c15_110, 8, .inl (fun _ => 0))), (q117, .inr (2, [.int rv, .ref q7_122, .ref q15_122, .int 0, .int 0])), (q7_122, .inl (c9a_9, 8, .inl (fun _ => 0))), (q15_122, .inl (c15_110, 8, .inl (fun _ => 0))), (q140, .inr (6, [.ref q8_144, .ref q17_144, .int 0, .int 0, .int 0, .int 0])), (q8_144, .inl (c9a_9, 150, .inl (fun _ => 0))), (q17_144, .inl (c9a_9, 150, .inl (fun _ => 0))), (q140b, .inr (6, [.ref q8_b144, .ref q17_b144, .int 0, .int 0, .int 0, .int 0])), (q8_b144, .inl (c9a_9, 150, .inl (fun _ => 0))), (q17_b144, .inl (c9a_9, 150, .inl (fun _ => 0))), (q140c, .inr (6, [.null, .null, .int 0, .int 0, .int 0, .int 0]))] := hD
    refine lv_dup hx hb d_O_init_143 rfl ?_
    have hPc := hP.sub (ws' := [(q140c, .inr (6, [.null, .null, .int 0, .int 0, .int 0, .int 0]))]) [28] rfl
    have hDc := hD.sub (ws' := [(q140c, .inr (6, [.null, .null, .int 0, .int 0, .int 0, .int 0]))]) [28] (by decide) rfl
    have hFc := va_free (wc := [(q140c, .inr (6, [.null, .null, .int 0, .int 0, .int 0, .int 0]))]) hD hS hA [28] rfl
    refine va_callv (va_runIN (As := []) (rest := [.ref q140c, .int 2, .ref q50]) ⟨hx, hb, hml, hown, hts⟩ (c_T_init l dC dI q140c H.size) ⟨va_cnB 0 hts (goodW k_127) rfl rfl rfl (hN.2.2.2.2.2.2.1) (htb _ k_7) ⟨by decide, by decide, by decide +kernel⟩ ⟨Nat.le_of_ble_eq_true rfl, Nat.le_of_ble_eq_true rfl⟩, rfl, htb _ k_126⟩ ⟨blindC, payC hPc (hK.sub (tys' := []) [] rfl) hDc hN⟩ rfl rfl hl.1 rfl (lv_room (Nat.le_of_ble_eq_true rfl)) d_O_init_144 ⟨Nat.le_of_ble_eq_true rfl, Nat.le_of_ble_eq_true rfl⟩) hS (fun q _ h => hFc q h) hFc (fun u t H locs ht hvm hpost hB hz1 hk1 hS => ?_)
    obtain ⟨q8_c144, q17_c144, c8_c144, hP1, hK1, hD1⟩ := hB
    rw [ht] at hP1
    have hK1 := va_K.moved hvm.symm hK1
    obtain ⟨hP, hD⟩ := va_join (wr := [(h0, .inr (0, [.ref q5, .ref q105, .ref q117, .ref q16, .ref q27, .ref q38, .ref q50, .ref q58, .ref q65, .ref q72, .int 0, .int 0])), (q5, .inr (1, [.ref q9_9, .ref q18_9, .ref q25_9, .int 0, .int 0])), (q9_9, .inl (c9_9, 2, .inr (.inr (.inr (.inr (va_two q9a_9 q9b_9)))))), (q9a_9, .inl (c9a_9, 150, .inl (fun _ => 0))), (q9b_9, .inl (c9a_9, 150, .inl (fun _ => 0))), (q18_9, .inl (c9a_9, 3, .inl (fun _ => 0))), (q25_9, .inl (c9a_9, 3, .inl (fun _ => 0))), (q16, .inr (3, [.ref q6_20, .int 0, .int 0])), (q6_20, .inl (c9a_9, 3, .inl (fun _ => 0))), (q27, .inr (4, [.int 0, .int 1, .int 0, .int 0])), (q38, .inr (5, [.ref q8_42, .int 0])), (q8_42, .inl (c9a_9, 150, .inl (fun _ => 0))), (q50, .inl (c50, 4, .inr (.inr (.inr (.inr (va_up (va_up (fun _ => none) (0 : Int32).toNatClampNeg (some q140)) (1 : Int32).toNatClampNeg (some q140b))))))), (q58, .inl (c9a_9, 4, .inl (fun _ => 0))), (q65, .inl (c9a_9, 3, .inl (fun _ => 0))), (q72, .inl (c9a_9, 3, .inl (fun _ => 0))), (q105, .inr (2, [.int rv, .ref q7_110, .ref q15_110, .int 0, .int 0])), (q7_110, .inl (c9a_9, 8, .inl (fun _ => 0))), (q15_110, .inl (c15_110, 8, .inl (fun _ => 0))), (q117, .inr (2, [.int rv, .ref q7_122, .ref q15_122, .int 0, .int 0])), (q7_122, .inl (c9a_9, 8, .inl (fun _ => 0))), (q15_122, .inl (c15_110, 8, .inl (fun _ => 0))), (q140, .inr (6, [.ref q8_144, .ref q17_144, .int 0, .int 0, .int 0, .int 0])), (q8_144, .inl (c9a_9, 150, .inl (fun _ => 0))), (q17_144, .inl (c9a_9, 150, .inl (fun _ => 0))), (q140b, .inr (6, [.ref q8_b144, .ref q17_b144, .int 0, .int 0, .int 0, .int 0])), (q8_b144, .inl (c9a_9, 150, .inl (fun _ => 0))), (q17_b144, .inl (c9a_9, 150, .inl (fun _ => 0)))]) (w1 := [(q140c, .inr (6, [.ref q8_c144, .ref q17_c144, .int 0, .int 0, .int 0, .int 0])), (q8_c144, .inl (c8_c144, 150, .inl (fun _ => 0))), (q17_c144, .inl (c8_c144, 150, .inl (fun _ => 0)))]) hP hD [28] [0, 1, 2, 3, 4, 5, 6, 7, 8, 9, 10, 11, 12, 13, 14, 15, 16, 17, 18, 19, 20, 21, 22, 23, 24, 25, 26, 27] rfl rfl (by decide) (by decide) hk1 hFc hP1 hD1
    have hK := hK.app hK1
    obtain rfl : c9a_9 = c8_c144 := ka_i hK 1 4 rfl rfl
    have hK := hK.sub (tys' := [(c9_9, .array .int), (c9a_9, .int), (c50, .object "ReelOffice$Tape"), (c15_110, .boolean)]) [0, 1, 2, 3] rfl
    have hP : va_P (dC, dI) classes [(h0, .inr (0, [.ref q5, .ref q105, .ref q117, .ref q16, .ref q27, .ref q38, .ref q50, .ref q58, .ref q65, .ref q72, .int 0, .int 0])), (q5, .inr (1, [.ref q9_9, .ref q18_9, .ref q25_9, .int 0, .int 0])), (q9_9, .inl (c9_9, 2, .inr (.inr (.inr (.inr (va_two q9a_9 q9b_9)))))), (q9a_9, .inl (c9a_9, 150, .inl (fun _ => 0))), (q9b_9, .inl (c9a_9, 150, .inl (fun _ => 0))), (q18_9, .inl (c9a_9, 3, .inl (fun _ => 0))), (q25_9, .inl (c9a_9, 3, .inl (fun _ => 0))), (q16, .inr (3, [.ref q6_20, .int 0, .int 0])), (q6_20, .inl (c9a_9, 3, .inl (fun _ => 0))), (q27, .inr (4, [.int 0, .int 1, .int 0, .int 0])), (q38, .inr (5, [.ref q8_42, .int 0])), (q8_42, .inl (c9a_9, 150, .inl (fun _ => 0))), (q50, .inl (c50, 4, .inr (.inr (.inr (.inr (va_up (va_up (fun _ => none) (0 : Int32).toNatClampNeg (some q140)) (1 : Int32).toNatClampNeg (some q140b))))))), (q58, .inl (c9a_9, 4, .inl (fun _ => 0))), (q65, .inl (c9a_9, 3, .inl (fun _ => 0))), (q72, .inl (c9a_9, 3, .inl (fun _ => 0))), (q105, .inr (2, [.int rv, .ref q7_110, .ref q15_110, .int 0, .int 0])), (q7_110, .inl (c9a_9, 8, .inl (fun _ => 0))), (q15_110, .inl (c15_110, 8, .inl (fun _ => 0))), (q117, .inr (2, [.int rv, .ref q7_122, .ref q15_122, .int 0, .int 0])), (q7_122, .inl (c9a_9, 8, .inl (fun _ => 0))), (q15_122, .inl (c15_110, 8, .inl (fun _ => 0))), (q140, .inr (6, [.ref q8_144, .ref q17_144, .int 0, .int 0, .int 0, .int 0])), (q8_144, .inl (c9a_9, 150, .inl (fun _ => 0))), (q17_144, .inl (c9a_9, 150, .inl (fun _ => 0))), (q140b, .inr (6, [.ref q8_b144, .ref q17_b144, .int 0, .int 0, .int 0, .int 0])), (q8_b144, .inl (c9a_9, 150, .inl (fun _ => 0))), (q17_b144, .inl (c9a_9, 150, .inl (fun _ => 0))), (q140c, .inr (6, [.ref q8_c144, .ref q17_c144, .int 0, .int 0, .int 0, .int 0])), (q8_c144, .inl (c9a_9, 150, .inl (fun _ => 0))), (q17_c144, .inl (c9a_9, 150, .inl (fun _ => 0)))] H := hP
    have hD : va_D A [(h0, .inr (0, [.ref q5, .ref q105, .ref q117, .ref q16, .ref q27, .ref q38, .ref q50, .ref q58, .ref q65, .ref q72, .int 0, .int 0])), (q5, .inr (1, [.ref q9_9, .ref q18_9, .ref q25_9, .int 0, .int 0])), (q9_9, .inl (c9_9, 2, .inr (.inr (.inr (.inr (va_two q9a_9 q9b_9)))))), (q9a_9, .inl (c9a_9, 150, .inl (fun _ => 0))), (q9b_9, .inl (c9a_9, 150, .inl (fun _ => 0))), (q18_9, .inl (c9a_9, 3, .inl (fun _ => 0))), (q25_9, .inl (c9a_9, 3, .inl (fun _ => 0))), (q16, .inr (3, [.ref q6_20, .int 0, .int 0])), (q6_20, .inl (c9a_9, 3, .inl (fun _ => 0))), (q27, .inr (4, [.int 0, .int 1, .int 0, .int 0])), (q38, .inr (5, [.ref q8_42, .int 0])), (q8_42, .inl (c9a_9, 150, .inl (fun _ => 0))), (q50, .inl (c50, 4, .inr (.inr (.inr (.inr (va_up (va_up (fun _ => none) (0 : Int32).toNatClampNeg (some q140)) (1 : Int32).toNatClampNeg (some q140b))))))), (q58, .inl (c9a_9, 4, .inl (fun _ => 0))), (q65, .inl (c9a_9, 3, .inl (fun _ => 0))), (q72, .inl (c9a_9, 3, .inl (fun _ => 0))), (q105, .inr (2, [.int rv, .ref q7_110, .ref q15_110, .int 0, .int 0])), (q7_110, .inl (c9a_9, 8, .inl (fun _ => 0))), (q15_110, .inl (c15_110, 8, .inl (fun _ => 0))), (q117, .inr (2, [.int rv, .ref q7_122, .ref q15_122, .int 0, .int 0])), (q7_122, .inl (c9a_9, 8, .inl (fun _ => 0))), (q15_122, .inl (c15_110, 8, .inl (fun _ => 0))), (q140, .inr (6, [.ref q8_144, .ref q17_144, .int 0, .int 0, .int 0, .int 0])), (q8_144, .inl (c9a_9, 150, .inl (fun _ => 0))), (q17_144, .inl (c9a_9, 150, .inl (fun _ => 0))), (q140b, .inr (6, [.ref q8_b144, .ref q17_b144, .int 0, .int 0, .int 0, .int 0])), (q8_b144, .inl (c9a_9, 150, .inl (fun _ => 0))), (q17_b144, .inl (c9a_9, 150, .inl (fun _ => 0))), (q140c, .inr (6, [.ref q8_c144, .ref q17_c144, .int 0, .int 0, .int 0, .int 0])), (q8_c144, .inl (c9a_9, 150, .inl (fun _ => 0))), (q17_c144, .inl (c9a_9, 150, .inl (fun _ => 0)))] := hD
    have hK : va_K (dC, dI) classes [(c9_9, .array .int), (c9a_9, .int), (c50, .object "ReelOffice$Tape"), (c15_110, .boolean)] s := hK
    refine va_astq (i := 2) hx hb hK hP hD hS 12 2 28 6 rfl rfl rfl rfl (inb_in (by decide)) d_O_init_147 (fun H locs hP hD hS => ?_)
    have hP : va_P (dC, dI) classes [(h0, .inr (0, [.ref q5, .ref q105, .ref q117, .ref q16, .ref q27, .ref q38, .ref q50, .ref q58, .ref q65, .ref q72, .int 0, .int 0])), (q5, .inr (1, [.ref q9_9, .ref q18_9, .ref q25_9, .int 0, .int 0])), (q9_9, .inl (c9_9, 2, .inr (.inr (.inr (.inr (va_two q9a_9 q9b_9)))))), (q9a_9, .inl (c9a_9, 150, .inl (fun _ => 0))), (q9b_9, .inl (c9a_9, 150, .inl (fun _ => 0))), (q18_9, .inl (c9a_9, 3, .inl (fun _ => 0))), (q25_9, .inl (c9a_9, 3, .inl (fun _ => 0))), (q16, .inr (3, [.ref q6_20, .int 0, .int 0])), (q6_20, .inl (c9a_9, 3, .inl (fun _ => 0))), (q27, .inr (4, [.int 0, .int 1, .int 0, .int 0])), (q38, .inr (5, [.ref q8_42, .int 0])), (q8_42, .inl (c9a_9, 150, .inl (fun _ => 0))), (q50, .inl (c50, 4, .inr (.inr (.inr (.inr (va_up (va_up (va_up (fun _ => none) (0 : Int32).toNatClampNeg (some q140)) (1 : Int32).toNatClampNeg (some q140b)) (2 : Int32).toNatClampNeg (some q140c))))))), (q58, .inl (c9a_9, 4, .inl (fun _ => 0))), (q65, .inl (c9a_9, 3, .inl (fun _ => 0))), (q72, .inl (c9a_9, 3, .inl (fun _ => 0))), (q105, .inr (2, [.int rv, .ref q7_110, .ref q15_110, .int 0, .int 0])), (q7_110, .inl (c9a_9, 8, .inl (fun _ => 0))), (q15_110, .inl (c15_110, 8, .inl (fun _ => 0))), (q117, .inr (2, [.int rv, .ref q7_122, .ref q15_122, .int 0, .int 0])), (q7_122, .inl (c9a_9, 8, .inl (fun _ => 0))), (q15_122, .inl (c15_110, 8, .inl (fun _ => 0))), (q140, .inr (6, [.ref q8_144, .ref q17_144, .int 0, .int 0, .int 0, .int 0])), (q8_144, .inl (c9a_9, 150, .inl (fun _ => 0))), (q17_144, .inl (c9a_9, 150, .inl (fun _ => 0))), (q140b, .inr (6, [.ref q8_b144, .ref q17_b144, .int 0, .int 0, .int 0, .int 0])), (q8_b144, .inl (c9a_9, 150, .inl (fun _ => 0))), (q17_b144, .inl (c9a_9, 150, .inl (fun _ => 0))), (q140c, .inr (6, [.ref q8_c144, .ref q17_c144, .int 0, .int 0, .int 0, .int 0])), (q8_c144, .inl (c9a_9, 150, .inl (fun _ => 0))), (q17_c144, .inl (c9a_9, 150, .inl (fun _ => 0)))] H := hP
    have hD : va_D A [(h0, .inr (0, [.ref q5, .ref q105, .ref q117, .ref q16, .ref q27, .ref q38, .ref q50, .ref q58, .ref q65, .ref q72, .int 0, .int 0])), (q5, .inr (1, [.ref q9_9, .ref q18_9, .ref q25_9, .int 0, .int 0])), (q9_9, .inl (c9_9, 2, .inr (.inr (.inr (.inr (va_two q9a_9 q9b_9)))))), (q9a_9, .inl (c9a_9, 150, .inl (fun _ => 0))), (q9b_9, .inl (c9a_9, 150, .inl (fun _ => 0))), (q18_9, .inl (c9a_9, 3, .inl (fun _ => 0))), (q25_9, .inl (c9a_9, 3, .inl (fun _ => 0))), (q16, .inr (3, [.ref q6_20, .int 0, .int 0])), (q6_20, .inl (c9a_9, 3, .inl (fun _ => 0))), (q27, .inr (4, [.int 0, .int 1, .int 0, .int 0])), (q38, .inr (5, [.ref q8_42, .int 0])), (q8_42, .inl (c9a_9, 150, .inl (fun _ => 0))), (q50, .inl (c50, 4, .inr (.inr (.inr (.inr (va_up (va_up (va_up (fun _ => none) (0 : Int32).toNatClampNeg (some q140)) (1 : Int32).toNatClampNeg (some q140b)) (2 : Int32).toNatClampNeg (some q140c))))))), (q58, .inl (c9a_9, 4, .inl (fun _ => 0))), (q65, .inl (c9a_9, 3, .inl (fun _ => 0))), (q72, .inl (c9a_9, 3, .inl (fun _ => 0))), (q105, .inr (2, [.int rv, .ref q7_110, .ref q15_110, .int 0, .int 0])), (q7_110, .inl (c9a_9, 8, .inl (fun _ => 0))), (q15_110, .inl (c15_110, 8, .inl (fun _ => 0))), (q117, .inr (2, [.int rv, .ref q7_122, .ref q15_122, .int 0, .int 0])), (q7_122, .inl (c9a_9, 8, .inl (fun _ => 0))), (q15_122, .inl (c15_110, 8, .inl (fun _ => 0))), (q140, .inr (6, [.ref q8_144, .ref q17_144, .int 0, .int 0, .int 0, .int 0])), (q8_144, .inl (c9a_9, 150, .inl (fun _ => 0))), (q17_144, .inl (c9a_9, 150, .inl (fun _ => 0))), (q140b, .inr (6, [.ref q8_b144, .ref q17_b144, .int 0, .int 0, .int 0, .int 0])), (q8_b144, .inl (c9a_9, 150, .inl (fun _ => 0))), (q17_b144, .inl (c9a_9, 150, .inl (fun _ => 0))), (q140c, .inr (6, [.ref q8_c144, .ref q17_c144, .int 0, .int 0, .int 0, .int 0])), (q8_c144, .inl (c9a_9, 150, .inl (fun _ => 0))), (q17_c144, .inl (c9a_9, 150, .inl (fun _ => 0)))] := hD
    refine lv_iinc (k := 0) (v := 3) hx hb d_O_init_148 hl rfl (by decide) (by decide) (lv' := [(3, .int 3), (2, .int rv), (0, .ref h0), (1, .int a1)]) rfl (fun ls hl => ?_)
    refine lv_goto (tgt := 130) hx hb d_O_init_151 (by decide) ?_
    refine lv_iload_n hx hb d_O_init_130 rfl (lv_at hl 0 rfl) ?_
    refine lv_iconst (v := 4) hx hb d_O_init_131 (by decide) ?_
    refine lv_icmp_ge (tgt := 154) hx hb d_O_init_132 (by decide) (fun h => absurd h (by decide)) (fun _ => ?_)
    refine lv_aload_n hx hb d_O_init_135 rfl (lv_at hl 2 rfl) ?_
    refine va_get (D := (dC, dI)) (ci := 0) (v := .ref q50) (C := R_O) (T := F_O) (N := 12) hx hb htb in_O hown hK hP 0 rfl rfl 6 (by decide) (htb _ k_154) (fun _ h9 => h9) rfl d_O_init_136 ?_
    refine lv_iload_n hx hb d_O_init_139 rfl (lv_at hl 0 rfl) ?_
    refine va_new (ci := 6) (fs := [.null, .null, .int 0, .int 0, .int 0, .int 0]) (C := R_T) (T := F_T) (N := 6) hx hb htb in_T ft_T ft_T_ok hown (htb _ k_99) (htb _ k_124) (htb _ k_7) hK hP hD hS hA rfl fs_T (Nat.le_of_ble_eq_true rfl) (Nat.le_of_ble_eq_true rfl) d_O_init_140 (fun q140d H hP hD hS => ?_)
    have hP : va_P (dC, dI) classes [(h0, .inr (0, [.ref q5, .ref q105, .ref q117, .ref q16, .ref q27, .ref q38, .ref q50, .ref q58, .ref q65, .ref q72, .int 0, .int 0])), (q5, .inr (1, [.ref q9_9, .ref q18_9, .ref q25_9, .int 0, .int 0])), (q9_9, .inl (c9_9, 2, .inr (.inr (.inr (.inr (va_two q9a_9 q9b_9)))))), (q9a_9, .inl (c9a_9, 150, .inl (fun _ => 0))), (q9b_9, .inl (c9a_9, 150, .inl (fun _ => 0))), (q18_9, .inl (c9a_9, 3, .inl (fun _ => 0))), (q25_9, .inl (c9a_9, 3, .inl (fun _ => 0))), (q16, .inr (3, [.ref q6_20, .int 0, .int 0])), (q6_20, .inl (c9a_9, 3, .inl (fun _ => 0))), (q27, .inr (4, [.int 0, .int 1, .int 0, .int 0])), (q38, .inr (5, [.ref q8_42, .int 0])), (q8_42, .inl (c9a_9, 150, .inl (fun _ => 0))), (q50, .inl (c50, 4, .inr (.inr (.inr (.inr (va_up (va_up (va_up (fun _ => none) (0 : Int32).toNatClampNeg (some q140)) (1 : Int32).toNatClampNeg (some q140b)) (2 : Int32).toNatClampNeg (some q140c))))))), (q58, .inl (c9a_9, 4, .inl (fun _ => 0))), (q65, .inl (c9a_9, 3, .inl (fun _ => 0))), (q72, .inl (c9a_9, 3, .inl (fun _ => 0))), (q105, .inr (2, [.int rv, .ref q7_110, .ref q15_110, .int 0, .int 0])), (q7_110, .inl (c9a_9, 8, .inl (fun _ => 0))), (q15_110, .inl (c15_110, 8, .inl (fun _ => 0))), (q117, .inr (2, [.int rv, .ref q7_122, .ref q15_122, .int 0, .int 0])), (q7_122, .inl (c9a_9, 8, .inl (fun _ => 0))), (q15_122, .inl (c15_110, 8, .inl (fun _ => 0))), (q140, .inr (6, [.ref q8_144, .ref q17_144, .int 0, .int 0, .int 0, .int 0])), (q8_144, .inl (c9a_9, 150, .inl (fun _ => 0))), (q17_144, .inl (c9a_9, 150, .inl (fun _ => 0))), (q140b, .inr (6, [.ref q8_b144, .ref q17_b144, .int 0, .int 0, .int 0, .int 0])), (q8_b144, .inl (c9a_9, 150, .inl (fun _ => 0))), (q17_b144, .inl (c9a_9, 150, .inl (fun _ => 0))), (q140c, .inr (6, [.ref q8_c144, .ref q17_c144, .int 0, .int 0, .int 0, .int 0])), (q8_c144, .inl (c9a_9, 150, .inl (fun _ => 0))), (q17_c144, .inl (c9a_9, 150, .inl (fun _ => 0))), (q140d, .inr (6, [.null, .null, .int 0, .int 0, .int 0, .int 0]))] H := hP
    have hD : va_D A [(h0, .inr (0, [.ref q5, .ref q105, .ref q117, .ref q16, .ref q27, .ref q38, .ref q50, .ref q58, .ref q65, .ref q72, .int 0, .int 0])), (q5, .inr (1, [.ref q9_9, .ref q18_9, .ref q25_9, .int 0, .int 0])), (q9_9, .inl (c9_9, 2, .inr (.inr (.inr (.inr (va_two q9a_9 q9b_9)))))), (q9a_9, .inl (c9a_9, 150, .inl (fun _ => 0))), (q9b_9, .inl (c9a_9, 150, .inl (fun _ => 0))), (q18_9, .inl (c9a_9, 3, .inl (fun _ => 0))), (q25_9, .inl (c9a_9, 3, .inl (fun _ => 0))), (q16, .inr (3, [.ref q6_20, .int 0, .int 0])), (q6_20, .inl (c9a_9, 3, .inl (fun _ => 0))), (q27, .inr (4, [.int 0, .int 1, .int 0, .int 0])), (q38, .inr (5, [.ref q8_42, .int 0])), (q8_42, .inl (c9a_9, 150, .inl (fun _ => 0))), (q50, .inl (c50, 4, .inr (.inr (.inr (.inr (va_up (va_up (va_up (fun _ => none) (0 : Int32).toNatClampNeg (some q140)) (1 : Int32).toNatClampNeg (some q140b)) (2 : Int32).toNatClampNeg (some q140c))))))), (q58, .inl (c9a_9, 4, .inl (fun _ => 0))), (q65, .inl (c9a_9, 3, .inl (fun _ => 0))), (q72, .inl (c9a_9, 3, .inl (fun _ => 0))), (q105, .inr (2, [.int rv, .ref q7_110, .ref q15_110, .int 0, .int 0])), (q7_110, .inl (c9a_9, 8, .inl (fun _ => 0))), (q15_110, .inl (c15_110, 8, .inl (fun _ => 0))), (q117, .inr (2, [.int rv, .ref q7_122, .ref q15_122, .int 0, .int 0])), (q7_122, .inl (c9a_9, 8, .inl (fun _ => 0))), (q15_122, .inl (c15_110, 8, .inl (fun _ => 0))), (q140, .inr (6, [.ref q8_144, .ref q17_144, .int 0, .int 0, .int 0, .int 0])), (q8_144, .inl (c9a_9, 150, .inl (fun _ => 0))), (q17_144, .inl (c9a_9, 150, .inl (fun _ => 0))), (q140b, .inr (6, [.ref q8_b144, .ref q17_b144, .int 0, .int 0, .int 0, .int 0])), (q8_b144, .inl (c9a_9, 150, .inl (fun _ => 0))), (q17_b144, .inl (c9a_9, 150, .inl (fun _ => 0))), (q140c, .inr (6, [.ref q8_c144, .ref q17_c144, .int 0, .int 0, .int 0, .int 0])), (q8_c144, .inl (c9a_9, 150, .inl (fun _ => 0))), (q17_c144, .inl (c9a_9, 150, .inl (fun _ => 0))), (q140d, .inr (6, [.null, .null, .int 0, .int 0, .int 0, .int 0]))] := hD
    refine lv_dup hx hb d_O_init_143 rfl ?_
    have hPc := hP.sub (ws' := [(q140d, .inr (6, [.null, .null, .int 0, .int 0, .int 0, .int 0]))]) [31] rfl
    have hDc := hD.sub (ws' := [(q140d, .inr (6, [.null, .null, .int 0, .int 0, .int 0, .int 0]))]) [31] (by decide) rfl
    have hFc := va_free (wc := [(q140d, .inr (6, [.null, .null, .int 0, .int 0, .int 0, .int 0]))]) hD hS hA [31] rfl
    refine va_callv (va_runIN (As := []) (rest := [.ref q140d, .int 3, .ref q50]) ⟨hx, hb, hml, hown, hts⟩ (c_T_init l dC dI q140d H.size) ⟨va_cnB 0 hts (goodW k_127) rfl rfl rfl (hN.2.2.2.2.2.2.1) (htb _ k_7) ⟨by decide, by decide, by decide +kernel⟩ ⟨Nat.le_of_ble_eq_true rfl, Nat.le_of_ble_eq_true rfl⟩, rfl, htb _ k_126⟩ ⟨blindC, payC hPc (hK.sub (tys' := []) [] rfl) hDc hN⟩ rfl rfl hl.1 rfl (lv_room (Nat.le_of_ble_eq_true rfl)) d_O_init_144 ⟨Nat.le_of_ble_eq_true rfl, Nat.le_of_ble_eq_true rfl⟩) hS (fun q _ h => hFc q h) hFc (fun u t H locs ht hvm hpost hB hz1 hk1 hS => ?_)
    obtain ⟨q8_d144, q17_d144, c8_d144, hP1, hK1, hD1⟩ := hB
    rw [ht] at hP1
    have hK1 := va_K.moved hvm.symm hK1
    obtain ⟨hP, hD⟩ := va_join (wr := [(h0, .inr (0, [.ref q5, .ref q105, .ref q117, .ref q16, .ref q27, .ref q38, .ref q50, .ref q58, .ref q65, .ref q72, .int 0, .int 0])), (q5, .inr (1, [.ref q9_9, .ref q18_9, .ref q25_9, .int 0, .int 0])), (q9_9, .inl (c9_9, 2, .inr (.inr (.inr (.inr (va_two q9a_9 q9b_9)))))), (q9a_9, .inl (c9a_9, 150, .inl (fun _ => 0))), (q9b_9, .inl (c9a_9, 150, .inl (fun _ => 0))), (q18_9, .inl (c9a_9, 3, .inl (fun _ => 0))), (q25_9, .inl (c9a_9, 3, .inl (fun _ => 0))), (q16, .inr (3, [.ref q6_20, .int 0, .int 0])), (q6_20, .inl (c9a_9, 3, .inl (fun _ => 0))), (q27, .inr (4, [.int 0, .int 1, .int 0, .int 0])), (q38, .inr (5, [.ref q8_42, .int 0])), (q8_42, .inl (c9a_9, 150, .inl (fun _ => 0))), (q50, .inl (c50, 4, .inr (.inr (.inr (.inr (va_up (va_up (va_up (fun _ => none) (0 : Int32).toNatClampNeg (some q140)) (1 : Int32).toNatClampNeg (some q140b)) (2 : Int32).toNatClampNeg (some q140c))))))), (q58, .inl (c9a_9, 4, .inl (fun _ => 0))), (q65, .inl (c9a_9, 3, .inl (fun _ => 0))), (q72, .inl (c9a_9, 3, .inl (fun _ => 0))), (q105, .inr (2, [.int rv, .ref q7_110, .ref q15_110, .int 0, .int 0])), (q7_110, .inl (c9a_9, 8, .inl (fun _ => 0))), (q15_110, .inl (c15_110, 8, .inl (fun _ => 0))), (q117, .inr (2, [.int rv, .ref q7_122, .ref q15_122, .int 0, .int 0])), (q7_122, .inl (c9a_9, 8, .inl (fun _ => 0))), (q15_122, .inl (c15_110, 8, .inl (fun _ => 0))), (q140, .inr (6, [.ref q8_144, .ref q17_144, .int 0, .int 0, .int 0, .int 0])), (q8_144, .inl (c9a_9, 150, .inl (fun _ => 0))), (q17_144, .inl (c9a_9, 150, .inl (fun _ => 0))), (q140b, .inr (6, [.ref q8_b144, .ref q17_b144, .int 0, .int 0, .int 0, .int 0])), (q8_b144, .inl (c9a_9, 150, .inl (fun _ => 0))), (q17_b144, .inl (c9a_9, 150, .inl (fun _ => 0))), (q140c, .inr (6, [.ref q8_c144, .ref q17_c144, .int 0, .int 0, .int 0, .int 0])), (q8_c144, .inl (c9a_9, 150, .inl (fun _ => 0))), (q17_c144, .inl (c9a_9, 150, .inl (fun _ => 0)))]) (w1 := [(q140d, .inr (6, [.ref q8_d144, .ref q17_d144, .int 0, .int 0, .int 0, .int 0])), (q8_d144, .inl (c8_d144, 150, .inl (fun _ => 0))), (q17_d144, .inl (c8_d144, 150, .inl (fun _ => 0)))]) hP hD [31] [0, 1, 2, 3, 4, 5, 6, 7, 8, 9, 10, 11, 12, 13, 14, 15, 16, 17, 18, 19, 20, 21, 22, 23, 24, 25, 26, 27, 28, 29, 30] rfl rfl (by decide) (by decide) hk1 hFc hP1 hD1
    have hK := hK.app hK1
    obtain rfl : c9a_9 = c8_d144 := ka_i hK 1 4 rfl rfl
    have hK := hK.sub (tys' := [(c9_9, .array .int), (c9a_9, .int), (c50, .object "ReelOffice$Tape"), (c15_110, .boolean)]) [0, 1, 2, 3] rfl
    have hP : va_P (dC, dI) classes [(h0, .inr (0, [.ref q5, .ref q105, .ref q117, .ref q16, .ref q27, .ref q38, .ref q50, .ref q58, .ref q65, .ref q72, .int 0, .int 0])), (q5, .inr (1, [.ref q9_9, .ref q18_9, .ref q25_9, .int 0, .int 0])), (q9_9, .inl (c9_9, 2, .inr (.inr (.inr (.inr (va_two q9a_9 q9b_9)))))), (q9a_9, .inl (c9a_9, 150, .inl (fun _ => 0))), (q9b_9, .inl (c9a_9, 150, .inl (fun _ => 0))), (q18_9, .inl (c9a_9, 3, .inl (fun _ => 0))), (q25_9, .inl (c9a_9, 3, .inl (fun _ => 0))), (q16, .inr (3, [.ref q6_20, .int 0, .int 0])), (q6_20, .inl (c9a_9, 3, .inl (fun _ => 0))), (q27, .inr (4, [.int 0, .int 1, .int 0, .int 0])), (q38, .inr (5, [.ref q8_42, .int 0])), (q8_42, .inl (c9a_9, 150, .inl (fun _ => 0))), (q50, .inl (c50, 4, .inr (.inr (.inr (.inr (va_up (va_up (va_up (fun _ => none) (0 : Int32).toNatClampNeg (some q140)) (1 : Int32).toNatClampNeg (some q140b)) (2 : Int32).toNatClampNeg (some q140c))))))), (q58, .inl (c9a_9, 4, .inl (fun _ => 0))), (q65, .inl (c9a_9, 3, .inl (fun _ => 0))), (q72, .inl (c9a_9, 3, .inl (fun _ => 0))), (q105, .inr (2, [.int rv, .ref q7_110, .ref q15_110, .int 0, .int 0])), (q7_110, .inl (c9a_9, 8, .inl (fun _ => 0))), (q15_110, .inl (c15_110, 8, .inl (fun _ => 0))), (q117, .inr (2, [.int rv, .ref q7_122, .ref q15_122, .int 0, .int 0])), (q7_122, .inl (c9a_9, 8, .inl (fun _ => 0))), (q15_122, .inl (c15_110, 8, .inl (fun _ => 0))), (q140, .inr (6, [.ref q8_144, .ref q17_144, .int 0, .int 0, .int 0, .int 0])), (q8_144, .inl (c9a_9, 150, .inl (fun _ => 0))), (q17_144, .inl (c9a_9, 150, .inl (fun _ => 0))), (q140b, .inr (6, [.ref q8_b144, .ref q17_b144, .int 0, .int 0, .int 0, .int 0])), (q8_b144, .inl (c9a_9, 150, .inl (fun _ => 0))), (q17_b144, .inl (c9a_9, 150, .inl (fun _ => 0))), (q140c, .inr (6, [.ref q8_c144, .ref q17_c144, .int 0, .int 0, .int 0, .int 0])), (q8_c144, .inl (c9a_9, 150, .inl (fun _ => 0))), (q17_c144, .inl (c9a_9, 150, .inl (fun _ => 0))), (q140d, .inr (6, [.ref q8_d144, .ref q17_d144, .int 0, .int 0, .int 0, .int 0])), (q8_d144, .inl (c9a_9, 150, .inl (fun _ => 0))), (q17_d144, .inl (c9a_9, 150, .inl (fun _ => 0)))] H := hP
    have hD : va_D A [(h0, .inr (0, [.ref q5, .ref q105, .ref q117, .ref q16, .ref q27, .ref q38, .ref q50, .ref q58, .ref q65, .ref q72, .int 0, .int 0])), (q5, .inr (1, [.ref q9_9, .ref q18_9, .ref q25_9, .int 0, .int 0])), (q9_9, .inl (c9_9, 2, .inr (.inr (.inr (.inr (va_two q9a_9 q9b_9)))))), (q9a_9, .inl (c9a_9, 150, .inl (fun _ => 0))), (q9b_9, .inl (c9a_9, 150, .inl (fun _ => 0))), (q18_9, .inl (c9a_9, 3, .inl (fun _ => 0))), (q25_9, .inl (c9a_9, 3, .inl (fun _ => 0))), (q16, .inr (3, [.ref q6_20, .int 0, .int 0])), (q6_20, .inl (c9a_9, 3, .inl (fun _ => 0))), (q27, .inr (4, [.int 0, .int 1, .int 0, .int 0])), (q38, .inr (5, [.ref q8_42, .int 0])), (q8_42, .inl (c9a_9, 150, .inl (fun _ => 0))), (q50, .inl (c50, 4, .inr (.inr (.inr (.inr (va_up (va_up (va_up (fun _ => none) (0 : Int32).toNatClampNeg (some q140)) (1 : Int32).toNatClampNeg (some q140b)) (2 : Int32).toNatClampNeg (some q140c))))))), (q58, .inl (c9a_9, 4, .inl (fun _ => 0))), (q65, .inl (c9a_9, 3, .inl (fun _ => 0))), (q72, .inl (c9a_9, 3, .inl (fun _ => 0))), (q105, .inr (2, [.int rv, .ref q7_110, .ref q15_110, .int 0, .int 0])), (q7_110, .inl (c9a_9, 8, .inl (fun _ => 0))), (q15_110, .inl (c15_110, 8, .inl (fun _ => 0))), (q117, .inr (2, [.int rv, .ref q7_122, .ref q15_122, .int 0, .int 0])), (q7_122, .inl (c9a_9, 8, .inl (fun _ => 0))), (q15_122, .inl (c15_110, 8, .inl (fun _ => 0))), (q140, .inr (6, [.ref q8_144, .ref q17_144, .int 0, .int 0, .int 0, .int 0])), (q8_144, .inl (c9a_9, 150, .inl (fun _ => 0))), (q17_144, .inl (c9a_9, 150, .inl (fun _ => 0))), (q140b, .inr (6, [.ref q8_b144, .ref q17_b144, .int 0, .int 0, .int 0, .int 0])), (q8_b144, .inl (c9a_9, 150, .inl (fun _ => 0))), (q17_b144, .inl (c9a_9, 150, .inl (fun _ => 0))), (q140c, .inr (6, [.ref q8_c144, .ref q17_c144, .int 0, .int 0, .int 0, .int 0])), (q8_c144, .inl (c9a_9, 150, .inl (fun _ => 0))), (q17_c144, .inl (c9a_9, 150, .inl (fun _ => 0))), (q140d, .inr (6, [.ref q8_d144, .ref q17_d144, .int 0, .int 0, .int 0, .int 0])), (q8_d144, .inl (c9a_9, 150, .inl (fun _ => 0))), (q17_d144, .inl (c9a_9, 150, .inl (fun _ => 0)))] := hD
    have hK : va_K (dC, dI) classes [(c9_9, .array .int), (c9a_9, .int), (c50, .object "ReelOffice$Tape"), (c15_110, .boolean)] s := hK
    refine va_astq (i := 3) hx hb hK hP hD hS 12 2 31 6 rfl rfl rfl rfl (inb_in (by decide)) d_O_init_147 (fun H locs hP hD hS => ?_)
    have hP : va_P (dC, dI) classes [(h0, .inr (0, [.ref q5, .ref q105, .ref q117, .ref q16, .ref q27, .ref q38, .ref q50, .ref q58, .ref q65, .ref q72, .int 0, .int 0])), (q5, .inr (1, [.ref q9_9, .ref q18_9, .ref q25_9, .int 0, .int 0])), (q9_9, .inl (c9_9, 2, .inr (.inr (.inr (.inr (va_two q9a_9 q9b_9)))))), (q9a_9, .inl (c9a_9, 150, .inl (fun _ => 0))), (q9b_9, .inl (c9a_9, 150, .inl (fun _ => 0))), (q18_9, .inl (c9a_9, 3, .inl (fun _ => 0))), (q25_9, .inl (c9a_9, 3, .inl (fun _ => 0))), (q16, .inr (3, [.ref q6_20, .int 0, .int 0])), (q6_20, .inl (c9a_9, 3, .inl (fun _ => 0))), (q27, .inr (4, [.int 0, .int 1, .int 0, .int 0])), (q38, .inr (5, [.ref q8_42, .int 0])), (q8_42, .inl (c9a_9, 150, .inl (fun _ => 0))), (q50, .inl (c50, 4, .inr (.inr (.inr (.inr (va_up (va_up (va_up (va_up (fun _ => none) (0 : Int32).toNatClampNeg (some q140)) (1 : Int32).toNatClampNeg (some q140b)) (2 : Int32).toNatClampNeg (some q140c)) (3 : Int32).toNatClampNeg (some q140d))))))), (q58, .inl (c9a_9, 4, .inl (fun _ => 0))), (q65, .inl (c9a_9, 3, .inl (fun _ => 0))), (q72, .inl (c9a_9, 3, .inl (fun _ => 0))), (q105, .inr (2, [.int rv, .ref q7_110, .ref q15_110, .int 0, .int 0])), (q7_110, .inl (c9a_9, 8, .inl (fun _ => 0))), (q15_110, .inl (c15_110, 8, .inl (fun _ => 0))), (q117, .inr (2, [.int rv, .ref q7_122, .ref q15_122, .int 0, .int 0])), (q7_122, .inl (c9a_9, 8, .inl (fun _ => 0))), (q15_122, .inl (c15_110, 8, .inl (fun _ => 0))), (q140, .inr (6, [.ref q8_144, .ref q17_144, .int 0, .int 0, .int 0, .int 0])), (q8_144, .inl (c9a_9, 150, .inl (fun _ => 0))), (q17_144, .inl (c9a_9, 150, .inl (fun _ => 0))), (q140b, .inr (6, [.ref q8_b144, .ref q17_b144, .int 0, .int 0, .int 0, .int 0])), (q8_b144, .inl (c9a_9, 150, .inl (fun _ => 0))), (q17_b144, .inl (c9a_9, 150, .inl (fun _ => 0))), (q140c, .inr (6, [.ref q8_c144, .ref q17_c144, .int 0, .int 0, .int 0, .int 0])), (q8_c144, .inl (c9a_9, 150, .inl (fun _ => 0))), (q17_c144, .inl (c9a_9, 150, .inl (fun _ => 0))), (q140d, .inr (6, [.ref q8_d144, .ref q17_d144, .int 0, .int 0, .int 0, .int 0])), (q8_d144, .inl (c9a_9, 150, .inl (fun _ => 0))), (q17_d144, .inl (c9a_9, 150, .inl (fun _ => 0)))] H := hP
    have hD : va_D A [(h0, .inr (0, [.ref q5, .ref q105, .ref q117, .ref q16, .ref q27, .ref q38, .ref q50, .ref q58, .ref q65, .ref q72, .int 0, .int 0])), (q5, .inr (1, [.ref q9_9, .ref q18_9, .ref q25_9, .int 0, .int 0])), (q9_9, .inl (c9_9, 2, .inr (.inr (.inr (.inr (va_two q9a_9 q9b_9)))))), (q9a_9, .inl (c9a_9, 150, .inl (fun _ => 0))), (q9b_9, .inl (c9a_9, 150, .inl (fun _ => 0))), (q18_9, .inl (c9a_9, 3, .inl (fun _ => 0))), (q25_9, .inl (c9a_9, 3, .inl (fun _ => 0))), (q16, .inr (3, [.ref q6_20, .int 0, .int 0])), (q6_20, .inl (c9a_9, 3, .inl (fun _ => 0))), (q27, .inr (4, [.int 0, .int 1, .int 0, .int 0])), (q38, .inr (5, [.ref q8_42, .int 0])), (q8_42, .inl (c9a_9, 150, .inl (fun _ => 0))), (q50, .inl (c50, 4, .inr (.inr (.inr (.inr (va_up (va_up (va_up (va_up (fun _ => none) (0 : Int32).toNatClampNeg (some q140)) (1 : Int32).toNatClampNeg (some q140b)) (2 : Int32).toNatClampNeg (some q140c)) (3 : Int32).toNatClampNeg (some q140d))))))), (q58, .inl (c9a_9, 4, .inl (fun _ => 0))), (q65, .inl (c9a_9, 3, .inl (fun _ => 0))), (q72, .inl (c9a_9, 3, .inl (fun _ => 0))), (q105, .inr (2, [.int rv, .ref q7_110, .ref q15_110, .int 0, .int 0])), (q7_110, .inl (c9a_9, 8, .inl (fun _ => 0))), (q15_110, .inl (c15_110, 8, .inl (fun _ => 0))), (q117, .inr (2, [.int rv, .ref q7_122, .ref q15_122, .int 0, .int 0])), (q7_122, .inl (c9a_9, 8, .inl (fun _ => 0))), (q15_122, .inl (c15_110, 8, .inl (fun _ => 0))), (q140, .inr (6, [.ref q8_144, .ref q17_144, .int 0, .int 0, .int 0, .int 0])), (q8_144, .inl (c9a_9, 150, .inl (fun _ => 0))), (q17_144, .inl (c9a_9, 150, .inl (fun _ => 0))), (q140b, .inr (6, [.ref q8_b144, .ref q17_b144, .int 0, .int 0, .int 0, .int 0])), (q8_b144, .inl (c9a_9, 150, .inl (fun _ => 0))), (q17_b144, .inl (c9a_9, 150, .inl (fun _ => 0))), (q140c, .inr (6, [.ref q8_c144, .ref q17_c144, .int 0, .int 0, .int 0, .int 0])), (q8_c144, .inl (c9a_9, 150, .inl (fun _ => 0))), (q17_c144, .inl (c9a_9, 150, .inl (fun _ => 0))), (q140d, .inr (6, [.ref q8_d144, .ref q17_d144, .int 0, .int 0, .int 0, .int 0])), (q8_d144, .inl (c9a_9, 150, .inl (fun _ => 0))), (q17_d144, .inl (c9a_9, 150, .inl (fun _ => 0)))] := hD
    refine lv_iinc (k := 0) (v := 4) hx hb d_O_init_148 hl rfl (by decide) (by decide) (lv' := [(3, .int 4), (2, .int rv), (0, .ref h0), (1, .int a1)]) rfl (fun ls hl => ?_)
    refine lv_goto (tgt := 130) hx hb d_O_init_151 (by decide) ?_
    refine lv_iload_n hx hb d_O_init_130 rfl (lv_at hl 0 rfl) ?_
    refine lv_iconst (v := 4) hx hb d_O_init_131 (by decide) ?_
    refine lv_icmp_ge (tgt := 154) hx hb d_O_init_132 (by decide) (fun _ => ?_) (fun h => absurd h (by decide))
    have hP := P_cell (g := fun i => some (adl [[h0, q58, q65, q72, 0, 0, 0, 0, 0, q50], [q5, q9a_9, q9b_9, q18_9, q25_9, 0, 0, 0, 0, q9_9], [q105, q7_110, q15_110], [q117, q7_122, q15_122], [q16, q6_20], [q27], [q38, q8_42], [q140, q8_144, q17_144], [q140b, q8_b144, q17_b144], [q140c, q8_c144, q17_c144], [q140d, q8_d144, q17_d144]] (7 + i) 0)) hP 12 rfl (fun j hj => by rcases (show j = 0 ∨ j = 1 ∨ j = 2 ∨ j = 3 by omega) with rfl | rfl | rfl | rfl <;> rfl)
    have hP := P_cell (g := fun i => some (adl [[h0, q58, q65, q72, 0, 0, 0, 0, 0, q50], [q5, q9a_9, q9b_9, q18_9, q25_9, 0, 0, 0, 0, q9_9], [q105, q7_110, q15_110], [q117, q7_122, q15_122], [q16, q6_20], [q27], [q38, q8_42], [q140, q8_144, q17_144], [q140b, q8_b144, q17_b144], [q140c, q8_c144, q17_c144], [q140d, q8_d144, q17_d144]] 1 (1 + i))) hP 2 rfl (fun j hj => by rcases (show j = 0 ∨ j = 1 by omega) with rfl | rfl <;> rfl)
    have hD := D_cell (g := fun i => some (adl [[h0, q58, q65, q72, 0, 0, 0, 0, 0, q50], [q5, q9a_9, q9b_9, q18_9, q25_9, 0, 0, 0, 0, q9_9], [q105, q7_110, q15_110], [q117, q7_122, q15_122], [q16, q6_20], [q27], [q38, q8_42], [q140, q8_144, q17_144], [q140b, q8_b144, q17_b144], [q140c, q8_c144, q17_c144], [q140d, q8_d144, q17_d144]] (7 + i) 0)) hD 12 rfl
    have hD := D_cell (g := fun i => some (adl [[h0, q58, q65, q72, 0, 0, 0, 0, 0, q50], [q5, q9a_9, q9b_9, q18_9, q25_9, 0, 0, 0, 0, q9_9], [q105, q7_110, q15_110], [q117, q7_122, q15_122], [q16, q6_20], [q27], [q38, q8_42], [q140, q8_144, q17_144], [q140b, q8_b144, q17_b144], [q140c, q8_c144, q17_c144], [q140d, q8_d144, q17_d144]] 1 (1 + i))) hD 2 rfl
    have hP9 := hP.sub (ws' := wX (adl [[h0, q58, q65, q72, 0, 0, 0, 0, 0, q50], [q5, q9a_9, q9b_9, q18_9, q25_9, 0, 0, 0, 0, q9_9], [q105, q7_110, q15_110], [q117, q7_122, q15_122], [q16, q6_20], [q27], [q38, q8_42], [q140, q8_144, q17_144], [q140b, q8_b144, q17_b144], [q140c, q8_c144, q17_c144], [q140d, q8_d144, q17_d144]]) (csl [c9a_9, c15_110, c50, c9_9]) (iniX a1)) [0, 1, 2, 3, 4, 5, 6, 16, 17, 18, 19, 20, 21, 7, 8, 9, 10, 11, 12, 22, 23, 24, 25, 26, 27, 28, 29, 30, 31, 32, 33, 13, 14, 15] (by rw [iniX, hi1]; rfl)
    have hD9 := hD.sub (ws' := wX (adl [[h0, q58, q65, q72, 0, 0, 0, 0, 0, q50], [q5, q9a_9, q9b_9, q18_9, q25_9, 0, 0, 0, 0, q9_9], [q105, q7_110, q15_110], [q117, q7_122, q15_122], [q16, q6_20], [q27], [q38, q8_42], [q140, q8_144, q17_144], [q140b, q8_b144, q17_b144], [q140c, q8_c144, q17_c144], [q140d, q8_d144, q17_d144]]) (csl [c9a_9, c15_110, c50, c9_9]) (iniX a1)) [0, 1, 2, 3, 4, 5, 6, 16, 17, 18, 19, 20, 21, 7, 8, 9, 10, 11, 12, 22, 23, 24, 25, 26, 27, 28, 29, 30, 31, 32, 33, 13, 14, 15] (by decide) (by rw [iniX, hi1]; rfl)
    have hK9 := hK.sub (tys' := tyW (csl [c9a_9, c15_110, c50, c9_9])) [1, 3, 2, 0] rfl
    exact W.vret hx hb hr (fun t ht hW => ⟨⟨(), rfl, trivial, adl [[h0, q58, q65, q72, 0, 0, 0, 0, 0, q50], [q5, q9a_9, q9b_9, q18_9, q25_9, 0, 0, 0, 0, q9_9], [q105, q7_110, q15_110], [q117, q7_122, q15_122], [q16, q6_20], [q27], [q38, q8_42], [q140, q8_144, q17_144], [q140b, q8_b144, q17_b144], [q140c, q8_c144, q17_c144], [q140d, q8_d144, q17_d144]], (csl [c9a_9, c15_110, c50, c9_9]), rfl, by rw [ht]; exact hP9, va_K.moved hW.alike hK9, hD9⟩, hS.F ht⟩) hS.2.2 d_O_init_154
  intro KM
  refine lv_icmp_lt (tgt := 102) hx hb d_O_init_89 (by decide) (fun h89 => ?_) (fun h89 => ?_)
  · refine lv_iconst (v := 4) hx hb d_O_init_102 (by decide) ?_
    exact KM _ _ _ _ ⟨4, rfl, rm4_a h89, lv_sub hl [0, 1] rfl, hP, hD, hS⟩
  · refine lv_iload_n hx hb d_O_init_92 rfl (lv_at hl 1 rfl) ?_
    refine lv_bipush (v := 8) hx hb d_O_init_93 (by decide) ?_
    refine lv_icmp_gt (tgt := 102) hx hb d_O_init_95 (by decide) (fun h95 => ?_) (fun h95 => ?_)
    · refine lv_iconst (v := 4) hx hb d_O_init_102 (by decide) ?_
      exact KM _ _ _ _ ⟨4, rfl, rm4_b h89 h95, lv_sub hl [0, 1] rfl, hP, hD, hS⟩
    · refine lv_iload_n hx hb d_O_init_98 rfl (lv_at hl 1 rfl) ?_
      refine lv_goto (tgt := 103) hx hb d_O_init_99 (by decide) ?_
      exact KM _ _ _ _ ⟨a1, rfl, rm4_c h89 h95, lv_sub hl [0, 1] rfl, hP, hD, hS⟩
end
