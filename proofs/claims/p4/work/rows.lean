section
-- ===== PART A: goes FIRST, ahead of the names: the tables' words, and 'selects' of the private methods out of them =====
/-- a private method of a class that the tables say can be made, by its rows of tables_1 -/
def lw_okq (q : MethodName × Nat) : Prop := (q.1.cls ≠ "java/lang/invoke/MethodHandle" ∧ q.1.cls ≠ "java/lang/invoke/VarHandle") ∧ Cond.instantiable q.1.cls q.2 ∈ tables_1 ∧ Cond.privateMethod q.1 ∈ tables_1 ∧ Cond.instanceMethod q.1 ∈ tables_1
theorem lw_p0 : lw_okq (⟨"ReelOffice", "tapeInRole", "(I)LReelOffice$Tape;"⟩, 12) := ⟨⟨by decide +kernel, by decide +kernel⟩, List.mem_of_getElem? (i := 17) (by decide +kernel), List.mem_of_getElem? (i := 306) (by decide +kernel), List.mem_of_getElem? (i := 307) (by decide +kernel)⟩
theorem lw_p1 : lw_okq (⟨"java/lang/Throwable", "fillInStackTrace", "(I)Ljava/lang/Throwable;"⟩, 6) := ⟨⟨by decide +kernel, by decide +kernel⟩, List.mem_of_getElem? (i := 391) (by decide +kernel), List.mem_of_getElem? (i := 389) (by decide +kernel), List.mem_of_getElem? (i := 390) (by decide +kernel)⟩
theorem lw_p2 : lw_okq (⟨"ReelOffice", "layRun", "()Z"⟩, 12) := ⟨⟨by decide +kernel, by decide +kernel⟩, List.mem_of_getElem? (i := 17) (by decide +kernel), List.mem_of_getElem? (i := 488) (by decide +kernel), List.mem_of_getElem? (i := 489) (by decide +kernel)⟩
theorem lw_p3 : lw_okq (⟨"ReelOffice", "writeRunFromTrial", "()Z"⟩, 12) := ⟨⟨by decide +kernel, by decide +kernel⟩, List.mem_of_getElem? (i := 17) (by decide +kernel), List.mem_of_getElem? (i := 496) (by decide +kernel), List.mem_of_getElem? (i := 497) (by decide +kernel)⟩
theorem lw_p4 : lw_okq (⟨"ReelOffice$Plan", "goUp", "([LReelOffice$Tape;)V"⟩, 3) := ⟨⟨by decide +kernel, by decide +kernel⟩, List.mem_of_getElem? (i := 50) (by decide +kernel), List.mem_of_getElem? (i := 535) (by decide +kernel), List.mem_of_getElem? (i := 536) (by decide +kernel)⟩
theorem lw_p5 : lw_okq (⟨"ReelOffice$Plan", "growTo", "(II[LReelOffice$Tape;)V"⟩, 3) := ⟨⟨by decide +kernel, by decide +kernel⟩, List.mem_of_getElem? (i := 50) (by decide +kernel), List.mem_of_getElem? (i := 539) (by decide +kernel), List.mem_of_getElem? (i := 540) (by decide +kernel)⟩
theorem lw_p6 : lw_okq (⟨"ReelOffice", "mergeRuns", "()Z"⟩, 12) := ⟨⟨by decide +kernel, by decide +kernel⟩, List.mem_of_getElem? (i := 17) (by decide +kernel), List.mem_of_getElem? (i := 551) (by decide +kernel), List.mem_of_getElem? (i := 552) (by decide +kernel)⟩
theorem lw_p7 : lw_okq (⟨"ReelOffice", "everySourceHasDummy", "()Z"⟩, 12) := ⟨⟨by decide +kernel, by decide +kernel⟩, List.mem_of_getElem? (i := 17) (by decide +kernel), List.mem_of_getElem? (i := 555) (by decide +kernel), List.mem_of_getElem? (i := 556) (by decide +kernel)⟩
theorem lw_p8 : lw_okq (⟨"ReelOffice", "sourcesCanBeRead", "()Z"⟩, 12) := ⟨⟨by decide +kernel, by decide +kernel⟩, List.mem_of_getElem? (i := 17) (by decide +kernel), List.mem_of_getElem? (i := 563) (by decide +kernel), List.mem_of_getElem? (i := 564) (by decide +kernel)⟩
theorem lw_p9 : lw_okq (⟨"ReelOffice", "writeMergedRun", "()Z"⟩, 12) := ⟨⟨by decide +kernel, by decide +kernel⟩, List.mem_of_getElem? (i := 17) (by decide +kernel), List.mem_of_getElem? (i := 571) (by decide +kernel), List.mem_of_getElem? (i := 572) (by decide +kernel)⟩
theorem lw_p10 : lw_okq (⟨"ReelOffice", "sourceOfFirstCard", "()I"⟩, 12) := ⟨⟨by decide +kernel, by decide +kernel⟩, List.mem_of_getElem? (i := 17) (by decide +kernel), List.mem_of_getElem? (i := 575) (by decide +kernel), List.mem_of_getElem? (i := 576) (by decide +kernel)⟩
theorem lw_p11 : lw_okq (⟨"ReelOffice", "nextCardOf", "(I)I"⟩, 12) := ⟨⟨by decide +kernel, by decide +kernel⟩, List.mem_of_getElem? (i := 17) (by decide +kernel), List.mem_of_getElem? (i := 579) (by decide +kernel), List.mem_of_getElem? (i := 580) (by decide +kernel)⟩
theorem lw_p12 : lw_okq (⟨"ReelOffice", "takeFromSources", "()V"⟩, 12) := ⟨⟨by decide +kernel, by decide +kernel⟩, List.mem_of_getElem? (i := 17) (by decide +kernel), List.mem_of_getElem? (i := 583) (by decide +kernel), List.mem_of_getElem? (i := 584) (by decide +kernel)⟩
theorem lw_p13 : lw_okq (⟨"ReelOffice", "endLevel", "()V"⟩, 12) := ⟨⟨by decide +kernel, by decide +kernel⟩, List.mem_of_getElem? (i := 17) (by decide +kernel), List.mem_of_getElem? (i := 595) (by decide +kernel), List.mem_of_getElem? (i := 596) (by decide +kernel)⟩
theorem lw_p14 : lw_okq (⟨"ReelOfficeModel", "isCard", "(I)Z"⟩, 33) := ⟨⟨by decide +kernel, by decide +kernel⟩, List.mem_of_getElem? (i := 614) (by decide +kernel), List.mem_of_getElem? (i := 736) (by decide +kernel), List.mem_of_getElem? (i := 737) (by decide +kernel)⟩
theorem lw_p15 : lw_okq (⟨"ReelOfficeModel", "comesFirst", "(II)Z"⟩, 33) := ⟨⟨by decide +kernel, by decide +kernel⟩, List.mem_of_getElem? (i := 614) (by decide +kernel), List.mem_of_getElem? (i := 740) (by decide +kernel), List.mem_of_getElem? (i := 741) (by decide +kernel)⟩
def lw_privs_1 : List (MethodName × Nat) := [(⟨"ReelOffice", "tapeInRole", "(I)LReelOffice$Tape;"⟩, 12), (⟨"java/lang/Throwable", "fillInStackTrace", "(I)Ljava/lang/Throwable;"⟩, 6), (⟨"ReelOffice", "layRun", "()Z"⟩, 12), (⟨"ReelOffice", "writeRunFromTrial", "()Z"⟩, 12), (⟨"ReelOffice$Plan", "goUp", "([LReelOffice$Tape;)V"⟩, 3), (⟨"ReelOffice$Plan", "growTo", "(II[LReelOffice$Tape;)V"⟩, 3), (⟨"ReelOffice", "mergeRuns", "()Z"⟩, 12), (⟨"ReelOffice", "everySourceHasDummy", "()Z"⟩, 12), (⟨"ReelOffice", "sourcesCanBeRead", "()Z"⟩, 12), (⟨"ReelOffice", "writeMergedRun", "()Z"⟩, 12), (⟨"ReelOffice", "sourceOfFirstCard", "()I"⟩, 12), (⟨"ReelOffice", "nextCardOf", "(I)I"⟩, 12), (⟨"ReelOffice", "takeFromSources", "()V"⟩, 12), (⟨"ReelOffice", "endLevel", "()V"⟩, 12), (⟨"ReelOfficeModel", "isCard", "(I)Z"⟩, 33), (⟨"ReelOfficeModel", "comesFirst", "(II)Z"⟩, 33)]
theorem lw_r1 : ∀ q ∈ lw_privs_1, lw_okq q := List.forall_mem_cons.mpr ⟨lw_p0, List.forall_mem_cons.mpr ⟨lw_p1, List.forall_mem_cons.mpr ⟨lw_p2, List.forall_mem_cons.mpr ⟨lw_p3, List.forall_mem_cons.mpr ⟨lw_p4, List.forall_mem_cons.mpr ⟨lw_p5, List.forall_mem_cons.mpr ⟨lw_p6, List.forall_mem_cons.mpr ⟨lw_p7, List.forall_mem_cons.mpr ⟨lw_p8, List.forall_mem_cons.mpr ⟨lw_p9, List.forall_mem_cons.mpr ⟨lw_p10, List.forall_mem_cons.mpr ⟨lw_p11, List.forall_mem_cons.mpr ⟨lw_p12, List.forall_mem_cons.mpr ⟨lw_p13, List.forall_mem_cons.mpr ⟨lw_p14, List.forall_mem_cons.mpr ⟨lw_p15, fun _ h => absurd h List.not_mem_nil⟩⟩⟩⟩⟩⟩⟩⟩⟩⟩⟩⟩⟩⟩⟩⟩
theorem lw_p16 : lw_okq (⟨"ReelOfficeModel", "reset", "()V"⟩, 33) := ⟨⟨by decide +kernel, by decide +kernel⟩, List.mem_of_getElem? (i := 614) (by decide +kernel), List.mem_of_getElem? (i := 756) (by decide +kernel), List.mem_of_getElem? (i := 757) (by decide +kernel)⟩
theorem lw_p17 : lw_okq (⟨"ReelOfficeModel", "lay", "()Z"⟩, 33) := ⟨⟨by decide +kernel, by decide +kernel⟩, List.mem_of_getElem? (i := 614) (by decide +kernel), List.mem_of_getElem? (i := 768) (by decide +kernel), List.mem_of_getElem? (i := 769) (by decide +kernel)⟩
theorem lw_p18 : lw_okq (⟨"ReelOfficeModel", "putAside", "()V"⟩, 33) := ⟨⟨by decide +kernel, by decide +kernel⟩, List.mem_of_getElem? (i := 614) (by decide +kernel), List.mem_of_getElem? (i := 772) (by decide +kernel), List.mem_of_getElem? (i := 773) (by decide +kernel)⟩
theorem lw_p19 : lw_okq (⟨"ReelOfficeModel", "makeRun", "()Z"⟩, 33) := ⟨⟨by decide +kernel, by decide +kernel⟩, List.mem_of_getElem? (i := 614) (by decide +kernel), List.mem_of_getElem? (i := 776) (by decide +kernel), List.mem_of_getElem? (i := 777) (by decide +kernel)⟩
theorem lw_p20 : lw_okq (⟨"ReelOfficeModel", "first", "()I"⟩, 33) := ⟨⟨by decide +kernel, by decide +kernel⟩, List.mem_of_getElem? (i := 614) (by decide +kernel), List.mem_of_getElem? (i := 780) (by decide +kernel), List.mem_of_getElem? (i := 781) (by decide +kernel)⟩
theorem lw_p21 : lw_okq (⟨"ReelOfficeModel", "write", "(I)Z"⟩, 33) := ⟨⟨by decide +kernel, by decide +kernel⟩, List.mem_of_getElem? (i := 614) (by decide +kernel), List.mem_of_getElem? (i := 784) (by decide +kernel), List.mem_of_getElem? (i := 785) (by decide +kernel)⟩
theorem lw_p22 : lw_okq (⟨"ReelOfficeModel", "takeBack", "()V"⟩, 33) := ⟨⟨by decide +kernel, by decide +kernel⟩, List.mem_of_getElem? (i := 614) (by decide +kernel), List.mem_of_getElem? (i := 788) (by decide +kernel), List.mem_of_getElem? (i := 789) (by decide +kernel)⟩
theorem lw_p23 : lw_okq (⟨"ReelOfficeModel", "findPlace", "()V"⟩, 33) := ⟨⟨by decide +kernel, by decide +kernel⟩, List.mem_of_getElem? (i := 614) (by decide +kernel), List.mem_of_getElem? (i := 792) (by decide +kernel), List.mem_of_getElem? (i := 793) (by decide +kernel)⟩
theorem lw_p24 : lw_okq (⟨"ReelOfficeModel", "append", "(I)V"⟩, 33) := ⟨⟨by decide +kernel, by decide +kernel⟩, List.mem_of_getElem? (i := 614) (by decide +kernel), List.mem_of_getElem? (i := 796) (by decide +kernel), List.mem_of_getElem? (i := 797) (by decide +kernel)⟩
theorem lw_p25 : lw_okq (⟨"ReelOfficeModel", "cardsOn", "(I)I"⟩, 33) := ⟨⟨by decide +kernel, by decide +kernel⟩, List.mem_of_getElem? (i := 614) (by decide +kernel), List.mem_of_getElem? (i := 800) (by decide +kernel), List.mem_of_getElem? (i := 801) (by decide +kernel)⟩
theorem lw_p26 : lw_okq (⟨"ReelOfficeModel", "merge", "()Z"⟩, 33) := ⟨⟨by decide +kernel, by decide +kernel⟩, List.mem_of_getElem? (i := 614) (by decide +kernel), List.mem_of_getElem? (i := 804) (by decide +kernel), List.mem_of_getElem? (i := 805) (by decide +kernel)⟩
theorem lw_p27 : lw_okq (⟨"ReelOfficeModel", "isReadable", "()Z"⟩, 33) := ⟨⟨by decide +kernel, by decide +kernel⟩, List.mem_of_getElem? (i := 614) (by decide +kernel), List.mem_of_getElem? (i := 808) (by decide +kernel), List.mem_of_getElem? (i := 809) (by decide +kernel)⟩
theorem lw_p28 : lw_okq (⟨"ReelOfficeModel", "mergeRuns", "()Z"⟩, 33) := ⟨⟨by decide +kernel, by decide +kernel⟩, List.mem_of_getElem? (i := 614) (by decide +kernel), List.mem_of_getElem? (i := 812) (by decide +kernel), List.mem_of_getElem? (i := 813) (by decide +kernel)⟩
theorem lw_p29 : lw_okq (⟨"ReelOfficeModel", "takeOff", "(I)V"⟩, 33) := ⟨⟨by decide +kernel, by decide +kernel⟩, List.mem_of_getElem? (i := 614) (by decide +kernel), List.mem_of_getElem? (i := 816) (by decide +kernel), List.mem_of_getElem? (i := 817) (by decide +kernel)⟩
theorem lw_p30 : lw_okq (⟨"ReelOfficeModel", "turn", "()V"⟩, 33) := ⟨⟨by decide +kernel, by decide +kernel⟩, List.mem_of_getElem? (i := 614) (by decide +kernel), List.mem_of_getElem? (i := 820) (by decide +kernel), List.mem_of_getElem? (i := 821) (by decide +kernel)⟩
def lw_privs_2 : List (MethodName × Nat) := [(⟨"ReelOfficeModel", "reset", "()V"⟩, 33), (⟨"ReelOfficeModel", "lay", "()Z"⟩, 33), (⟨"ReelOfficeModel", "putAside", "()V"⟩, 33), (⟨"ReelOfficeModel", "makeRun", "()Z"⟩, 33), (⟨"ReelOfficeModel", "first", "()I"⟩, 33), (⟨"ReelOfficeModel", "write", "(I)Z"⟩, 33), (⟨"ReelOfficeModel", "takeBack", "()V"⟩, 33), (⟨"ReelOfficeModel", "findPlace", "()V"⟩, 33), (⟨"ReelOfficeModel", "append", "(I)V"⟩, 33), (⟨"ReelOfficeModel", "cardsOn", "(I)I"⟩, 33), (⟨"ReelOfficeModel", "merge", "()Z"⟩, 33), (⟨"ReelOfficeModel", "isReadable", "()Z"⟩, 33), (⟨"ReelOfficeModel", "mergeRuns", "()Z"⟩, 33), (⟨"ReelOfficeModel", "takeOff", "(I)V"⟩, 33), (⟨"ReelOfficeModel", "turn", "()V"⟩, 33)]
theorem lw_r2 : ∀ q ∈ lw_privs_2, lw_okq q := List.forall_mem_cons.mpr ⟨lw_p16, List.forall_mem_cons.mpr ⟨lw_p17, List.forall_mem_cons.mpr ⟨lw_p18, List.forall_mem_cons.mpr ⟨lw_p19, List.forall_mem_cons.mpr ⟨lw_p20, List.forall_mem_cons.mpr ⟨lw_p21, List.forall_mem_cons.mpr ⟨lw_p22, List.forall_mem_cons.mpr ⟨lw_p23, List.forall_mem_cons.mpr ⟨lw_p24, List.forall_mem_cons.mpr ⟨lw_p25, List.forall_mem_cons.mpr ⟨lw_p26, List.forall_mem_cons.mpr ⟨lw_p27, List.forall_mem_cons.mpr ⟨lw_p28, List.forall_mem_cons.mpr ⟨lw_p29, List.forall_mem_cons.mpr ⟨lw_p30, fun _ h => absurd h List.not_mem_nil⟩⟩⟩⟩⟩⟩⟩⟩⟩⟩⟩⟩⟩⟩⟩
def lw_privs : List (MethodName × Nat) := lw_privs_1 ++ (lw_privs_2)
def lw_tbl : List Cond := k2_sels lw_privs ++ tables_1
theorem lw_privs_ok : ∀ q ∈ lw_privs, lw_okq q := by
  show ∀ q ∈ lw_privs_1 ++ (lw_privs_2), lw_okq q
  exact List.forall_mem_append.mpr ⟨lw_r1, lw_r2⟩
end
section
/-! What the printed mirrors and contracts stand on: the state of an object by numbers, the checks that a mirror makes, cuts and loops. -/
abbrev SS : Type := (Nat → Int32) × (Nat → Nat → Int32)
abbrev SX : Type := Nat → SS
def w1 (σ : SX) (j k : Nat) (v : Int32) : SX := fun i => if i = j then (fun q => if q = k then v else (σ j).1 q, (σ j).2) else σ i
def w2 (σ : SX) (j k : Nat) (f : Nat → Int32) : SX := fun i => if i = j then ((σ j).1, fun q => if q = k then f else (σ j).2 q) else σ i
def w3 (σ : SX) (j k : Nat) (i x : Int32) : SX := w2 σ j k (upd ((σ j).2 k) i.toNatClampNeg x)
def inb (i : Int32) (n : Nat) : Bool := decide (0 ≤ i.toInt ∧ i.toInt < n)
theorem inb_in {i : Int32} {n : Nat} (h : inb i n = true) : vp_in i n := vp_in_iff.mpr (of_decide_eq_true h)
theorem inb_lt {i : Int32} {n : Nat} (h : inb i n = true) : i.toNatClampNeg < n := Nat.not_le.mp fun q => inb_in h (Or.inr q)
theorem inb2_1 {i : Int32} (h : inb i 2 = true) (h0 : ¬ i = 0) : i = 1 := by
  obtain ⟨h1, h2⟩ := of_decide_eq_true h
  have h3 : ¬ i.toInt = 0 := fun q => h0 (Int32.toInt_inj.mp (by rw [q]; rfl))
  exact Int32.toInt_inj.mp (by show i.toInt = 1; omega)
theorem gd_c {α : Type} {c : Prop} [Decidable c] {a : Option α} {x : α} (h : (if c then a else none) = some x) : c := by
  by_cases hc : c
  · exact hc
  · rw [if_neg hc] at h; cases h
theorem gd_v {α : Type} {c : Prop} [Decidable c] {a : Option α} {x : α} (h : (if c then a else none) = some x) : a = some x := by
  by_cases hc : c
  · rw [if_pos hc] at h; exact h
  · rw [if_neg hc] at h; cases h
def isB (v : Int32) : Bool := decide (v = 0 ∨ v = 1)
theorem isB_n {v : Int32} (h : isB v = true) : narrow .boolean (.int v) = .int v := by
  rcases of_decide_eq_true h with rfl | rfl <;> rfl
theorem isB_f {v : Int32} (h : isB v = true) : fits .boolean (.int v) = true := by
  rcases of_decide_eq_true h with rfl | rfl <;> rfl
def cpok (sp dp n : Int32) (n0 n1 : Nat) : Bool := decide (0 ≤ sp.toInt ∧ 0 ≤ dp.toInt ∧ 0 ≤ n.toInt ∧ sp.toInt + n.toInt ≤ n0 ∧ dp.toInt + n.toInt ≤ n1)
theorem neg_of {x : Int32} (h : 0 ≤ x.toInt) : ¬ x < 0 := by
  rw [Int32.lt_iff_toInt_lt, Int32.toInt_zero]; omega
theorem clamp_int {x : Int32} (h : 0 ≤ x.toInt) : (x.toNatClampNeg : Int) = x.toInt := Int.toNat_of_nonneg h
theorem cpok_1 {sp dp n : Int32} {n0 n1 : Nat} (h : cpok sp dp n n0 n1 = true) : ¬ sp < 0 := neg_of (of_decide_eq_true h).1
theorem cpok_2 {sp dp n : Int32} {n0 n1 : Nat} (h : cpok sp dp n n0 n1 = true) : ¬ dp < 0 := neg_of (of_decide_eq_true h).2.1
theorem cpok_3 {sp dp n : Int32} {n0 n1 : Nat} (h : cpok sp dp n n0 n1 = true) : ¬ n < 0 := neg_of (of_decide_eq_true h).2.2.1
theorem cpok_4 {sp dp n : Int32} {n0 n1 : Nat} (h : cpok sp dp n n0 n1 = true) : sp.toNatClampNeg + n.toNatClampNeg ≤ n0 := by
  obtain ⟨h1, h2, h3, h4, h5⟩ := of_decide_eq_true h
  have := clamp_int h1; have := clamp_int h3; omega
theorem cpok_5 {sp dp n : Int32} {n0 n1 : Nat} (h : cpok sp dp n n0 n1 = true) : dp.toNatClampNeg + n.toNatClampNeg ≤ n1 := by
  obtain ⟨h1, h2, h3, h4, h5⟩ := of_decide_eq_true h
  have := clamp_int h2; have := clamp_int h3; omega
def bI {β : Type} (o : Option (Int32 × SX)) (k : Int32 → SX → Option β) : Option β := match o with
  | none => none
  | some q => k q.1 q.2
theorem bI_some {β : Type} {o : Option (Int32 × SX)} {k : Int32 → SX → Option β} {x : β} (h : bI o k = some x) : ∃ (r : Int32) (σ : SX), o = some (r, σ) ∧ k r σ = some x := by
  cases o with
  | none => cases h
  | some q => exact ⟨q.1, q.2, rfl, h⟩
def bR {β : Type} (o : Option (Nat × SX)) (k : Nat → SX → Option β) : Option β := match o with
  | none => none
  | some q => k q.1 q.2
theorem bR_some {β : Type} {o : Option (Nat × SX)} {k : Nat → SX → Option β} {x : β} (h : bR o k = some x) : ∃ (r : Nat) (σ : SX), o = some (r, σ) ∧ k r σ = some x := by
  cases o with
  | none => cases h
  | some q => exact ⟨q.1, q.2, rfl, h⟩
def bV {β : Type} (o : Option SX) (k : SX → Option β) : Option β := match o with
  | none => none
  | some q => k q
theorem bV_some {β : Type} {o : Option SX} {k : SX → Option β} {x : β} (h : bV o k = some x) : ∃ σ : SX, o = some σ ∧ k σ = some x := by
  cases o with
  | none => cases h
  | some q => exact ⟨q, rfl, h⟩
def bP {β : Type} (o : Option Int32) (k : Int32 → Option β) : Option β := match o with
  | none => none
  | some q => k q
theorem bP_some {β : Type} {o : Option Int32} {k : Int32 → Option β} {x : β} (h : bP o k = some x) : ∃ r : Int32, o = some r ∧ k r = some x := by
  cases o with
  | none => cases h
  | some q => exact ⟨q, rfl, h⟩
def bL {β : Type} (o : Option Int64) (k : Int64 → Option β) : Option β := match o with
  | none => none
  | some q => k q
theorem bL_some {β : Type} {o : Option Int64} {k : Int64 → Option β} {x : β} (h : bL o k = some x) : ∃ r : Int64, o = some r ∧ k r = some x := by
  cases o with
  | none => cases h
  | some q => exact ⟨q, rfl, h⟩
theorem P_eq {D : va_G} {cl : List vw_C} {w w' : va_W} {H : Heap} (e : w = w') (h : va_P D cl w H) : va_P D cl w' H := e ▸ h
theorem D_eq {A : Nat → Prop} {w w' : va_W} (e : w = w') (h : va_D A w) : va_D A w' := e ▸ h
theorem free_all {A : Nat → Prop} {ws : va_W} {H0 H : Heap} {locs : List Loc} (hD : va_D A ws) (hS : va_S A H0 H locs) (hA : ∀ q, H0.size ≤ q → A q) : ∀ q, va_A ws H.size q → A q := by
  intro q h
  rcases h with ⟨k, e, hk⟩ | h
  · exact hD.2 k (q, e) hk
  · exact hA q (Nat.le_trans hS.1 h)
theorem keepP {D : va_G} {cl : List vw_C} {ws : va_W} {H H1 : Heap} (hP : va_P D cl ws H) (hk : ∀ q : Nat, q < H.size → ¬ H.size ≤ q → H1[q]? = H[q]?) : va_P D cl ws H1 :=
  hP.kept (fun k q hq => hk q.1 (va_at.lt (hP k q hq)) (Nat.not_le.mpr (va_at.lt (hP k q hq))))
/-- a default of a switch over 1, 2, 3 -/
theorem sw_out3 {x : Int32} (h1 : ¬ x = 1) (h2 : ¬ x = 2) (h3 : ¬ x = 3) : x.toInt < 1 ∨ 3 < x.toInt := by
  have a1 : ¬ x.toInt = 1 := fun q => h1 (Int32.toInt_inj.mp (by rw [q]; rfl))
  have a2 : ¬ x.toInt = 2 := fun q => h2 (Int32.toInt_inj.mp (by rw [q]; rfl))
  have a3 : ¬ x.toInt = 3 := fun q => h3 (Int32.toInt_inj.mp (by rw [q]; rfl))
  omega
section Cuts
variable {p : Program} {l : Launch} {e : Env} {R : Room} {s : State} {m : MethodId} {args : Array Value} {below : List Frame} {meth : Method} {c : Code} {cells slots : Nat} {Q : State → Prop}
theorem W_cut {pc : Nat} (I : Heap → List Loc → Array Slot → List Value → Prop) {H0 : Heap} {locs0 : List Loc} {g0 : JFrame}
    (body : ∀ H locs ls st, I H locs ls st → W p l e R s m args below meth c H locs cells slots Q (F0 m pc ls st))
    (k : (∀ H locs ls st, I H locs ls st → W p l e R s m args below meth c H locs cells slots Q (F0 m pc ls st)) → W p l e R s m args below meth c H0 locs0 cells slots Q g0) :
    W p l e R s m args below meth c H0 locs0 cells slots Q g0 := k body
theorem W_loop {pc : Nat} (I : Nat → Heap → List Loc → Array Slot → List Value → Prop) {H0 : Heap} {locs0 : List Loc} {g0 : JFrame}
    (zero : ∀ H locs ls st, ¬ I 0 H locs ls st)
    (step : ∀ n, (∀ H locs ls st, I n H locs ls st → W p l e R s m args below meth c H locs cells slots Q (F0 m pc ls st)) → ∀ H locs ls st, I (n + 1) H locs ls st → W p l e R s m args below meth c H locs cells slots Q (F0 m pc ls st))
    (k : (∀ n H locs ls st, I n H locs ls st → W p l e R s m args below meth c H locs cells slots Q (F0 m pc ls st)) → W p l e R s m args below meth c H0 locs0 cells slots Q g0) :
    W p l e R s m args below meth c H0 locs0 cells slots Q g0 := by
  refine k fun n => ?_
  induction n with
  | zero => exact fun H locs ls st h => absurd h (zero H locs ls st)
  | succ n ih => exact step n ih
variable {cc : ByteArray} {pc : Nat} {ls : Array Slot} {rest : List Value} {D : va_G} {cl : List vw_C} {A : Nat → Prop} {a : Nat} {tys : List (ClassId × FieldType)} {ws : va_W} {H : Heap} {locs : List Loc}
/-- an array of arrays is read -/
theorem va_aldv (hexec : p.tables.exec = Jvm.exec) (hb : c.code = cc) (hK : va_K D cl tys s) (hP : va_P D cl ws H) (q0 t0 : Nat) {cA : ClassId} {n : Nat} {f : Nat → Option Nat} (ha : ws[q0]? = some (a, .inl (cA, n, .inr (.inr (.inr (.inr f)))))) (ht : tys[t0]? = some (cA, .array .int)) {i : Int32} (hin : vp_in i n) (hdg : decode cc pc = .ok (.aaload, 1))
    (kk : W p l e R s m args below meth c H locs cells slots Q (F0 m (pc + 1) ls (va_rf (f i.toNatClampNeg) :: rest))) : W p l e R s m args below meth c H locs cells slots Q (F0 m pc ls (.int i :: .ref a :: rest)) := by
  have hlt : i.toNatClampNeg < n := Nat.not_le.mp fun q => hin (Or.inr q)
  exact W.aald (v := va_rf (f i.toNatClampNeg)) (ty := .array .int) hexec hb (hP q0 _ ha) ((hK.2 t0 _ ht).1 n (fun j => va_rf (f j))) rfl (fun q => by cases q) (by show ¬ (i < 0 ∨ (arrV _ _ _).slots.size ≤ _); rw [arrV_size]; exact hin) (by show (arrV _ _ _).slots[_]? = _; rw [arrV_read _ _ hlt]) rfl rfl hdg kk
end Cuts
/-- the words that every method stands on: what the tables say that stays -/
def tb : List Cond := lw_tbl.filter goodWord
def wd (y : MethodName) (b : ByteArray) (n : Nat) (r : Option FieldType) : List Cond := .code y b n r :: tb
theorem mem_tb {w : Cond} (h : w ∈ tables_1) (g : goodWord w = true) : w ∈ tb := List.mem_filter.mpr ⟨List.mem_append_right _ h, g⟩
theorem mem_tbs {w : Cond} (h : w ∈ k2_sels lw_privs) (g : goodWord w = true) : w ∈ tb := List.mem_filter.mpr ⟨List.mem_append_left _ h, g⟩
theorem tb_good {w : Cond} (h : w ∈ tb) : (w.onTables && w.keeps) = true ∨ ∃ ty, w = .arrayClass ty := good_of_word (List.mem_filter.mp h).2
theorem goodW {y y2 : MethodName} {b b2 : ByteArray} {n n2 : Nat} {r r2 : Option FieldType} (h : Cond.code y2 b2 n2 r2 ∈ tb) : GoodIn (wd y b n r) (wd y2 b2 n2 r2) := by
  intro w hw
  rcases List.mem_cons.mp hw with rfl | hw
  · exact ⟨List.mem_cons_of_mem _ h, tb_good h⟩
  · exact ⟨List.mem_cons_of_mem _ hw, tb_good hw⟩
theorem goodV {y y2 : MethodName} {b b2 : ByteArray} {n n2 : Nat} {r r2 : Option FieldType} {own C : String} {idx : Nat} (h1 : Cond.methodLink own idx y2 ∈ tb) (h2 : Cond.instanceMethod y2 ∈ tb) (h3 : Cond.selects C y2 y2 ∈ tb) (h4 : Cond.initialized C ∈ tb) (h : Cond.code y2 b2 n2 r2 ∈ tb) : GoodIn (wd y b n r) (wsV own idx C y2 (wd y2 b2 n2 r2)) := by
  intro w hw
  rcases List.mem_append.mp hw with hw | hw
  · have hw : w ∈ tb := by
      simp only [List.mem_cons, List.not_mem_nil, or_false] at hw
      rcases hw with rfl | rfl | rfl | rfl <;> assumption
    exact ⟨List.mem_cons_of_mem _ hw, tb_good hw⟩
  · exact goodW h w hw
theorem goodS {y y2 : MethodName} {b b2 : ByteArray} {n n2 : Nat} {r r2 : Option FieldType} {own : String} {idx : Nat} (h1 : Cond.methodLink own idx y2 ∈ tb) (h2 : Cond.static y2 ∈ tb) (h4 : Cond.initialized own ∈ tb) (h : Cond.code y2 b2 n2 r2 ∈ tb) : GoodIn (wd y b n r) (wsS own idx y2 (wd y2 b2 n2 r2)) := by
  intro w hw
  rcases List.mem_append.mp hw with hw | hw
  · have hw : w ∈ tb := by
      simp only [List.mem_cons, List.not_mem_nil, or_false] at hw
      rcases hw with rfl | rfl | rfl <;> assumption
    exact ⟨List.mem_cons_of_mem _ hw, tb_good hw⟩
  · exact goodW h w hw
theorem blindS {av : List Value} {sz : Nat} : FrameBlind (va_Pc av (fun U => U.heap.size = sz)) := fun a U g mk q => q
theorem payS {s : State} {H : Heap} {av : List Value} : ∀ U : State, U.heap = H → s.WarmedH U.vm → va_Pc av (fun U => U.heap.size = H.size) av.toArray U := fun U hU _ => ⟨rfl, by show U.heap.size = _; rw [hU]⟩
end
section
abbrev R_O : String := "ReelOffice"
def F_O : u_T := fun k => match k with
  | 0 => ("ReelOffice", "deck", "LReelOffice$Deck;", true)
  | 1 => ("ReelOffice", "store", "LReelOffice$Store;", true)
  | 2 => ("ReelOffice", "trial", "LReelOffice$Store;", true)
  | 3 => ("ReelOffice", "plan", "LReelOffice$Plan;", true)
  | 4 => ("ReelOffice", "writer", "LReelOffice$Writer;", true)
  | 5 => ("ReelOffice", "row", "LReelOffice$Row;", true)
  | 6 => ("ReelOffice", "tapes", "[LReelOffice$Tape;", true)
  | 7 => ("ReelOffice", "tapeOfRole", "[I", true)
  | 8 => ("ReelOffice", "cardsRead", "[I", true)
  | 9 => ("ReelOffice", "cardsToRead", "[I", true)
  | 10 => ("ReelOffice", "stage", "I", false)
  | _ => ("ReelOffice", "brokenSteps", "I", false)
def ft_O : Nat → FieldType := fun k => match k with
  | 0 => .object "ReelOffice$Deck"
  | 1 => .object "ReelOffice$Store"
  | 2 => .object "ReelOffice$Store"
  | 3 => .object "ReelOffice$Plan"
  | 4 => .object "ReelOffice$Writer"
  | 5 => .object "ReelOffice$Row"
  | 6 => .array (.object "ReelOffice$Tape")
  | 7 => .array (.int)
  | 8 => .array (.int)
  | 9 => .array (.int)
  | 10 => .int
  | _ => .int
theorem n_O : ∀ a, a < 12 → ∀ b, b < 12 → a ≠ b → (F_O a).2.1 ≠ (F_O b).2.1 := by decide +kernel
theorem ft_O_ok : ∀ k, k < 12 → parseFieldDescriptor (F_O k).2.2.1 = some (ft_O k) := by decide +kernel
abbrev R_D : String := "ReelOffice$Deck"
def F_D : u_T := fun k => match k with
  | 0 => ("ReelOffice$Deck", "values", "[[I", true)
  | 1 => ("ReelOffice$Deck", "partFields", "[I", true)
  | 2 => ("ReelOffice$Deck", "partWays", "[I", true)
  | 3 => ("ReelOffice$Deck", "cards", "I", false)
  | _ => ("ReelOffice$Deck", "parts", "I", false)
def ft_D : Nat → FieldType := fun k => match k with
  | 0 => .array (.array (.int))
  | 1 => .array (.int)
  | 2 => .array (.int)
  | 3 => .int
  | _ => .int
theorem n_D : ∀ a, a < 5 → ∀ b, b < 5 → a ≠ b → (F_D a).2.1 ≠ (F_D b).2.1 := by decide +kernel
theorem ft_D_ok : ∀ k, k < 5 → parseFieldDescriptor (F_D k).2.2.1 = some (ft_D k) := by decide +kernel
abbrev R_S : String := "ReelOffice$Store"
def F_S : u_T := fun k => match k with
  | 0 => ("ReelOffice$Store", "room", "I", true)
  | 1 => ("ReelOffice$Store", "held", "[I", true)
  | 2 => ("ReelOffice$Store", "waits", "[Z", true)
  | 3 => ("ReelOffice$Store", "size", "I", false)
  | _ => ("ReelOffice$Store", "upcoming", "I", false)
def ft_S : Nat → FieldType := fun k => match k with
  | 0 => .int
  | 1 => .array (.int)
  | 2 => .array (.boolean)
  | 3 => .int
  | _ => .int
theorem n_S : ∀ a, a < 5 → ∀ b, b < 5 → a ≠ b → (F_S a).2.1 ≠ (F_S b).2.1 := by decide +kernel
theorem ft_S_ok : ∀ k, k < 5 → parseFieldDescriptor (F_S k).2.2.1 = some (ft_S k) := by decide +kernel
abbrev R_P : String := "ReelOffice$Plan"
def F_P : u_T := fun k => match k with
  | 0 => ("ReelOffice$Plan", "numbers", "[I", true)
  | 1 => ("ReelOffice$Plan", "steps", "I", false)
  | _ => ("ReelOffice$Plan", "place", "I", false)
def ft_P : Nat → FieldType := fun k => match k with
  | 0 => .array (.int)
  | 1 => .int
  | _ => .int
theorem n_P : ∀ a, a < 3 → ∀ b, b < 3 → a ≠ b → (F_P a).2.1 ≠ (F_P b).2.1 := by decide +kernel
theorem ft_P_ok : ∀ k, k < 3 → parseFieldDescriptor (F_P k).2.2.1 = some (ft_P k) := by decide +kernel
abbrev R_V : String := "ReelOffice$Writer"
def F_V : u_T := fun k => match k with
  | 0 => ("ReelOffice$Writer", "cardsWritten", "I", false)
  | 1 => ("ReelOffice$Writer", "power", "Z", false)
  | 2 => ("ReelOffice$Writer", "cutPlanned", "Z", false)
  | _ => ("ReelOffice$Writer", "cardsToCut", "I", false)
def ft_V : Nat → FieldType := fun k => match k with
  | 0 => .int
  | 1 => .boolean
  | 2 => .boolean
  | _ => .int
theorem n_V : ∀ a, a < 4 → ∀ b, b < 4 → a ≠ b → (F_V a).2.1 ≠ (F_V b).2.1 := by decide +kernel
theorem ft_V_ok : ∀ k, k < 4 → parseFieldDescriptor (F_V k).2.2.1 = some (ft_V k) := by decide +kernel
abbrev R_R : String := "ReelOffice$Row"
def F_R : u_T := fun k => match k with
  | 0 => ("ReelOffice$Row", "cards", "[I", true)
  | _ => ("ReelOffice$Row", "size", "I", false)
def ft_R : Nat → FieldType := fun k => match k with
  | 0 => .array (.int)
  | _ => .int
theorem n_R : ∀ a, a < 2 → ∀ b, b < 2 → a ≠ b → (F_R a).2.1 ≠ (F_R b).2.1 := by decide +kernel
theorem ft_R_ok : ∀ k, k < 2 → parseFieldDescriptor (F_R k).2.2.1 = some (ft_R k) := by decide +kernel
abbrev R_T : String := "ReelOffice$Tape"
def F_T : u_T := fun k => match k with
  | 0 => ("ReelOffice$Tape", "cards", "[I", true)
  | 1 => ("ReelOffice$Tape", "lengths", "[I", true)
  | 2 => ("ReelOffice$Tape", "cardsUsed", "I", false)
  | 3 => ("ReelOffice$Tape", "runsUsed", "I", false)
  | 4 => ("ReelOffice$Tape", "blanks", "I", false)
  | _ => ("ReelOffice$Tape", "faults", "I", false)
def ft_T : Nat → FieldType := fun k => match k with
  | 0 => .array (.int)
  | 1 => .array (.int)
  | 2 => .int
  | 3 => .int
  | 4 => .int
  | _ => .int
theorem n_T : ∀ a, a < 6 → ∀ b, b < 6 → a ≠ b → (F_T a).2.1 ≠ (F_T b).2.1 := by decide +kernel
theorem ft_T_ok : ∀ k, k < 6 → parseFieldDescriptor (F_T k).2.2.1 = some (ft_T k) := by decide +kernel
abbrev R_M : String := "ReelOfficeModel"
def F_M : u_T := fun k => match k with
  | 0 => ("ReelOfficeModel", "code", "I", false)
  | 1 => ("ReelOfficeModel", "size", "I", true)
  | 2 => ("ReelOfficeModel", "cards", "I", false)
  | 3 => ("ReelOfficeModel", "fields", "[I", true)
  | 4 => ("ReelOfficeModel", "parts", "I", false)
  | 5 => ("ReelOfficeModel", "partFields", "[I", true)
  | 6 => ("ReelOfficeModel", "ways", "[I", true)
  | 7 => ("ReelOfficeModel", "phase", "I", false)
  | 8 => ("ReelOfficeModel", "power", "Z", false)
  | 9 => ("ReelOfficeModel", "cut", "I", false)
  | 10 => ("ReelOfficeModel", "written", "I", false)
  | 11 => ("ReelOfficeModel", "broken", "I", false)
  | 12 => ("ReelOfficeModel", "faults", "[I", true)
  | 13 => ("ReelOfficeModel", "held", "I", false)
  | 14 => ("ReelOfficeModel", "memory", "[I", true)
  | 15 => ("ReelOfficeModel", "later", "[Z", true)
  | 16 => ("ReelOfficeModel", "next", "I", false)
  | 17 => ("ReelOfficeModel", "made", "I", false)
  | 18 => ("ReelOfficeModel", "numbers", "[I", true)
  | 19 => ("ReelOfficeModel", "level", "I", false)
  | 20 => ("ReelOfficeModel", "place", "I", false)
  | 21 => ("ReelOfficeModel", "tapes", "[I", true)
  | 22 => ("ReelOfficeModel", "lengths", "[I", true)
  | 23 => ("ReelOfficeModel", "runs", "[I", true)
  | 24 => ("ReelOfficeModel", "dummies", "[I", true)
  | 25 => ("ReelOfficeModel", "roles", "[I", true)
  | 26 => ("ReelOfficeModel", "asideHeld", "I", false)
  | 27 => ("ReelOfficeModel", "asideMemory", "[I", true)
  | 28 => ("ReelOfficeModel", "asideLater", "[Z", true)
  | 29 => ("ReelOfficeModel", "asideNext", "I", false)
  | 30 => ("ReelOfficeModel", "count", "I", false)
  | 31 => ("ReelOfficeModel", "run", "[I", true)
  | _ => ("ReelOfficeModel", "heads", "[I", true)
def ft_M : Nat → FieldType := fun k => match k with
  | 0 => .int
  | 1 => .int
  | 2 => .int
  | 3 => .array (.int)
  | 4 => .int
  | 5 => .array (.int)
  | 6 => .array (.int)
  | 7 => .int
  | 8 => .boolean
  | 9 => .int
  | 10 => .int
  | 11 => .int
  | 12 => .array (.int)
  | 13 => .int
  | 14 => .array (.int)
  | 15 => .array (.boolean)
  | 16 => .int
  | 17 => .int
  | 18 => .array (.int)
  | 19 => .int
  | 20 => .int
  | 21 => .array (.int)
  | 22 => .array (.int)
  | 23 => .array (.int)
  | 24 => .array (.int)
  | 25 => .array (.int)
  | 26 => .int
  | 27 => .array (.int)
  | 28 => .array (.boolean)
  | 29 => .int
  | 30 => .int
  | 31 => .array (.int)
  | _ => .array (.int)
theorem n_M : ∀ a, a < 33 → ∀ b, b < 33 → a ≠ b → (F_M a).2.1 ≠ (F_M b).2.1 := by decide +kernel
theorem ft_M_ok : ∀ k, k < 33 → parseFieldDescriptor (F_M k).2.2.1 = some (ft_M k) := by decide +kernel
abbrev classes : List vw_C := [(R_O, F_O, 12), (R_D, F_D, 5), (R_S, F_S, 5), (R_P, F_P, 3), (R_V, F_V, 4), (R_R, F_R, 2), (R_T, F_T, 6), (R_M, F_M, 33)]
abbrev tyW (cs : Nat → ClassId) : List (ClassId × FieldType) := [(cs 0, .int), (cs 1, .boolean), (cs 2, .object "ReelOffice$Tape"), (cs 3, .array .int)]

abbrev y_O_init : MethodName := ⟨"ReelOffice", "<init>", "(I)V"⟩
abbrev b_O_init : ByteArray := prog_1_method_1_code
abbrev y_O_card : MethodName := ⟨"ReelOffice", "card", "(II)I"⟩
abbrev b_O_card : ByteArray := prog_1_method_2_code
abbrev y_O_part : MethodName := ⟨"ReelOffice", "part", "(II)I"⟩
abbrev b_O_part : ByteArray := prog_1_method_3_code
abbrev y_O_start : MethodName := ⟨"ReelOffice", "start", "()V"⟩
abbrev b_O_start : ByteArray := prog_1_method_4_code
abbrev y_O_clear : MethodName := ⟨"ReelOffice", "clear", "()I"⟩
abbrev b_O_clear : ByteArray := prog_1_method_5_code
abbrev y_O_step : MethodName := ⟨"ReelOffice", "step", "(I)I"⟩
abbrev b_O_step : ByteArray := prog_1_method_6_code
abbrev y_O_fault : MethodName := ⟨"ReelOffice", "fault", "(II)I"⟩
abbrev b_O_fault : ByteArray := prog_1_method_7_code
abbrev y_O_cutAfter : MethodName := ⟨"ReelOffice", "cutAfter", "(I)Z"⟩
abbrev b_O_cutAfter : ByteArray := prog_1_method_8_code
abbrev y_O_resume : MethodName := ⟨"ReelOffice", "resume", "()Z"⟩
abbrev b_O_resume : ByteArray := prog_1_method_9_code
abbrev y_O_phase : MethodName := ⟨"ReelOffice", "phase", "()I"⟩
abbrev b_O_phase : ByteArray := prog_1_method_10_code
abbrev y_O_level : MethodName := ⟨"ReelOffice", "level", "()I"⟩
abbrev b_O_level : ByteArray := prog_1_method_11_code
abbrev y_O_runs : MethodName := ⟨"ReelOffice", "runs", "(I)I"⟩
abbrev b_O_runs : ByteArray := prog_1_method_12_code
abbrev y_O_dummies : MethodName := ⟨"ReelOffice", "dummies", "(I)I"⟩
abbrev b_O_dummies : ByteArray := prog_1_method_13_code
abbrev y_O_role : MethodName := ⟨"ReelOffice", "role", "(I)I"⟩
abbrev b_O_role : ByteArray := prog_1_method_14_code
abbrev y_O_length : MethodName := ⟨"ReelOffice", "length", "(II)I"⟩
abbrev b_O_length : ByteArray := prog_1_method_15_code
abbrev y_O_at : MethodName := ⟨"ReelOffice", "at", "(III)I"⟩
abbrev b_O_at : ByteArray := prog_1_method_16_code
abbrev y_O_memory : MethodName := ⟨"ReelOffice", "memory", "(I)Z"⟩
abbrev b_O_memory : ByteArray := prog_1_method_17_code
abbrev y_O_written : MethodName := ⟨"ReelOffice", "written", "()I"⟩
abbrev b_O_written : ByteArray := prog_1_method_18_code
abbrev y_O_broken : MethodName := ⟨"ReelOffice", "broken", "()I"⟩
abbrev b_O_broken : ByteArray := prog_1_method_19_code
abbrev y_O_sorted : MethodName := ⟨"ReelOffice", "sorted", "(I)I"⟩
abbrev b_O_sorted : ByteArray := prog_1_method_20_code
abbrev y_O_compare : MethodName := ⟨"ReelOffice", "compare", "(II)I"⟩
abbrev b_O_compare : ByteArray := prog_1_method_21_code
abbrev y_O_field : MethodName := ⟨"ReelOffice", "field", "(II)I"⟩
abbrev b_O_field : ByteArray := prog_1_method_22_code
abbrev y_O_isTape : MethodName := ⟨"ReelOffice", "isTape", "(I)Z"⟩
abbrev b_O_isTape : ByteArray := prog_1_method_23_code
abbrev y_O_isField : MethodName := ⟨"ReelOffice", "isField", "(I)Z"⟩
abbrev b_O_isField : ByteArray := prog_1_method_24_code
abbrev y_O_tapeInRole : MethodName := ⟨"ReelOffice", "tapeInRole", "(I)LReelOffice$Tape;"⟩
abbrev b_O_tapeInRole : ByteArray := prog_1_method_25_code
abbrev y_O_layRun : MethodName := ⟨"ReelOffice", "layRun", "()Z"⟩
abbrev b_O_layRun : ByteArray := prog_1_method_26_code
abbrev y_O_writeRunFromTrial : MethodName := ⟨"ReelOffice", "writeRunFromTrial", "()Z"⟩
abbrev b_O_writeRunFromTrial : ByteArray := prog_1_method_27_code
abbrev y_O_mergeRuns : MethodName := ⟨"ReelOffice", "mergeRuns", "()Z"⟩
abbrev b_O_mergeRuns : ByteArray := prog_1_method_28_code
abbrev y_O_everySourceHasDummy : MethodName := ⟨"ReelOffice", "everySourceHasDummy", "()Z"⟩
abbrev b_O_everySourceHasDummy : ByteArray := prog_1_method_29_code
abbrev y_O_sourcesCanBeRead : MethodName := ⟨"ReelOffice", "sourcesCanBeRead", "()Z"⟩
abbrev b_O_sourcesCanBeRead : ByteArray := prog_1_method_30_code
abbrev y_O_writeMergedRun : MethodName := ⟨"ReelOffice", "writeMergedRun", "()Z"⟩
abbrev b_O_writeMergedRun : ByteArray := prog_1_method_31_code
abbrev y_O_sourceOfFirstCard : MethodName := ⟨"ReelOffice", "sourceOfFirstCard", "()I"⟩
abbrev b_O_sourceOfFirstCard : ByteArray := prog_1_method_32_code
abbrev y_O_nextCardOf : MethodName := ⟨"ReelOffice", "nextCardOf", "(I)I"⟩
abbrev b_O_nextCardOf : ByteArray := prog_1_method_33_code
abbrev y_O_takeFromSources : MethodName := ⟨"ReelOffice", "takeFromSources", "()V"⟩
abbrev b_O_takeFromSources : ByteArray := prog_1_method_34_code
abbrev y_O_endLevel : MethodName := ⟨"ReelOffice", "endLevel", "()V"⟩
abbrev b_O_endLevel : ByteArray := prog_1_method_35_code
abbrev y_M_init : MethodName := ⟨"ReelOfficeModel", "<init>", "(I)V"⟩
abbrev b_M_init : ByteArray := prog_9_method_1_code
abbrev y_M_thrown : MethodName := ⟨"ReelOfficeModel", "thrown", "()I"⟩
abbrev b_M_thrown : ByteArray := prog_9_method_2_code
abbrev y_M_card : MethodName := ⟨"ReelOfficeModel", "card", "(II)I"⟩
abbrev b_M_card : ByteArray := prog_9_method_3_code
abbrev y_M_part : MethodName := ⟨"ReelOfficeModel", "part", "(II)I"⟩
abbrev b_M_part : ByteArray := prog_9_method_4_code
abbrev y_M_standing : MethodName := ⟨"ReelOfficeModel", "standing", "(II)J"⟩
abbrev b_M_standing : ByteArray := prog_9_method_5_code
abbrev y_M_comesFirst : MethodName := ⟨"ReelOfficeModel", "comesFirst", "(II)Z"⟩
abbrev b_M_comesFirst : ByteArray := prog_9_method_6_code
abbrev y_M_isCard : MethodName := ⟨"ReelOfficeModel", "isCard", "(I)Z"⟩
abbrev b_M_isCard : ByteArray := prog_9_method_7_code
abbrev y_M_compare : MethodName := ⟨"ReelOfficeModel", "compare", "(II)I"⟩
abbrev b_M_compare : ByteArray := prog_9_method_8_code
abbrev y_M_field : MethodName := ⟨"ReelOfficeModel", "field", "(II)I"⟩
abbrev b_M_field : ByteArray := prog_9_method_9_code
abbrev y_M_reset : MethodName := ⟨"ReelOfficeModel", "reset", "()V"⟩
abbrev b_M_reset : ByteArray := prog_9_method_10_code
abbrev y_M_start : MethodName := ⟨"ReelOfficeModel", "start", "()V"⟩
abbrev b_M_start : ByteArray := prog_9_method_11_code
abbrev y_M_clear : MethodName := ⟨"ReelOfficeModel", "clear", "()I"⟩
abbrev b_M_clear : ByteArray := prog_9_method_12_code
abbrev y_M_write : MethodName := ⟨"ReelOfficeModel", "write", "(I)Z"⟩
abbrev b_M_write : ByteArray := prog_9_method_13_code
abbrev y_M_first : MethodName := ⟨"ReelOfficeModel", "first", "()I"⟩
abbrev b_M_first : ByteArray := prog_9_method_14_code
abbrev y_M_putAside : MethodName := ⟨"ReelOfficeModel", "putAside", "()V"⟩
abbrev b_M_putAside : ByteArray := prog_9_method_15_code
abbrev y_M_takeBack : MethodName := ⟨"ReelOfficeModel", "takeBack", "()V"⟩
abbrev b_M_takeBack : ByteArray := prog_9_method_16_code
abbrev y_M_makeRun : MethodName := ⟨"ReelOfficeModel", "makeRun", "()Z"⟩
abbrev b_M_makeRun : ByteArray := prog_9_method_17_code
abbrev y_M_findPlace : MethodName := ⟨"ReelOfficeModel", "findPlace", "()V"⟩
abbrev b_M_findPlace : ByteArray := prog_9_method_18_code
abbrev y_M_cardsOn : MethodName := ⟨"ReelOfficeModel", "cardsOn", "(I)I"⟩
abbrev b_M_cardsOn : ByteArray := prog_9_method_19_code
abbrev y_M_append : MethodName := ⟨"ReelOfficeModel", "append", "(I)V"⟩
abbrev b_M_append : ByteArray := prog_9_method_20_code
abbrev y_M_takeOff : MethodName := ⟨"ReelOfficeModel", "takeOff", "(I)V"⟩
abbrev b_M_takeOff : ByteArray := prog_9_method_21_code
abbrev y_M_lay : MethodName := ⟨"ReelOfficeModel", "lay", "()Z"⟩
abbrev b_M_lay : ByteArray := prog_9_method_22_code
abbrev y_M_isReadable : MethodName := ⟨"ReelOfficeModel", "isReadable", "()Z"⟩
abbrev b_M_isReadable : ByteArray := prog_9_method_23_code
abbrev y_M_mergeRuns : MethodName := ⟨"ReelOfficeModel", "mergeRuns", "()Z"⟩
abbrev b_M_mergeRuns : ByteArray := prog_9_method_24_code
abbrev y_M_turn : MethodName := ⟨"ReelOfficeModel", "turn", "()V"⟩
abbrev b_M_turn : ByteArray := prog_9_method_25_code
abbrev y_M_merge : MethodName := ⟨"ReelOfficeModel", "merge", "()Z"⟩
abbrev b_M_merge : ByteArray := prog_9_method_26_code
abbrev y_M_step : MethodName := ⟨"ReelOfficeModel", "step", "(I)I"⟩
abbrev b_M_step : ByteArray := prog_9_method_27_code
abbrev y_M_isTape : MethodName := ⟨"ReelOfficeModel", "isTape", "(I)Z"⟩
abbrev b_M_isTape : ByteArray := prog_9_method_28_code
abbrev y_M_fault : MethodName := ⟨"ReelOfficeModel", "fault", "(II)I"⟩
abbrev b_M_fault : ByteArray := prog_9_method_29_code
abbrev y_M_cutAfter : MethodName := ⟨"ReelOfficeModel", "cutAfter", "(I)Z"⟩
abbrev b_M_cutAfter : ByteArray := prog_9_method_30_code
abbrev y_M_resume : MethodName := ⟨"ReelOfficeModel", "resume", "()Z"⟩
abbrev b_M_resume : ByteArray := prog_9_method_31_code
abbrev y_M_phase : MethodName := ⟨"ReelOfficeModel", "phase", "()I"⟩
abbrev b_M_phase : ByteArray := prog_9_method_32_code
abbrev y_M_level : MethodName := ⟨"ReelOfficeModel", "level", "()I"⟩
abbrev b_M_level : ByteArray := prog_9_method_33_code
abbrev y_M_runs : MethodName := ⟨"ReelOfficeModel", "runs", "(I)I"⟩
abbrev b_M_runs : ByteArray := prog_9_method_34_code
abbrev y_M_dummies : MethodName := ⟨"ReelOfficeModel", "dummies", "(I)I"⟩
abbrev b_M_dummies : ByteArray := prog_9_method_35_code
abbrev y_M_role : MethodName := ⟨"ReelOfficeModel", "role", "(I)I"⟩
abbrev b_M_role : ByteArray := prog_9_method_36_code
abbrev y_M_length : MethodName := ⟨"ReelOfficeModel", "length", "(II)I"⟩
abbrev b_M_length : ByteArray := prog_9_method_37_code
abbrev y_M_at : MethodName := ⟨"ReelOfficeModel", "at", "(III)I"⟩
abbrev b_M_at : ByteArray := prog_9_method_38_code
abbrev y_M_memory : MethodName := ⟨"ReelOfficeModel", "memory", "(I)Z"⟩
abbrev b_M_memory : ByteArray := prog_9_method_39_code
abbrev y_M_written : MethodName := ⟨"ReelOfficeModel", "written", "()I"⟩
abbrev b_M_written : ByteArray := prog_9_method_40_code
abbrev y_M_broken : MethodName := ⟨"ReelOfficeModel", "broken", "()I"⟩
abbrev b_M_broken : ByteArray := prog_9_method_41_code
abbrev y_M_sorted : MethodName := ⟨"ReelOfficeModel", "sorted", "(I)I"⟩
abbrev b_M_sorted : ByteArray := prog_9_method_42_code
abbrev y_D_init : MethodName := ⟨"ReelOffice$Deck", "<init>", "()V"⟩
abbrev b_D_init : ByteArray := prog_2_method_1_code
abbrev y_D_forgetAll : MethodName := ⟨"ReelOffice$Deck", "forgetAll", "()V"⟩
abbrev b_D_forgetAll : ByteArray := prog_2_method_2_code
abbrev y_D_cardCount : MethodName := ⟨"ReelOffice$Deck", "cardCount", "()I"⟩
abbrev b_D_cardCount : ByteArray := prog_2_method_3_code
abbrev y_D_isFull : MethodName := ⟨"ReelOffice$Deck", "isFull", "()Z"⟩
abbrev b_D_isFull : ByteArray := prog_2_method_4_code
abbrev y_D_keyIsFull : MethodName := ⟨"ReelOffice$Deck", "keyIsFull", "()Z"⟩
abbrev b_D_keyIsFull : ByteArray := prog_2_method_5_code
abbrev y_D_hasCard : MethodName := ⟨"ReelOffice$Deck", "hasCard", "(I)Z"⟩
abbrev b_D_hasCard : ByteArray := prog_2_method_6_code
abbrev y_D_addCard : MethodName := ⟨"ReelOffice$Deck", "addCard", "(II)I"⟩
abbrev b_D_addCard : ByteArray := prog_2_method_7_code
abbrev y_D_addPart : MethodName := ⟨"ReelOffice$Deck", "addPart", "(II)I"⟩
abbrev b_D_addPart : ByteArray := prog_2_method_8_code
abbrev y_D_value : MethodName := ⟨"ReelOffice$Deck", "value", "(II)I"⟩
abbrev b_D_value : ByteArray := prog_2_method_9_code
abbrev y_D_comesBefore : MethodName := ⟨"ReelOffice$Deck", "comesBefore", "(II)Z"⟩
abbrev b_D_comesBefore : ByteArray := prog_2_method_10_code
abbrev y_D_rank : MethodName := ⟨"ReelOffice$Deck", "rank", "(II)J"⟩
abbrev b_D_rank : ByteArray := prog_2_method_11_code
abbrev y_P_init : MethodName := ⟨"ReelOffice$Plan", "<init>", "()V"⟩
abbrev b_P_init : ByteArray := prog_3_method_1_code
abbrev y_P_begin : MethodName := ⟨"ReelOffice$Plan", "begin", "([LReelOffice$Tape;)V"⟩
abbrev b_P_begin : ByteArray := prog_3_method_2_code
abbrev y_P_height : MethodName := ⟨"ReelOffice$Plan", "height", "()I"⟩
abbrev b_P_height : ByteArray := prog_3_method_3_code
abbrev y_P_goDown : MethodName := ⟨"ReelOffice$Plan", "goDown", "()V"⟩
abbrev b_P_goDown : ByteArray := prog_3_method_4_code
abbrev y_P_placeOfNextRun : MethodName := ⟨"ReelOffice$Plan", "placeOfNextRun", "([LReelOffice$Tape;)I"⟩
abbrev b_P_placeOfNextRun : ByteArray := prog_3_method_5_code
abbrev y_P_goUp : MethodName := ⟨"ReelOffice$Plan", "goUp", "([LReelOffice$Tape;)V"⟩
abbrev b_P_goUp : ByteArray := prog_3_method_6_code
abbrev y_P_growTo : MethodName := ⟨"ReelOffice$Plan", "growTo", "(II[LReelOffice$Tape;)V"⟩
abbrev b_P_growTo : ByteArray := prog_3_method_7_code
abbrev y_R_init : MethodName := ⟨"ReelOffice$Row", "<init>", "()V"⟩
abbrev b_R_init : ByteArray := prog_4_method_1_code
abbrev y_R_forgetAll : MethodName := ⟨"ReelOffice$Row", "forgetAll", "()V"⟩
abbrev b_R_forgetAll : ByteArray := prog_4_method_2_code
abbrev y_R_add : MethodName := ⟨"ReelOffice$Row", "add", "(I)V"⟩
abbrev b_R_add : ByteArray := prog_4_method_3_code
abbrev y_S_init : MethodName := ⟨"ReelOffice$Store", "<init>", "(I)V"⟩
abbrev b_S_init : ByteArray := prog_5_method_1_code
abbrev y_S_forgetAll : MethodName := ⟨"ReelOffice$Store", "forgetAll", "()V"⟩
abbrev b_S_forgetAll : ByteArray := prog_5_method_2_code
abbrev y_S_isEmpty : MethodName := ⟨"ReelOffice$Store", "isEmpty", "()Z"⟩
abbrev b_S_isEmpty : ByteArray := prog_5_method_3_code
abbrev y_S_fillFrom : MethodName := ⟨"ReelOffice$Store", "fillFrom", "(LReelOffice$Deck;)V"⟩
abbrev b_S_fillFrom : ByteArray := prog_5_method_4_code
abbrev y_S_copyFrom : MethodName := ⟨"ReelOffice$Store", "copyFrom", "(LReelOffice$Store;)V"⟩
abbrev b_S_copyFrom : ByteArray := prog_5_method_5_code
abbrev y_S_holds : MethodName := ⟨"ReelOffice$Store", "holds", "(I)Z"⟩
abbrev b_S_holds : ByteArray := prog_5_method_6_code
abbrev y_S_cardIn : MethodName := ⟨"ReelOffice$Store", "cardIn", "(I)I"⟩
abbrev b_S_cardIn : ByteArray := prog_5_method_7_code
abbrev y_S_slotOfFirst : MethodName := ⟨"ReelOffice$Store", "slotOfFirst", "(LReelOffice$Deck;)I"⟩
abbrev b_S_slotOfFirst : ByteArray := prog_5_method_8_code
abbrev y_S_replaceCard : MethodName := ⟨"ReelOffice$Store", "replaceCard", "(ILReelOffice$Deck;)V"⟩
abbrev b_S_replaceCard : ByteArray := prog_5_method_9_code
abbrev y_S_turnToNextRun : MethodName := ⟨"ReelOffice$Store", "turnToNextRun", "()V"⟩
abbrev b_S_turnToNextRun : ByteArray := prog_5_method_10_code
abbrev y_T_init : MethodName := ⟨"ReelOffice$Tape", "<init>", "()V"⟩
abbrev b_T_init : ByteArray := prog_6_method_1_code
abbrev y_T_forgetAll : MethodName := ⟨"ReelOffice$Tape", "forgetAll", "()V"⟩
abbrev b_T_forgetAll : ByteArray := prog_6_method_2_code
abbrev y_T_runCount : MethodName := ⟨"ReelOffice$Tape", "runCount", "()I"⟩
abbrev b_T_runCount : ByteArray := prog_6_method_3_code
abbrev y_T_dummyCount : MethodName := ⟨"ReelOffice$Tape", "dummyCount", "()I"⟩
abbrev b_T_dummyCount : ByteArray := prog_6_method_4_code
abbrev y_T_hasDummy : MethodName := ⟨"ReelOffice$Tape", "hasDummy", "()Z"⟩
abbrev b_T_hasDummy : ByteArray := prog_6_method_5_code
abbrev y_T_isBare : MethodName := ⟨"ReelOffice$Tape", "isBare", "()Z"⟩
abbrev b_T_isBare : ByteArray := prog_6_method_6_code
abbrev y_T_addDummies : MethodName := ⟨"ReelOffice$Tape", "addDummies", "(I)V"⟩
abbrev b_T_addDummies : ByteArray := prog_6_method_7_code
abbrev y_T_replaceFaults : MethodName := ⟨"ReelOffice$Tape", "replaceFaults", "(I)I"⟩
abbrev b_T_replaceFaults : ByteArray := prog_6_method_8_code
abbrev y_T_useFault : MethodName := ⟨"ReelOffice$Tape", "useFault", "()Z"⟩
abbrev b_T_useFault : ByteArray := prog_6_method_9_code
abbrev y_T_runLength : MethodName := ⟨"ReelOffice$Tape", "runLength", "(I)I"⟩
abbrev b_T_runLength : ByteArray := prog_6_method_10_code
abbrev y_T_cardOfRun : MethodName := ⟨"ReelOffice$Tape", "cardOfRun", "(II)I"⟩
abbrev b_T_cardOfRun : ByteArray := prog_6_method_11_code
abbrev y_T_append : MethodName := ⟨"ReelOffice$Tape", "append", "(LReelOffice$Row;)V"⟩
abbrev b_T_append : ByteArray := prog_6_method_12_code
abbrev y_T_takeFirstRun : MethodName := ⟨"ReelOffice$Tape", "takeFirstRun", "()V"⟩
abbrev b_T_takeFirstRun : ByteArray := prog_6_method_13_code
abbrev y_V_init : MethodName := ⟨"ReelOffice$Writer", "<init>", "()V"⟩
abbrev b_V_init : ByteArray := prog_7_method_1_code
abbrev y_V_forgetAll : MethodName := ⟨"ReelOffice$Writer", "forgetAll", "()V"⟩
abbrev b_V_forgetAll : ByteArray := prog_7_method_2_code
abbrev y_V_total : MethodName := ⟨"ReelOffice$Writer", "total", "()I"⟩
abbrev b_V_total : ByteArray := prog_7_method_3_code
abbrev y_V_hasPower : MethodName := ⟨"ReelOffice$Writer", "hasPower", "()Z"⟩
abbrev b_V_hasPower : ByteArray := prog_7_method_4_code
abbrev y_V_switchOn : MethodName := ⟨"ReelOffice$Writer", "switchOn", "()V"⟩
abbrev b_V_switchOn : ByteArray := prog_7_method_5_code
abbrev y_V_planCut : MethodName := ⟨"ReelOffice$Writer", "planCut", "(I)V"⟩
abbrev b_V_planCut : ByteArray := prog_7_method_6_code
abbrev y_V_writeCard : MethodName := ⟨"ReelOffice$Writer", "writeCard", "()Z"⟩
abbrev b_V_writeCard : ByteArray := prog_7_method_7_code
end
section
theorem k_1 : (Jvm.Cond.initialized "ReelOffice") ∈ tb := mem_tb (List.mem_of_getElem? (i := 1) (by decide +kernel)) (by decide +kernel)
theorem k_2 : (Jvm.Cond.initialized "ReelOffice$Deck") ∈ tb := mem_tb (List.mem_of_getElem? (i := 2) (by decide +kernel)) (by decide +kernel)
theorem k_3 : (Jvm.Cond.initialized "ReelOffice$Plan") ∈ tb := mem_tb (List.mem_of_getElem? (i := 3) (by decide +kernel)) (by decide +kernel)
theorem k_4 : (Jvm.Cond.initialized "ReelOffice$Writer") ∈ tb := mem_tb (List.mem_of_getElem? (i := 4) (by decide +kernel)) (by decide +kernel)
theorem k_5 : (Jvm.Cond.initialized "ReelOffice$Row") ∈ tb := mem_tb (List.mem_of_getElem? (i := 5) (by decide +kernel)) (by decide +kernel)
theorem k_6 : (Jvm.Cond.initialized "ReelOffice$Store") ∈ tb := mem_tb (List.mem_of_getElem? (i := 6) (by decide +kernel)) (by decide +kernel)
theorem k_7 : (Jvm.Cond.initialized "ReelOffice$Tape") ∈ tb := mem_tb (List.mem_of_getElem? (i := 7) (by decide +kernel)) (by decide +kernel)
theorem k_8 : (Jvm.Cond.initialized "ReelOfficeModel") ∈ tb := mem_tb (List.mem_of_getElem? (i := 8) (by decide +kernel)) (by decide +kernel)
theorem k_14 : (Jvm.Cond.initialized "java/lang/Math") ∈ tb := mem_tb (List.mem_of_getElem? (i := 14) (by decide +kernel)) (by decide +kernel)
theorem k_15 : (Jvm.Cond.initialized "java/lang/System") ∈ tb := mem_tb (List.mem_of_getElem? (i := 15) (by decide +kernel)) (by decide +kernel)
theorem k_32 : (Jvm.Cond.fieldLink "ReelOffice$Deck" (11 : Nat) "ReelOffice$Deck" "values" "[[I") ∈ tb := mem_tb (List.mem_of_getElem? (i := 32) (by decide +kernel)) (by decide +kernel)
theorem k_33 : (Jvm.Cond.fieldLink "ReelOffice$Deck" (16 : Nat) "ReelOffice$Deck" "partFields" "[I") ∈ tb := mem_tb (List.mem_of_getElem? (i := 33) (by decide +kernel)) (by decide +kernel)
theorem k_34 : (Jvm.Cond.fieldLink "ReelOffice$Deck" (20 : Nat) "ReelOffice$Deck" "partWays" "[I") ∈ tb := mem_tb (List.mem_of_getElem? (i := 34) (by decide +kernel)) (by decide +kernel)
theorem k_35 : (Jvm.Cond.fieldLink "ReelOffice$Deck" (23 : Nat) "ReelOffice$Deck" "cards" "I") ∈ tb := mem_tb (List.mem_of_getElem? (i := 35) (by decide +kernel)) (by decide +kernel)
theorem k_36 : (Jvm.Cond.fieldLink "ReelOffice$Deck" (27 : Nat) "ReelOffice$Deck" "parts" "I") ∈ tb := mem_tb (List.mem_of_getElem? (i := 36) (by decide +kernel)) (by decide +kernel)
theorem k_55 : (Jvm.Cond.fieldLink "ReelOffice$Plan" (9 : Nat) "ReelOffice$Plan" "numbers" "[I") ∈ tb := mem_tb (List.mem_of_getElem? (i := 55) (by decide +kernel)) (by decide +kernel)
theorem k_56 : (Jvm.Cond.fieldLink "ReelOffice$Plan" (15 : Nat) "ReelOffice$Plan" "steps" "I") ∈ tb := mem_tb (List.mem_of_getElem? (i := 56) (by decide +kernel)) (by decide +kernel)
theorem k_57 : (Jvm.Cond.fieldLink "ReelOffice$Plan" (19 : Nat) "ReelOffice$Plan" "place" "I") ∈ tb := mem_tb (List.mem_of_getElem? (i := 57) (by decide +kernel)) (by decide +kernel)
theorem k_71 : (Jvm.Cond.fieldLink "ReelOffice$Writer" (7 : Nat) "ReelOffice$Writer" "cardsWritten" "I") ∈ tb := mem_tb (List.mem_of_getElem? (i := 71) (by decide +kernel)) (by decide +kernel)
theorem k_72 : (Jvm.Cond.fieldLink "ReelOffice$Writer" (13 : Nat) "ReelOffice$Writer" "power" "Z") ∈ tb := mem_tb (List.mem_of_getElem? (i := 72) (by decide +kernel)) (by decide +kernel)
theorem k_73 : (Jvm.Cond.fieldLink "ReelOffice$Writer" (17 : Nat) "ReelOffice$Writer" "cutPlanned" "Z") ∈ tb := mem_tb (List.mem_of_getElem? (i := 73) (by decide +kernel)) (by decide +kernel)
theorem k_74 : (Jvm.Cond.fieldLink "ReelOffice$Writer" (20 : Nat) "ReelOffice$Writer" "cardsToCut" "I") ∈ tb := mem_tb (List.mem_of_getElem? (i := 74) (by decide +kernel)) (by decide +kernel)
theorem k_90 : (Jvm.Cond.fieldLink "ReelOffice$Row" (9 : Nat) "ReelOffice$Row" "cards" "[I") ∈ tb := mem_tb (List.mem_of_getElem? (i := 90) (by decide +kernel)) (by decide +kernel)
theorem k_92 : (Jvm.Cond.fieldLink "ReelOffice$Row" (15 : Nat) "ReelOffice$Row" "size" "I") ∈ tb := mem_tb (List.mem_of_getElem? (i := 92) (by decide +kernel)) (by decide +kernel)
theorem k_107 : (Jvm.Cond.fieldLink "ReelOffice$Store" (26 : Nat) "ReelOffice$Store" "room" "I") ∈ tb := mem_tb (List.mem_of_getElem? (i := 107) (by decide +kernel)) (by decide +kernel)
theorem k_108 : (Jvm.Cond.fieldLink "ReelOffice$Store" (9 : Nat) "ReelOffice$Store" "held" "[I") ∈ tb := mem_tb (List.mem_of_getElem? (i := 108) (by decide +kernel)) (by decide +kernel)
theorem k_109 : (Jvm.Cond.fieldLink "ReelOffice$Store" (15 : Nat) "ReelOffice$Store" "waits" "[Z") ∈ tb := mem_tb (List.mem_of_getElem? (i := 109) (by decide +kernel)) (by decide +kernel)
theorem k_110 : (Jvm.Cond.fieldLink "ReelOffice$Store" (19 : Nat) "ReelOffice$Store" "size" "I") ∈ tb := mem_tb (List.mem_of_getElem? (i := 110) (by decide +kernel)) (by decide +kernel)
theorem k_111 : (Jvm.Cond.fieldLink "ReelOffice$Store" (23 : Nat) "ReelOffice$Store" "upcoming" "I") ∈ tb := mem_tb (List.mem_of_getElem? (i := 111) (by decide +kernel)) (by decide +kernel)
theorem k_129 : (Jvm.Cond.fieldLink "ReelOffice$Tape" (9 : Nat) "ReelOffice$Tape" "cards" "[I") ∈ tb := mem_tb (List.mem_of_getElem? (i := 129) (by decide +kernel)) (by decide +kernel)
theorem k_130 : (Jvm.Cond.fieldLink "ReelOffice$Tape" (15 : Nat) "ReelOffice$Tape" "lengths" "[I") ∈ tb := mem_tb (List.mem_of_getElem? (i := 130) (by decide +kernel)) (by decide +kernel)
theorem k_131 : (Jvm.Cond.fieldLink "ReelOffice$Tape" (18 : Nat) "ReelOffice$Tape" "cardsUsed" "I") ∈ tb := mem_tb (List.mem_of_getElem? (i := 131) (by decide +kernel)) (by decide +kernel)
theorem k_132 : (Jvm.Cond.fieldLink "ReelOffice$Tape" (22 : Nat) "ReelOffice$Tape" "runsUsed" "I") ∈ tb := mem_tb (List.mem_of_getElem? (i := 132) (by decide +kernel)) (by decide +kernel)
theorem k_133 : (Jvm.Cond.fieldLink "ReelOffice$Tape" (25 : Nat) "ReelOffice$Tape" "blanks" "I") ∈ tb := mem_tb (List.mem_of_getElem? (i := 133) (by decide +kernel)) (by decide +kernel)
theorem k_134 : (Jvm.Cond.fieldLink "ReelOffice$Tape" (28 : Nat) "ReelOffice$Tape" "faults" "I") ∈ tb := mem_tb (List.mem_of_getElem? (i := 134) (by decide +kernel)) (by decide +kernel)
theorem k_148 : (Jvm.Cond.fieldLink "ReelOffice" (10 : Nat) "ReelOffice" "deck" "LReelOffice$Deck;") ∈ tb := mem_tb (List.mem_of_getElem? (i := 148) (by decide +kernel)) (by decide +kernel)
theorem k_149 : (Jvm.Cond.fieldLink "ReelOffice" (65 : Nat) "ReelOffice" "store" "LReelOffice$Store;") ∈ tb := mem_tb (List.mem_of_getElem? (i := 149) (by decide +kernel)) (by decide +kernel)
theorem k_150 : (Jvm.Cond.fieldLink "ReelOffice" (69 : Nat) "ReelOffice" "trial" "LReelOffice$Store;") ∈ tb := mem_tb (List.mem_of_getElem? (i := 150) (by decide +kernel)) (by decide +kernel)
theorem k_151 : (Jvm.Cond.fieldLink "ReelOffice" (19 : Nat) "ReelOffice" "plan" "LReelOffice$Plan;") ∈ tb := mem_tb (List.mem_of_getElem? (i := 151) (by decide +kernel)) (by decide +kernel)
theorem k_152 : (Jvm.Cond.fieldLink "ReelOffice" (26 : Nat) "ReelOffice" "writer" "LReelOffice$Writer;") ∈ tb := mem_tb (List.mem_of_getElem? (i := 152) (by decide +kernel)) (by decide +kernel)
theorem k_153 : (Jvm.Cond.fieldLink "ReelOffice" (33 : Nat) "ReelOffice" "row" "LReelOffice$Row;") ∈ tb := mem_tb (List.mem_of_getElem? (i := 153) (by decide +kernel)) (by decide +kernel)
theorem k_154 : (Jvm.Cond.fieldLink "ReelOffice" (39 : Nat) "ReelOffice" "tapes" "[LReelOffice$Tape;") ∈ tb := mem_tb (List.mem_of_getElem? (i := 154) (by decide +kernel)) (by decide +kernel)
theorem k_155 : (Jvm.Cond.fieldLink "ReelOffice" (43 : Nat) "ReelOffice" "tapeOfRole" "[I") ∈ tb := mem_tb (List.mem_of_getElem? (i := 155) (by decide +kernel)) (by decide +kernel)
theorem k_156 : (Jvm.Cond.fieldLink "ReelOffice" (47 : Nat) "ReelOffice" "cardsRead" "[I") ∈ tb := mem_tb (List.mem_of_getElem? (i := 156) (by decide +kernel)) (by decide +kernel)
theorem k_157 : (Jvm.Cond.fieldLink "ReelOffice" (50 : Nat) "ReelOffice" "cardsToRead" "[I") ∈ tb := mem_tb (List.mem_of_getElem? (i := 157) (by decide +kernel)) (by decide +kernel)
theorem k_158 : (Jvm.Cond.fieldLink "ReelOffice" (53 : Nat) "ReelOffice" "stage" "I") ∈ tb := mem_tb (List.mem_of_getElem? (i := 158) (by decide +kernel)) (by decide +kernel)
theorem k_159 : (Jvm.Cond.fieldLink "ReelOffice" (57 : Nat) "ReelOffice" "brokenSteps" "I") ∈ tb := mem_tb (List.mem_of_getElem? (i := 159) (by decide +kernel)) (by decide +kernel)
theorem k_189 : (Jvm.Cond.methodLink "ReelOffice" (108 : Nat) ({ cls := "ReelOffice$Deck", name := "cardCount", desc := "()I" } : Jvm.MethodName)) ∈ tb := mem_tb (List.mem_of_getElem? (i := 189) (by decide +kernel)) (by decide +kernel)
theorem k_190 : (Jvm.Cond.instanceMethod ({ cls := "ReelOffice$Deck", name := "cardCount", desc := "()I" } : Jvm.MethodName)) ∈ tb := mem_tb (List.mem_of_getElem? (i := 190) (by decide +kernel)) (by decide +kernel)
theorem k_191 : (Jvm.Cond.selects "ReelOffice$Deck" ({ cls := "ReelOffice$Deck", name := "cardCount", desc := "()I" } : Jvm.MethodName) ({ cls := "ReelOffice$Deck", name := "cardCount", desc := "()I" } : Jvm.MethodName)) ∈ tb := mem_tb (List.mem_of_getElem? (i := 191) (by decide +kernel)) (by decide +kernel)
theorem k_192 : (Jvm.Cond.code ({ cls := "ReelOffice$Deck", name := "cardCount", desc := "()I" } : Jvm.MethodName) prog_2_method_3_code (1 : Nat) (Option.some Jvm.ClassFile.FieldType.int)) ∈ tb := mem_tb (List.mem_of_getElem? (i := 192) (by decide +kernel)) (by decide +kernel)
theorem k_193 : (Jvm.Cond.methodLink "ReelOffice" (112 : Nat) ({ cls := "ReelOffice$Deck", name := "forgetAll", desc := "()V" } : Jvm.MethodName)) ∈ tb := mem_tb (List.mem_of_getElem? (i := 193) (by decide +kernel)) (by decide +kernel)
theorem k_194 : (Jvm.Cond.instanceMethod ({ cls := "ReelOffice$Deck", name := "forgetAll", desc := "()V" } : Jvm.MethodName)) ∈ tb := mem_tb (List.mem_of_getElem? (i := 194) (by decide +kernel)) (by decide +kernel)
theorem k_195 : (Jvm.Cond.selects "ReelOffice$Deck" ({ cls := "ReelOffice$Deck", name := "forgetAll", desc := "()V" } : Jvm.MethodName) ({ cls := "ReelOffice$Deck", name := "forgetAll", desc := "()V" } : Jvm.MethodName)) ∈ tb := mem_tb (List.mem_of_getElem? (i := 195) (by decide +kernel)) (by decide +kernel)
theorem k_196 : (Jvm.Cond.code ({ cls := "ReelOffice$Deck", name := "forgetAll", desc := "()V" } : Jvm.MethodName) prog_2_method_2_code (1 : Nat) (Option.none : Option Jvm.ClassFile.FieldType)) ∈ tb := mem_tb (List.mem_of_getElem? (i := 196) (by decide +kernel)) (by decide +kernel)
theorem k_197 : (Jvm.Cond.methodLink "ReelOffice" (115 : Nat) ({ cls := "ReelOffice$Store", name := "forgetAll", desc := "()V" } : Jvm.MethodName)) ∈ tb := mem_tb (List.mem_of_getElem? (i := 197) (by decide +kernel)) (by decide +kernel)
theorem k_198 : (Jvm.Cond.instanceMethod ({ cls := "ReelOffice$Store", name := "forgetAll", desc := "()V" } : Jvm.MethodName)) ∈ tb := mem_tb (List.mem_of_getElem? (i := 198) (by decide +kernel)) (by decide +kernel)
theorem k_199 : (Jvm.Cond.selects "ReelOffice$Store" ({ cls := "ReelOffice$Store", name := "forgetAll", desc := "()V" } : Jvm.MethodName) ({ cls := "ReelOffice$Store", name := "forgetAll", desc := "()V" } : Jvm.MethodName)) ∈ tb := mem_tb (List.mem_of_getElem? (i := 199) (by decide +kernel)) (by decide +kernel)
theorem k_200 : (Jvm.Cond.code ({ cls := "ReelOffice$Store", name := "forgetAll", desc := "()V" } : Jvm.MethodName) prog_5_method_2_code (1 : Nat) (Option.none : Option Jvm.ClassFile.FieldType)) ∈ tb := mem_tb (List.mem_of_getElem? (i := 200) (by decide +kernel)) (by decide +kernel)
theorem k_201 : (Jvm.Cond.methodLink "ReelOffice" (116 : Nat) ({ cls := "ReelOffice$Tape", name := "forgetAll", desc := "()V" } : Jvm.MethodName)) ∈ tb := mem_tb (List.mem_of_getElem? (i := 201) (by decide +kernel)) (by decide +kernel)
theorem k_202 : (Jvm.Cond.instanceMethod ({ cls := "ReelOffice$Tape", name := "forgetAll", desc := "()V" } : Jvm.MethodName)) ∈ tb := mem_tb (List.mem_of_getElem? (i := 202) (by decide +kernel)) (by decide +kernel)
theorem k_203 : (Jvm.Cond.selects "ReelOffice$Tape" ({ cls := "ReelOffice$Tape", name := "forgetAll", desc := "()V" } : Jvm.MethodName) ({ cls := "ReelOffice$Tape", name := "forgetAll", desc := "()V" } : Jvm.MethodName)) ∈ tb := mem_tb (List.mem_of_getElem? (i := 203) (by decide +kernel)) (by decide +kernel)
theorem k_204 : (Jvm.Cond.code ({ cls := "ReelOffice$Tape", name := "forgetAll", desc := "()V" } : Jvm.MethodName) prog_6_method_2_code (1 : Nat) (Option.none : Option Jvm.ClassFile.FieldType)) ∈ tb := mem_tb (List.mem_of_getElem? (i := 204) (by decide +kernel)) (by decide +kernel)
theorem k_205 : (Jvm.Cond.methodLink "ReelOffice" (117 : Nat) ({ cls := "ReelOffice$Writer", name := "forgetAll", desc := "()V" } : Jvm.MethodName)) ∈ tb := mem_tb (List.mem_of_getElem? (i := 205) (by decide +kernel)) (by decide +kernel)
theorem k_206 : (Jvm.Cond.instanceMethod ({ cls := "ReelOffice$Writer", name := "forgetAll", desc := "()V" } : Jvm.MethodName)) ∈ tb := mem_tb (List.mem_of_getElem? (i := 206) (by decide +kernel)) (by decide +kernel)
theorem k_207 : (Jvm.Cond.selects "ReelOffice$Writer" ({ cls := "ReelOffice$Writer", name := "forgetAll", desc := "()V" } : Jvm.MethodName) ({ cls := "ReelOffice$Writer", name := "forgetAll", desc := "()V" } : Jvm.MethodName)) ∈ tb := mem_tb (List.mem_of_getElem? (i := 207) (by decide +kernel)) (by decide +kernel)
theorem k_208 : (Jvm.Cond.code ({ cls := "ReelOffice$Writer", name := "forgetAll", desc := "()V" } : Jvm.MethodName) prog_7_method_2_code (1 : Nat) (Option.none : Option Jvm.ClassFile.FieldType)) ∈ tb := mem_tb (List.mem_of_getElem? (i := 208) (by decide +kernel)) (by decide +kernel)
theorem k_213 : (Jvm.Cond.methodLink "ReelOffice" (118 : Nat) ({ cls := "ReelOffice$Writer", name := "hasPower", desc := "()Z" } : Jvm.MethodName)) ∈ tb := mem_tb (List.mem_of_getElem? (i := 213) (by decide +kernel)) (by decide +kernel)
theorem k_214 : (Jvm.Cond.instanceMethod ({ cls := "ReelOffice$Writer", name := "hasPower", desc := "()Z" } : Jvm.MethodName)) ∈ tb := mem_tb (List.mem_of_getElem? (i := 214) (by decide +kernel)) (by decide +kernel)
theorem k_215 : (Jvm.Cond.selects "ReelOffice$Writer" ({ cls := "ReelOffice$Writer", name := "hasPower", desc := "()Z" } : Jvm.MethodName) ({ cls := "ReelOffice$Writer", name := "hasPower", desc := "()Z" } : Jvm.MethodName)) ∈ tb := mem_tb (List.mem_of_getElem? (i := 215) (by decide +kernel)) (by decide +kernel)
theorem k_216 : (Jvm.Cond.code ({ cls := "ReelOffice$Writer", name := "hasPower", desc := "()Z" } : Jvm.MethodName) prog_7_method_4_code (1 : Nat) (Option.some Jvm.ClassFile.FieldType.boolean)) ∈ tb := mem_tb (List.mem_of_getElem? (i := 216) (by decide +kernel)) (by decide +kernel)
theorem k_217 : (Jvm.Cond.methodLink "ReelOffice" (134 : Nat) ({ cls := "ReelOffice$Writer", name := "planCut", desc := "(I)V" } : Jvm.MethodName)) ∈ tb := mem_tb (List.mem_of_getElem? (i := 217) (by decide +kernel)) (by decide +kernel)
theorem k_218 : (Jvm.Cond.instanceMethod ({ cls := "ReelOffice$Writer", name := "planCut", desc := "(I)V" } : Jvm.MethodName)) ∈ tb := mem_tb (List.mem_of_getElem? (i := 218) (by decide +kernel)) (by decide +kernel)
theorem k_219 : (Jvm.Cond.selects "ReelOffice$Writer" ({ cls := "ReelOffice$Writer", name := "planCut", desc := "(I)V" } : Jvm.MethodName) ({ cls := "ReelOffice$Writer", name := "planCut", desc := "(I)V" } : Jvm.MethodName)) ∈ tb := mem_tb (List.mem_of_getElem? (i := 219) (by decide +kernel)) (by decide +kernel)
theorem k_220 : (Jvm.Cond.code ({ cls := "ReelOffice$Writer", name := "planCut", desc := "(I)V" } : Jvm.MethodName) prog_7_method_6_code (2 : Nat) (Option.none : Option Jvm.ClassFile.FieldType)) ∈ tb := mem_tb (List.mem_of_getElem? (i := 220) (by decide +kernel)) (by decide +kernel)
theorem k_225 : (Jvm.Cond.methodLink "ReelOffice" (137 : Nat) ({ cls := "ReelOffice$Writer", name := "switchOn", desc := "()V" } : Jvm.MethodName)) ∈ tb := mem_tb (List.mem_of_getElem? (i := 225) (by decide +kernel)) (by decide +kernel)
theorem k_226 : (Jvm.Cond.instanceMethod ({ cls := "ReelOffice$Writer", name := "switchOn", desc := "()V" } : Jvm.MethodName)) ∈ tb := mem_tb (List.mem_of_getElem? (i := 226) (by decide +kernel)) (by decide +kernel)
theorem k_227 : (Jvm.Cond.selects "ReelOffice$Writer" ({ cls := "ReelOffice$Writer", name := "switchOn", desc := "()V" } : Jvm.MethodName) ({ cls := "ReelOffice$Writer", name := "switchOn", desc := "()V" } : Jvm.MethodName)) ∈ tb := mem_tb (List.mem_of_getElem? (i := 227) (by decide +kernel)) (by decide +kernel)
theorem k_228 : (Jvm.Cond.code ({ cls := "ReelOffice$Writer", name := "switchOn", desc := "()V" } : Jvm.MethodName) prog_7_method_5_code (1 : Nat) (Option.none : Option Jvm.ClassFile.FieldType)) ∈ tb := mem_tb (List.mem_of_getElem? (i := 228) (by decide +kernel)) (by decide +kernel)
theorem k_237 : (Jvm.Cond.methodLink "ReelOffice" (140 : Nat) ({ cls := "ReelOffice$Plan", name := "height", desc := "()I" } : Jvm.MethodName)) ∈ tb := mem_tb (List.mem_of_getElem? (i := 237) (by decide +kernel)) (by decide +kernel)
theorem k_238 : (Jvm.Cond.instanceMethod ({ cls := "ReelOffice$Plan", name := "height", desc := "()I" } : Jvm.MethodName)) ∈ tb := mem_tb (List.mem_of_getElem? (i := 238) (by decide +kernel)) (by decide +kernel)
theorem k_239 : (Jvm.Cond.selects "ReelOffice$Plan" ({ cls := "ReelOffice$Plan", name := "height", desc := "()I" } : Jvm.MethodName) ({ cls := "ReelOffice$Plan", name := "height", desc := "()I" } : Jvm.MethodName)) ∈ tb := mem_tb (List.mem_of_getElem? (i := 239) (by decide +kernel)) (by decide +kernel)
theorem k_240 : (Jvm.Cond.code ({ cls := "ReelOffice$Plan", name := "height", desc := "()I" } : Jvm.MethodName) prog_3_method_3_code (1 : Nat) (Option.some Jvm.ClassFile.FieldType.int)) ∈ tb := mem_tb (List.mem_of_getElem? (i := 240) (by decide +kernel)) (by decide +kernel)
theorem k_245 : (Jvm.Cond.methodLink "ReelOffice" (127 : Nat) ({ cls := "ReelOffice", name := "isTape", desc := "(I)Z" } : Jvm.MethodName)) ∈ tb := mem_tb (List.mem_of_getElem? (i := 245) (by decide +kernel)) (by decide +kernel)
theorem k_246 : (Jvm.Cond.static ({ cls := "ReelOffice", name := "isTape", desc := "(I)Z" } : Jvm.MethodName)) ∈ tb := mem_tb (List.mem_of_getElem? (i := 246) (by decide +kernel)) (by decide +kernel)
theorem k_247 : (Jvm.Cond.code ({ cls := "ReelOffice", name := "isTape", desc := "(I)Z" } : Jvm.MethodName) prog_1_method_23_code (1 : Nat) (Option.some Jvm.ClassFile.FieldType.boolean)) ∈ tb := mem_tb (List.mem_of_getElem? (i := 247) (by decide +kernel)) (by decide +kernel)
theorem k_248 : (Jvm.Cond.methodLink "ReelOffice" (143 : Nat) ({ cls := "ReelOffice$Tape", name := "runCount", desc := "()I" } : Jvm.MethodName)) ∈ tb := mem_tb (List.mem_of_getElem? (i := 248) (by decide +kernel)) (by decide +kernel)
theorem k_249 : (Jvm.Cond.instanceMethod ({ cls := "ReelOffice$Tape", name := "runCount", desc := "()I" } : Jvm.MethodName)) ∈ tb := mem_tb (List.mem_of_getElem? (i := 249) (by decide +kernel)) (by decide +kernel)
theorem k_250 : (Jvm.Cond.selects "ReelOffice$Tape" ({ cls := "ReelOffice$Tape", name := "runCount", desc := "()I" } : Jvm.MethodName) ({ cls := "ReelOffice$Tape", name := "runCount", desc := "()I" } : Jvm.MethodName)) ∈ tb := mem_tb (List.mem_of_getElem? (i := 250) (by decide +kernel)) (by decide +kernel)
theorem k_251 : (Jvm.Cond.code ({ cls := "ReelOffice$Tape", name := "runCount", desc := "()I" } : Jvm.MethodName) prog_6_method_3_code (1 : Nat) (Option.some Jvm.ClassFile.FieldType.int)) ∈ tb := mem_tb (List.mem_of_getElem? (i := 251) (by decide +kernel)) (by decide +kernel)
theorem k_256 : (Jvm.Cond.methodLink "ReelOffice" (146 : Nat) ({ cls := "ReelOffice$Tape", name := "dummyCount", desc := "()I" } : Jvm.MethodName)) ∈ tb := mem_tb (List.mem_of_getElem? (i := 256) (by decide +kernel)) (by decide +kernel)
theorem k_257 : (Jvm.Cond.instanceMethod ({ cls := "ReelOffice$Tape", name := "dummyCount", desc := "()I" } : Jvm.MethodName)) ∈ tb := mem_tb (List.mem_of_getElem? (i := 257) (by decide +kernel)) (by decide +kernel)
theorem k_258 : (Jvm.Cond.selects "ReelOffice$Tape" ({ cls := "ReelOffice$Tape", name := "dummyCount", desc := "()I" } : Jvm.MethodName) ({ cls := "ReelOffice$Tape", name := "dummyCount", desc := "()I" } : Jvm.MethodName)) ∈ tb := mem_tb (List.mem_of_getElem? (i := 258) (by decide +kernel)) (by decide +kernel)
theorem k_259 : (Jvm.Cond.code ({ cls := "ReelOffice$Tape", name := "dummyCount", desc := "()I" } : Jvm.MethodName) prog_6_method_4_code (1 : Nat) (Option.some Jvm.ClassFile.FieldType.int)) ∈ tb := mem_tb (List.mem_of_getElem? (i := 259) (by decide +kernel)) (by decide +kernel)
theorem k_268 : (Jvm.Cond.methodLink "ReelOffice" (149 : Nat) ({ cls := "ReelOffice$Tape", name := "runLength", desc := "(I)I" } : Jvm.MethodName)) ∈ tb := mem_tb (List.mem_of_getElem? (i := 268) (by decide +kernel)) (by decide +kernel)
theorem k_269 : (Jvm.Cond.instanceMethod ({ cls := "ReelOffice$Tape", name := "runLength", desc := "(I)I" } : Jvm.MethodName)) ∈ tb := mem_tb (List.mem_of_getElem? (i := 269) (by decide +kernel)) (by decide +kernel)
theorem k_270 : (Jvm.Cond.selects "ReelOffice$Tape" ({ cls := "ReelOffice$Tape", name := "runLength", desc := "(I)I" } : Jvm.MethodName) ({ cls := "ReelOffice$Tape", name := "runLength", desc := "(I)I" } : Jvm.MethodName)) ∈ tb := mem_tb (List.mem_of_getElem? (i := 270) (by decide +kernel)) (by decide +kernel)
theorem k_271 : (Jvm.Cond.code ({ cls := "ReelOffice$Tape", name := "runLength", desc := "(I)I" } : Jvm.MethodName) prog_6_method_10_code (2 : Nat) (Option.some Jvm.ClassFile.FieldType.int)) ∈ tb := mem_tb (List.mem_of_getElem? (i := 271) (by decide +kernel)) (by decide +kernel)
theorem k_276 : (Jvm.Cond.methodLink "ReelOffice" (152 : Nat) ({ cls := "ReelOffice$Tape", name := "cardOfRun", desc := "(II)I" } : Jvm.MethodName)) ∈ tb := mem_tb (List.mem_of_getElem? (i := 276) (by decide +kernel)) (by decide +kernel)
theorem k_277 : (Jvm.Cond.instanceMethod ({ cls := "ReelOffice$Tape", name := "cardOfRun", desc := "(II)I" } : Jvm.MethodName)) ∈ tb := mem_tb (List.mem_of_getElem? (i := 277) (by decide +kernel)) (by decide +kernel)
theorem k_278 : (Jvm.Cond.selects "ReelOffice$Tape" ({ cls := "ReelOffice$Tape", name := "cardOfRun", desc := "(II)I" } : Jvm.MethodName) ({ cls := "ReelOffice$Tape", name := "cardOfRun", desc := "(II)I" } : Jvm.MethodName)) ∈ tb := mem_tb (List.mem_of_getElem? (i := 278) (by decide +kernel)) (by decide +kernel)
theorem k_279 : (Jvm.Cond.code ({ cls := "ReelOffice$Tape", name := "cardOfRun", desc := "(II)I" } : Jvm.MethodName) prog_6_method_11_code (5 : Nat) (Option.some Jvm.ClassFile.FieldType.int)) ∈ tb := mem_tb (List.mem_of_getElem? (i := 279) (by decide +kernel)) (by decide +kernel)
theorem k_280 : (Jvm.Cond.methodLink "ReelOffice$Tape" (31 : Nat) ({ cls := "ReelOffice$Tape", name := "runLength", desc := "(I)I" } : Jvm.MethodName)) ∈ tb := mem_tb (List.mem_of_getElem? (i := 280) (by decide +kernel)) (by decide +kernel)
theorem k_285 : (Jvm.Cond.methodLink "ReelOffice" (155 : Nat) ({ cls := "ReelOffice$Store", name := "holds", desc := "(I)Z" } : Jvm.MethodName)) ∈ tb := mem_tb (List.mem_of_getElem? (i := 285) (by decide +kernel)) (by decide +kernel)
theorem k_286 : (Jvm.Cond.instanceMethod ({ cls := "ReelOffice$Store", name := "holds", desc := "(I)Z" } : Jvm.MethodName)) ∈ tb := mem_tb (List.mem_of_getElem? (i := 286) (by decide +kernel)) (by decide +kernel)
theorem k_287 : (Jvm.Cond.selects "ReelOffice$Store" ({ cls := "ReelOffice$Store", name := "holds", desc := "(I)Z" } : Jvm.MethodName) ({ cls := "ReelOffice$Store", name := "holds", desc := "(I)Z" } : Jvm.MethodName)) ∈ tb := mem_tb (List.mem_of_getElem? (i := 287) (by decide +kernel)) (by decide +kernel)
theorem k_288 : (Jvm.Cond.code ({ cls := "ReelOffice$Store", name := "holds", desc := "(I)Z" } : Jvm.MethodName) prog_5_method_6_code (3 : Nat) (Option.some Jvm.ClassFile.FieldType.boolean)) ∈ tb := mem_tb (List.mem_of_getElem? (i := 288) (by decide +kernel)) (by decide +kernel)
theorem k_293 : (Jvm.Cond.methodLink "ReelOffice" (158 : Nat) ({ cls := "ReelOffice$Writer", name := "total", desc := "()I" } : Jvm.MethodName)) ∈ tb := mem_tb (List.mem_of_getElem? (i := 293) (by decide +kernel)) (by decide +kernel)
theorem k_294 : (Jvm.Cond.instanceMethod ({ cls := "ReelOffice$Writer", name := "total", desc := "()I" } : Jvm.MethodName)) ∈ tb := mem_tb (List.mem_of_getElem? (i := 294) (by decide +kernel)) (by decide +kernel)
theorem k_295 : (Jvm.Cond.selects "ReelOffice$Writer" ({ cls := "ReelOffice$Writer", name := "total", desc := "()I" } : Jvm.MethodName) ({ cls := "ReelOffice$Writer", name := "total", desc := "()I" } : Jvm.MethodName)) ∈ tb := mem_tb (List.mem_of_getElem? (i := 295) (by decide +kernel)) (by decide +kernel)
theorem k_296 : (Jvm.Cond.code ({ cls := "ReelOffice$Writer", name := "total", desc := "()I" } : Jvm.MethodName) prog_7_method_3_code (1 : Nat) (Option.some Jvm.ClassFile.FieldType.int)) ∈ tb := mem_tb (List.mem_of_getElem? (i := 296) (by decide +kernel)) (by decide +kernel)
theorem k_305 : (Jvm.Cond.methodLink "ReelOffice" (161 : Nat) ({ cls := "ReelOffice", name := "tapeInRole", desc := "(I)LReelOffice$Tape;" } : Jvm.MethodName)) ∈ tb := mem_tb (List.mem_of_getElem? (i := 305) (by decide +kernel)) (by decide +kernel)
theorem k_307 : (Jvm.Cond.instanceMethod ({ cls := "ReelOffice", name := "tapeInRole", desc := "(I)LReelOffice$Tape;" } : Jvm.MethodName)) ∈ tb := mem_tb (List.mem_of_getElem? (i := 307) (by decide +kernel)) (by decide +kernel)
theorem k_308 : (Jvm.Cond.code ({ cls := "ReelOffice", name := "tapeInRole", desc := "(I)LReelOffice$Tape;" } : Jvm.MethodName) prog_1_method_25_code (2 : Nat) (Option.some (Jvm.ClassFile.FieldType.object "ReelOffice$Tape"))) ∈ tb := mem_tb (List.mem_of_getElem? (i := 308) (by decide +kernel)) (by decide +kernel)
theorem k_313 : (Jvm.Cond.methodLink "ReelOffice" (165 : Nat) ({ cls := "ReelOffice$Deck", name := "hasCard", desc := "(I)Z" } : Jvm.MethodName)) ∈ tb := mem_tb (List.mem_of_getElem? (i := 313) (by decide +kernel)) (by decide +kernel)
theorem k_314 : (Jvm.Cond.instanceMethod ({ cls := "ReelOffice$Deck", name := "hasCard", desc := "(I)Z" } : Jvm.MethodName)) ∈ tb := mem_tb (List.mem_of_getElem? (i := 314) (by decide +kernel)) (by decide +kernel)
theorem k_315 : (Jvm.Cond.selects "ReelOffice$Deck" ({ cls := "ReelOffice$Deck", name := "hasCard", desc := "(I)Z" } : Jvm.MethodName) ({ cls := "ReelOffice$Deck", name := "hasCard", desc := "(I)Z" } : Jvm.MethodName)) ∈ tb := mem_tb (List.mem_of_getElem? (i := 315) (by decide +kernel)) (by decide +kernel)
theorem k_316 : (Jvm.Cond.code ({ cls := "ReelOffice$Deck", name := "hasCard", desc := "(I)Z" } : Jvm.MethodName) prog_2_method_6_code (2 : Nat) (Option.some Jvm.ClassFile.FieldType.boolean)) ∈ tb := mem_tb (List.mem_of_getElem? (i := 316) (by decide +kernel)) (by decide +kernel)
theorem k_317 : (Jvm.Cond.methodLink "ReelOffice" (168 : Nat) ({ cls := "ReelOffice$Deck", name := "comesBefore", desc := "(II)Z" } : Jvm.MethodName)) ∈ tb := mem_tb (List.mem_of_getElem? (i := 317) (by decide +kernel)) (by decide +kernel)
theorem k_318 : (Jvm.Cond.instanceMethod ({ cls := "ReelOffice$Deck", name := "comesBefore", desc := "(II)Z" } : Jvm.MethodName)) ∈ tb := mem_tb (List.mem_of_getElem? (i := 318) (by decide +kernel)) (by decide +kernel)
theorem k_319 : (Jvm.Cond.selects "ReelOffice$Deck" ({ cls := "ReelOffice$Deck", name := "comesBefore", desc := "(II)Z" } : Jvm.MethodName) ({ cls := "ReelOffice$Deck", name := "comesBefore", desc := "(II)Z" } : Jvm.MethodName)) ∈ tb := mem_tb (List.mem_of_getElem? (i := 319) (by decide +kernel)) (by decide +kernel)
theorem k_320 : (Jvm.Cond.code ({ cls := "ReelOffice$Deck", name := "comesBefore", desc := "(II)Z" } : Jvm.MethodName) prog_2_method_10_code (8 : Nat) (Option.some Jvm.ClassFile.FieldType.boolean)) ∈ tb := mem_tb (List.mem_of_getElem? (i := 320) (by decide +kernel)) (by decide +kernel)
theorem k_321 : (Jvm.Cond.methodLink "ReelOffice$Deck" (44 : Nat) ({ cls := "ReelOffice$Deck", name := "value", desc := "(II)I" } : Jvm.MethodName)) ∈ tb := mem_tb (List.mem_of_getElem? (i := 321) (by decide +kernel)) (by decide +kernel)
theorem k_322 : (Jvm.Cond.instanceMethod ({ cls := "ReelOffice$Deck", name := "value", desc := "(II)I" } : Jvm.MethodName)) ∈ tb := mem_tb (List.mem_of_getElem? (i := 322) (by decide +kernel)) (by decide +kernel)
theorem k_323 : (Jvm.Cond.selects "ReelOffice$Deck" ({ cls := "ReelOffice$Deck", name := "value", desc := "(II)I" } : Jvm.MethodName) ({ cls := "ReelOffice$Deck", name := "value", desc := "(II)I" } : Jvm.MethodName)) ∈ tb := mem_tb (List.mem_of_getElem? (i := 323) (by decide +kernel)) (by decide +kernel)
theorem k_324 : (Jvm.Cond.code ({ cls := "ReelOffice$Deck", name := "value", desc := "(II)I" } : Jvm.MethodName) prog_2_method_9_code (3 : Nat) (Option.some Jvm.ClassFile.FieldType.int)) ∈ tb := mem_tb (List.mem_of_getElem? (i := 324) (by decide +kernel)) (by decide +kernel)
theorem k_325 : (Jvm.Cond.methodLink "ReelOffice$Deck" (37 : Nat) ({ cls := "ReelOffice$Deck", name := "hasCard", desc := "(I)Z" } : Jvm.MethodName)) ∈ tb := mem_tb (List.mem_of_getElem? (i := 325) (by decide +kernel)) (by decide +kernel)
theorem k_327 : (Jvm.Cond.static ({ cls := "ReelOffice", name := "isField", desc := "(I)Z" } : Jvm.MethodName)) ∈ tb := mem_tb (List.mem_of_getElem? (i := 327) (by decide +kernel)) (by decide +kernel)
theorem k_328 : (Jvm.Cond.code ({ cls := "ReelOffice", name := "isField", desc := "(I)Z" } : Jvm.MethodName) prog_1_method_24_code (1 : Nat) (Option.some Jvm.ClassFile.FieldType.boolean)) ∈ tb := mem_tb (List.mem_of_getElem? (i := 328) (by decide +kernel)) (by decide +kernel)
theorem k_329 : (Jvm.Cond.methodLink "ReelOffice$Deck" (48 : Nat) ({ cls := "ReelOffice$Deck", name := "rank", desc := "(II)J" } : Jvm.MethodName)) ∈ tb := mem_tb (List.mem_of_getElem? (i := 329) (by decide +kernel)) (by decide +kernel)
theorem k_330 : (Jvm.Cond.static ({ cls := "ReelOffice$Deck", name := "rank", desc := "(II)J" } : Jvm.MethodName)) ∈ tb := mem_tb (List.mem_of_getElem? (i := 330) (by decide +kernel)) (by decide +kernel)
theorem k_331 : (Jvm.Cond.code ({ cls := "ReelOffice$Deck", name := "rank", desc := "(II)J" } : Jvm.MethodName) prog_2_method_11_code (4 : Nat) (Option.some Jvm.ClassFile.FieldType.long)) ∈ tb := mem_tb (List.mem_of_getElem? (i := 331) (by decide +kernel)) (by decide +kernel)
theorem k_332 : (Jvm.Cond.constantLong "ReelOffice$Deck" (52 : Nat) (4294967295 : Int64)) ∈ tb := mem_tb (List.mem_of_getElem? (i := 332) (by decide +kernel)) (by decide +kernel)
theorem k_337 : (Jvm.Cond.methodLink "ReelOffice" (172 : Nat) ({ cls := "ReelOffice$Deck", name := "value", desc := "(II)I" } : Jvm.MethodName)) ∈ tb := mem_tb (List.mem_of_getElem? (i := 337) (by decide +kernel)) (by decide +kernel)
theorem k_350 : (Jvm.Cond.instanceMethod ({ cls := "ReelOffice$Deck", name := "isFull", desc := "()Z" } : Jvm.MethodName)) ∈ tb := mem_tb (List.mem_of_getElem? (i := 350) (by decide +kernel)) (by decide +kernel)
theorem k_351 : (Jvm.Cond.selects "ReelOffice$Deck" ({ cls := "ReelOffice$Deck", name := "isFull", desc := "()Z" } : Jvm.MethodName) ({ cls := "ReelOffice$Deck", name := "isFull", desc := "()Z" } : Jvm.MethodName)) ∈ tb := mem_tb (List.mem_of_getElem? (i := 351) (by decide +kernel)) (by decide +kernel)
theorem k_352 : (Jvm.Cond.code ({ cls := "ReelOffice$Deck", name := "isFull", desc := "()Z" } : Jvm.MethodName) prog_2_method_4_code (1 : Nat) (Option.some Jvm.ClassFile.FieldType.boolean)) ∈ tb := mem_tb (List.mem_of_getElem? (i := 352) (by decide +kernel)) (by decide +kernel)
theorem k_419 : (Jvm.Cond.methodLink "ReelOffice$Deck" (30 : Nat) ({ cls := "ReelOffice$Deck", name := "isFull", desc := "()Z" } : Jvm.MethodName)) ∈ tb := mem_tb (List.mem_of_getElem? (i := 419) (by decide +kernel)) (by decide +kernel)
theorem k_445 : (Jvm.Cond.instanceMethod ({ cls := "ReelOffice$Deck", name := "keyIsFull", desc := "()Z" } : Jvm.MethodName)) ∈ tb := mem_tb (List.mem_of_getElem? (i := 445) (by decide +kernel)) (by decide +kernel)
theorem k_446 : (Jvm.Cond.selects "ReelOffice$Deck" ({ cls := "ReelOffice$Deck", name := "keyIsFull", desc := "()Z" } : Jvm.MethodName) ({ cls := "ReelOffice$Deck", name := "keyIsFull", desc := "()Z" } : Jvm.MethodName)) ∈ tb := mem_tb (List.mem_of_getElem? (i := 446) (by decide +kernel)) (by decide +kernel)
theorem k_447 : (Jvm.Cond.code ({ cls := "ReelOffice$Deck", name := "keyIsFull", desc := "()Z" } : Jvm.MethodName) prog_2_method_5_code (1 : Nat) (Option.some Jvm.ClassFile.FieldType.boolean)) ∈ tb := mem_tb (List.mem_of_getElem? (i := 447) (by decide +kernel)) (by decide +kernel)
theorem k_452 : (Jvm.Cond.methodLink "ReelOffice$Deck" (34 : Nat) ({ cls := "ReelOffice$Deck", name := "keyIsFull", desc := "()Z" } : Jvm.MethodName)) ∈ tb := mem_tb (List.mem_of_getElem? (i := 452) (by decide +kernel)) (by decide +kernel)
theorem k_464 : (Jvm.Cond.methodLink "ReelOffice$Plan" (22 : Nat) ({ cls := "ReelOffice$Tape", name := "addDummies", desc := "(I)V" } : Jvm.MethodName)) ∈ tb := mem_tb (List.mem_of_getElem? (i := 464) (by decide +kernel)) (by decide +kernel)
theorem k_465 : (Jvm.Cond.instanceMethod ({ cls := "ReelOffice$Tape", name := "addDummies", desc := "(I)V" } : Jvm.MethodName)) ∈ tb := mem_tb (List.mem_of_getElem? (i := 465) (by decide +kernel)) (by decide +kernel)
theorem k_466 : (Jvm.Cond.selects "ReelOffice$Tape" ({ cls := "ReelOffice$Tape", name := "addDummies", desc := "(I)V" } : Jvm.MethodName) ({ cls := "ReelOffice$Tape", name := "addDummies", desc := "(I)V" } : Jvm.MethodName)) ∈ tb := mem_tb (List.mem_of_getElem? (i := 466) (by decide +kernel)) (by decide +kernel)
theorem k_467 : (Jvm.Cond.code ({ cls := "ReelOffice$Tape", name := "addDummies", desc := "(I)V" } : Jvm.MethodName) prog_6_method_7_code (2 : Nat) (Option.none : Option Jvm.ClassFile.FieldType)) ∈ tb := mem_tb (List.mem_of_getElem? (i := 467) (by decide +kernel)) (by decide +kernel)
theorem k_472 : (Jvm.Cond.methodLink "ReelOffice$Store" (29 : Nat) ({ cls := "ReelOffice$Deck", name := "cardCount", desc := "()I" } : Jvm.MethodName)) ∈ tb := mem_tb (List.mem_of_getElem? (i := 472) (by decide +kernel)) (by decide +kernel)
theorem k_473 : (Jvm.Cond.methodLink "ReelOffice$Store" (35 : Nat) ({ cls := "java/lang/Math", name := "min", desc := "(II)I" } : Jvm.MethodName)) ∈ tb := mem_tb (List.mem_of_getElem? (i := 473) (by decide +kernel)) (by decide +kernel)
theorem k_474 : (Jvm.Cond.static ({ cls := "java/lang/Math", name := "min", desc := "(II)I" } : Jvm.MethodName)) ∈ tb := mem_tb (List.mem_of_getElem? (i := 474) (by decide +kernel)) (by decide +kernel)
theorem k_475 : (Jvm.Cond.code ({ cls := "java/lang/Math", name := "min", desc := "(II)I" } : Jvm.MethodName) prog_13_method_69_code (2 : Nat) (Option.some Jvm.ClassFile.FieldType.int)) ∈ tb := mem_tb (List.mem_of_getElem? (i := 475) (by decide +kernel)) (by decide +kernel)
theorem k_476 : (Jvm.Cond.methodLink "ReelOffice" (105 : Nat) ({ cls := "ReelOffice$Store", name := "isEmpty", desc := "()Z" } : Jvm.MethodName)) ∈ tb := mem_tb (List.mem_of_getElem? (i := 476) (by decide +kernel)) (by decide +kernel)
theorem k_477 : (Jvm.Cond.instanceMethod ({ cls := "ReelOffice$Store", name := "isEmpty", desc := "()Z" } : Jvm.MethodName)) ∈ tb := mem_tb (List.mem_of_getElem? (i := 477) (by decide +kernel)) (by decide +kernel)
theorem k_478 : (Jvm.Cond.selects "ReelOffice$Store" ({ cls := "ReelOffice$Store", name := "isEmpty", desc := "()Z" } : Jvm.MethodName) ({ cls := "ReelOffice$Store", name := "isEmpty", desc := "()Z" } : Jvm.MethodName)) ∈ tb := mem_tb (List.mem_of_getElem? (i := 478) (by decide +kernel)) (by decide +kernel)
theorem k_479 : (Jvm.Cond.code ({ cls := "ReelOffice$Store", name := "isEmpty", desc := "()Z" } : Jvm.MethodName) prog_5_method_3_code (1 : Nat) (Option.some Jvm.ClassFile.FieldType.boolean)) ∈ tb := mem_tb (List.mem_of_getElem? (i := 479) (by decide +kernel)) (by decide +kernel)
theorem k_491 : (Jvm.Cond.methodLink "ReelOffice" (175 : Nat) ({ cls := "ReelOffice$Store", name := "copyFrom", desc := "(LReelOffice$Store;)V" } : Jvm.MethodName)) ∈ tb := mem_tb (List.mem_of_getElem? (i := 491) (by decide +kernel)) (by decide +kernel)
theorem k_492 : (Jvm.Cond.instanceMethod ({ cls := "ReelOffice$Store", name := "copyFrom", desc := "(LReelOffice$Store;)V" } : Jvm.MethodName)) ∈ tb := mem_tb (List.mem_of_getElem? (i := 492) (by decide +kernel)) (by decide +kernel)
theorem k_493 : (Jvm.Cond.selects "ReelOffice$Store" ({ cls := "ReelOffice$Store", name := "copyFrom", desc := "(LReelOffice$Store;)V" } : Jvm.MethodName) ({ cls := "ReelOffice$Store", name := "copyFrom", desc := "(LReelOffice$Store;)V" } : Jvm.MethodName)) ∈ tb := mem_tb (List.mem_of_getElem? (i := 493) (by decide +kernel)) (by decide +kernel)
theorem k_494 : (Jvm.Cond.code ({ cls := "ReelOffice$Store", name := "copyFrom", desc := "(LReelOffice$Store;)V" } : Jvm.MethodName) prog_5_method_5_code (3 : Nat) (Option.none : Option Jvm.ClassFile.FieldType)) ∈ tb := mem_tb (List.mem_of_getElem? (i := 494) (by decide +kernel)) (by decide +kernel)
theorem k_495 : (Jvm.Cond.methodLink "ReelOffice" (179 : Nat) ({ cls := "ReelOffice", name := "writeRunFromTrial", desc := "()Z" } : Jvm.MethodName)) ∈ tb := mem_tb (List.mem_of_getElem? (i := 495) (by decide +kernel)) (by decide +kernel)
theorem k_497 : (Jvm.Cond.instanceMethod ({ cls := "ReelOffice", name := "writeRunFromTrial", desc := "()Z" } : Jvm.MethodName)) ∈ tb := mem_tb (List.mem_of_getElem? (i := 497) (by decide +kernel)) (by decide +kernel)
theorem k_498 : (Jvm.Cond.code ({ cls := "ReelOffice", name := "writeRunFromTrial", desc := "()Z" } : Jvm.MethodName) prog_1_method_27_code (3 : Nat) (Option.some Jvm.ClassFile.FieldType.boolean)) ∈ tb := mem_tb (List.mem_of_getElem? (i := 498) (by decide +kernel)) (by decide +kernel)
theorem k_499 : (Jvm.Cond.methodLink "ReelOffice" (196 : Nat) ({ cls := "ReelOffice$Row", name := "forgetAll", desc := "()V" } : Jvm.MethodName)) ∈ tb := mem_tb (List.mem_of_getElem? (i := 499) (by decide +kernel)) (by decide +kernel)
theorem k_500 : (Jvm.Cond.instanceMethod ({ cls := "ReelOffice$Row", name := "forgetAll", desc := "()V" } : Jvm.MethodName)) ∈ tb := mem_tb (List.mem_of_getElem? (i := 500) (by decide +kernel)) (by decide +kernel)
theorem k_501 : (Jvm.Cond.selects "ReelOffice$Row" ({ cls := "ReelOffice$Row", name := "forgetAll", desc := "()V" } : Jvm.MethodName) ({ cls := "ReelOffice$Row", name := "forgetAll", desc := "()V" } : Jvm.MethodName)) ∈ tb := mem_tb (List.mem_of_getElem? (i := 501) (by decide +kernel)) (by decide +kernel)
theorem k_502 : (Jvm.Cond.code ({ cls := "ReelOffice$Row", name := "forgetAll", desc := "()V" } : Jvm.MethodName) prog_4_method_2_code (1 : Nat) (Option.none : Option Jvm.ClassFile.FieldType)) ∈ tb := mem_tb (List.mem_of_getElem? (i := 502) (by decide +kernel)) (by decide +kernel)
theorem k_503 : (Jvm.Cond.methodLink "ReelOffice" (197 : Nat) ({ cls := "ReelOffice$Store", name := "slotOfFirst", desc := "(LReelOffice$Deck;)I" } : Jvm.MethodName)) ∈ tb := mem_tb (List.mem_of_getElem? (i := 503) (by decide +kernel)) (by decide +kernel)
theorem k_504 : (Jvm.Cond.instanceMethod ({ cls := "ReelOffice$Store", name := "slotOfFirst", desc := "(LReelOffice$Deck;)I" } : Jvm.MethodName)) ∈ tb := mem_tb (List.mem_of_getElem? (i := 504) (by decide +kernel)) (by decide +kernel)
theorem k_505 : (Jvm.Cond.selects "ReelOffice$Store" ({ cls := "ReelOffice$Store", name := "slotOfFirst", desc := "(LReelOffice$Deck;)I" } : Jvm.MethodName) ({ cls := "ReelOffice$Store", name := "slotOfFirst", desc := "(LReelOffice$Deck;)I" } : Jvm.MethodName)) ∈ tb := mem_tb (List.mem_of_getElem? (i := 505) (by decide +kernel)) (by decide +kernel)
theorem k_506 : (Jvm.Cond.code ({ cls := "ReelOffice$Store", name := "slotOfFirst", desc := "(LReelOffice$Deck;)I" } : Jvm.MethodName) prog_5_method_8_code (4 : Nat) (Option.some Jvm.ClassFile.FieldType.int)) ∈ tb := mem_tb (List.mem_of_getElem? (i := 506) (by decide +kernel)) (by decide +kernel)
theorem k_507 : (Jvm.Cond.methodLink "ReelOffice$Store" (41 : Nat) ({ cls := "ReelOffice$Deck", name := "comesBefore", desc := "(II)Z" } : Jvm.MethodName)) ∈ tb := mem_tb (List.mem_of_getElem? (i := 507) (by decide +kernel)) (by decide +kernel)
theorem k_508 : (Jvm.Cond.methodLink "ReelOffice" (201 : Nat) ({ cls := "ReelOffice$Writer", name := "writeCard", desc := "()Z" } : Jvm.MethodName)) ∈ tb := mem_tb (List.mem_of_getElem? (i := 508) (by decide +kernel)) (by decide +kernel)
theorem k_509 : (Jvm.Cond.instanceMethod ({ cls := "ReelOffice$Writer", name := "writeCard", desc := "()Z" } : Jvm.MethodName)) ∈ tb := mem_tb (List.mem_of_getElem? (i := 509) (by decide +kernel)) (by decide +kernel)
theorem k_510 : (Jvm.Cond.selects "ReelOffice$Writer" ({ cls := "ReelOffice$Writer", name := "writeCard", desc := "()Z" } : Jvm.MethodName) ({ cls := "ReelOffice$Writer", name := "writeCard", desc := "()Z" } : Jvm.MethodName)) ∈ tb := mem_tb (List.mem_of_getElem? (i := 510) (by decide +kernel)) (by decide +kernel)
theorem k_511 : (Jvm.Cond.code ({ cls := "ReelOffice$Writer", name := "writeCard", desc := "()Z" } : Jvm.MethodName) prog_7_method_7_code (1 : Nat) (Option.some Jvm.ClassFile.FieldType.boolean)) ∈ tb := mem_tb (List.mem_of_getElem? (i := 511) (by decide +kernel)) (by decide +kernel)
theorem k_512 : (Jvm.Cond.methodLink "ReelOffice" (204 : Nat) ({ cls := "ReelOffice$Store", name := "cardIn", desc := "(I)I" } : Jvm.MethodName)) ∈ tb := mem_tb (List.mem_of_getElem? (i := 512) (by decide +kernel)) (by decide +kernel)
theorem k_513 : (Jvm.Cond.instanceMethod ({ cls := "ReelOffice$Store", name := "cardIn", desc := "(I)I" } : Jvm.MethodName)) ∈ tb := mem_tb (List.mem_of_getElem? (i := 513) (by decide +kernel)) (by decide +kernel)
theorem k_514 : (Jvm.Cond.selects "ReelOffice$Store" ({ cls := "ReelOffice$Store", name := "cardIn", desc := "(I)I" } : Jvm.MethodName) ({ cls := "ReelOffice$Store", name := "cardIn", desc := "(I)I" } : Jvm.MethodName)) ∈ tb := mem_tb (List.mem_of_getElem? (i := 514) (by decide +kernel)) (by decide +kernel)
theorem k_515 : (Jvm.Cond.code ({ cls := "ReelOffice$Store", name := "cardIn", desc := "(I)I" } : Jvm.MethodName) prog_5_method_7_code (2 : Nat) (Option.some Jvm.ClassFile.FieldType.int)) ∈ tb := mem_tb (List.mem_of_getElem? (i := 515) (by decide +kernel)) (by decide +kernel)
theorem k_516 : (Jvm.Cond.methodLink "ReelOffice" (207 : Nat) ({ cls := "ReelOffice$Row", name := "add", desc := "(I)V" } : Jvm.MethodName)) ∈ tb := mem_tb (List.mem_of_getElem? (i := 516) (by decide +kernel)) (by decide +kernel)
theorem k_517 : (Jvm.Cond.instanceMethod ({ cls := "ReelOffice$Row", name := "add", desc := "(I)V" } : Jvm.MethodName)) ∈ tb := mem_tb (List.mem_of_getElem? (i := 517) (by decide +kernel)) (by decide +kernel)
theorem k_518 : (Jvm.Cond.selects "ReelOffice$Row" ({ cls := "ReelOffice$Row", name := "add", desc := "(I)V" } : Jvm.MethodName) ({ cls := "ReelOffice$Row", name := "add", desc := "(I)V" } : Jvm.MethodName)) ∈ tb := mem_tb (List.mem_of_getElem? (i := 518) (by decide +kernel)) (by decide +kernel)
theorem k_519 : (Jvm.Cond.code ({ cls := "ReelOffice$Row", name := "add", desc := "(I)V" } : Jvm.MethodName) prog_4_method_3_code (2 : Nat) (Option.none : Option Jvm.ClassFile.FieldType)) ∈ tb := mem_tb (List.mem_of_getElem? (i := 519) (by decide +kernel)) (by decide +kernel)
theorem k_520 : (Jvm.Cond.methodLink "ReelOffice" (210 : Nat) ({ cls := "ReelOffice$Store", name := "replaceCard", desc := "(ILReelOffice$Deck;)V" } : Jvm.MethodName)) ∈ tb := mem_tb (List.mem_of_getElem? (i := 520) (by decide +kernel)) (by decide +kernel)
theorem k_521 : (Jvm.Cond.instanceMethod ({ cls := "ReelOffice$Store", name := "replaceCard", desc := "(ILReelOffice$Deck;)V" } : Jvm.MethodName)) ∈ tb := mem_tb (List.mem_of_getElem? (i := 521) (by decide +kernel)) (by decide +kernel)
theorem k_522 : (Jvm.Cond.selects "ReelOffice$Store" ({ cls := "ReelOffice$Store", name := "replaceCard", desc := "(ILReelOffice$Deck;)V" } : Jvm.MethodName) ({ cls := "ReelOffice$Store", name := "replaceCard", desc := "(ILReelOffice$Deck;)V" } : Jvm.MethodName)) ∈ tb := mem_tb (List.mem_of_getElem? (i := 522) (by decide +kernel)) (by decide +kernel)
theorem k_523 : (Jvm.Cond.code ({ cls := "ReelOffice$Store", name := "replaceCard", desc := "(ILReelOffice$Deck;)V" } : Jvm.MethodName) prog_5_method_9_code (3 : Nat) (Option.none : Option Jvm.ClassFile.FieldType)) ∈ tb := mem_tb (List.mem_of_getElem? (i := 523) (by decide +kernel)) (by decide +kernel)
theorem k_524 : (Jvm.Cond.methodLink "ReelOffice$Store" (45 : Nat) ({ cls := "ReelOffice$Deck", name := "hasCard", desc := "(I)Z" } : Jvm.MethodName)) ∈ tb := mem_tb (List.mem_of_getElem? (i := 524) (by decide +kernel)) (by decide +kernel)
theorem k_525 : (Jvm.Cond.methodLink "ReelOffice" (182 : Nat) ({ cls := "ReelOffice$Store", name := "turnToNextRun", desc := "()V" } : Jvm.MethodName)) ∈ tb := mem_tb (List.mem_of_getElem? (i := 525) (by decide +kernel)) (by decide +kernel)
theorem k_526 : (Jvm.Cond.instanceMethod ({ cls := "ReelOffice$Store", name := "turnToNextRun", desc := "()V" } : Jvm.MethodName)) ∈ tb := mem_tb (List.mem_of_getElem? (i := 526) (by decide +kernel)) (by decide +kernel)
theorem k_527 : (Jvm.Cond.selects "ReelOffice$Store" ({ cls := "ReelOffice$Store", name := "turnToNextRun", desc := "()V" } : Jvm.MethodName) ({ cls := "ReelOffice$Store", name := "turnToNextRun", desc := "()V" } : Jvm.MethodName)) ∈ tb := mem_tb (List.mem_of_getElem? (i := 527) (by decide +kernel)) (by decide +kernel)
theorem k_528 : (Jvm.Cond.code ({ cls := "ReelOffice$Store", name := "turnToNextRun", desc := "()V" } : Jvm.MethodName) prog_5_method_10_code (2 : Nat) (Option.none : Option Jvm.ClassFile.FieldType)) ∈ tb := mem_tb (List.mem_of_getElem? (i := 528) (by decide +kernel)) (by decide +kernel)
theorem k_529 : (Jvm.Cond.methodLink "ReelOffice" (185 : Nat) ({ cls := "ReelOffice$Plan", name := "placeOfNextRun", desc := "([LReelOffice$Tape;)I" } : Jvm.MethodName)) ∈ tb := mem_tb (List.mem_of_getElem? (i := 529) (by decide +kernel)) (by decide +kernel)
theorem k_530 : (Jvm.Cond.instanceMethod ({ cls := "ReelOffice$Plan", name := "placeOfNextRun", desc := "([LReelOffice$Tape;)I" } : Jvm.MethodName)) ∈ tb := mem_tb (List.mem_of_getElem? (i := 530) (by decide +kernel)) (by decide +kernel)
theorem k_531 : (Jvm.Cond.selects "ReelOffice$Plan" ({ cls := "ReelOffice$Plan", name := "placeOfNextRun", desc := "([LReelOffice$Tape;)I" } : Jvm.MethodName) ({ cls := "ReelOffice$Plan", name := "placeOfNextRun", desc := "([LReelOffice$Tape;)I" } : Jvm.MethodName)) ∈ tb := mem_tb (List.mem_of_getElem? (i := 531) (by decide +kernel)) (by decide +kernel)
theorem k_532 : (Jvm.Cond.code ({ cls := "ReelOffice$Plan", name := "placeOfNextRun", desc := "([LReelOffice$Tape;)I" } : Jvm.MethodName) prog_3_method_5_code (3 : Nat) (Option.some Jvm.ClassFile.FieldType.int)) ∈ tb := mem_tb (List.mem_of_getElem? (i := 532) (by decide +kernel)) (by decide +kernel)
theorem k_533 : (Jvm.Cond.methodLink "ReelOffice$Plan" (28 : Nat) ({ cls := "ReelOffice$Tape", name := "dummyCount", desc := "()I" } : Jvm.MethodName)) ∈ tb := mem_tb (List.mem_of_getElem? (i := 533) (by decide +kernel)) (by decide +kernel)
theorem k_534 : (Jvm.Cond.methodLink "ReelOffice$Plan" (32 : Nat) ({ cls := "ReelOffice$Plan", name := "goUp", desc := "([LReelOffice$Tape;)V" } : Jvm.MethodName)) ∈ tb := mem_tb (List.mem_of_getElem? (i := 534) (by decide +kernel)) (by decide +kernel)
theorem k_536 : (Jvm.Cond.instanceMethod ({ cls := "ReelOffice$Plan", name := "goUp", desc := "([LReelOffice$Tape;)V" } : Jvm.MethodName)) ∈ tb := mem_tb (List.mem_of_getElem? (i := 536) (by decide +kernel)) (by decide +kernel)
theorem k_537 : (Jvm.Cond.code ({ cls := "ReelOffice$Plan", name := "goUp", desc := "([LReelOffice$Tape;)V" } : Jvm.MethodName) prog_3_method_6_code (5 : Nat) (Option.none : Option Jvm.ClassFile.FieldType)) ∈ tb := mem_tb (List.mem_of_getElem? (i := 537) (by decide +kernel)) (by decide +kernel)
theorem k_538 : (Jvm.Cond.methodLink "ReelOffice$Plan" (36 : Nat) ({ cls := "ReelOffice$Plan", name := "growTo", desc := "(II[LReelOffice$Tape;)V" } : Jvm.MethodName)) ∈ tb := mem_tb (List.mem_of_getElem? (i := 538) (by decide +kernel)) (by decide +kernel)
theorem k_540 : (Jvm.Cond.instanceMethod ({ cls := "ReelOffice$Plan", name := "growTo", desc := "(II[LReelOffice$Tape;)V" } : Jvm.MethodName)) ∈ tb := mem_tb (List.mem_of_getElem? (i := 540) (by decide +kernel)) (by decide +kernel)
theorem k_541 : (Jvm.Cond.code ({ cls := "ReelOffice$Plan", name := "growTo", desc := "(II[LReelOffice$Tape;)V" } : Jvm.MethodName) prog_3_method_7_code (4 : Nat) (Option.none : Option Jvm.ClassFile.FieldType)) ∈ tb := mem_tb (List.mem_of_getElem? (i := 541) (by decide +kernel)) (by decide +kernel)
theorem k_542 : (Jvm.Cond.methodLink "ReelOffice" (189 : Nat) ({ cls := "ReelOffice$Tape", name := "addDummies", desc := "(I)V" } : Jvm.MethodName)) ∈ tb := mem_tb (List.mem_of_getElem? (i := 542) (by decide +kernel)) (by decide +kernel)
theorem k_543 : (Jvm.Cond.methodLink "ReelOffice" (192 : Nat) ({ cls := "ReelOffice$Tape", name := "append", desc := "(LReelOffice$Row;)V" } : Jvm.MethodName)) ∈ tb := mem_tb (List.mem_of_getElem? (i := 543) (by decide +kernel)) (by decide +kernel)
theorem k_544 : (Jvm.Cond.instanceMethod ({ cls := "ReelOffice$Tape", name := "append", desc := "(LReelOffice$Row;)V" } : Jvm.MethodName)) ∈ tb := mem_tb (List.mem_of_getElem? (i := 544) (by decide +kernel)) (by decide +kernel)
theorem k_545 : (Jvm.Cond.selects "ReelOffice$Tape" ({ cls := "ReelOffice$Tape", name := "append", desc := "(LReelOffice$Row;)V" } : Jvm.MethodName) ({ cls := "ReelOffice$Tape", name := "append", desc := "(LReelOffice$Row;)V" } : Jvm.MethodName)) ∈ tb := mem_tb (List.mem_of_getElem? (i := 545) (by decide +kernel)) (by decide +kernel)
theorem k_546 : (Jvm.Cond.code ({ cls := "ReelOffice$Tape", name := "append", desc := "(LReelOffice$Row;)V" } : Jvm.MethodName) prog_6_method_12_code (2 : Nat) (Option.none : Option Jvm.ClassFile.FieldType)) ∈ tb := mem_tb (List.mem_of_getElem? (i := 546) (by decide +kernel)) (by decide +kernel)
theorem k_547 : (Jvm.Cond.methodLink "ReelOffice$Tape" (41 : Nat) ({ cls := "java/lang/System", name := "arraycopy", desc := "(Ljava/lang/Object;ILjava/lang/Object;II)V" } : Jvm.MethodName)) ∈ tb := mem_tb (List.mem_of_getElem? (i := 547) (by decide +kernel)) (by decide +kernel)
theorem k_548 : (Jvm.Cond.static ({ cls := "java/lang/System", name := "arraycopy", desc := "(Ljava/lang/Object;ILjava/lang/Object;II)V" } : Jvm.MethodName)) ∈ tb := mem_tb (List.mem_of_getElem? (i := 548) (by decide +kernel)) (by decide +kernel)
theorem k_549 : (Jvm.Cond.native ({ cls := "java/lang/System", name := "arraycopy", desc := "(Ljava/lang/Object;ILjava/lang/Object;II)V" } : Jvm.MethodName)) ∈ tb := mem_tb (List.mem_of_getElem? (i := 549) (by decide +kernel)) (by decide +kernel)
theorem k_554 : (Jvm.Cond.methodLink "ReelOffice" (214 : Nat) ({ cls := "ReelOffice", name := "everySourceHasDummy", desc := "()Z" } : Jvm.MethodName)) ∈ tb := mem_tb (List.mem_of_getElem? (i := 554) (by decide +kernel)) (by decide +kernel)
theorem k_556 : (Jvm.Cond.instanceMethod ({ cls := "ReelOffice", name := "everySourceHasDummy", desc := "()Z" } : Jvm.MethodName)) ∈ tb := mem_tb (List.mem_of_getElem? (i := 556) (by decide +kernel)) (by decide +kernel)
theorem k_557 : (Jvm.Cond.code ({ cls := "ReelOffice", name := "everySourceHasDummy", desc := "()Z" } : Jvm.MethodName) prog_1_method_29_code (2 : Nat) (Option.some Jvm.ClassFile.FieldType.boolean)) ∈ tb := mem_tb (List.mem_of_getElem? (i := 557) (by decide +kernel)) (by decide +kernel)
theorem k_558 : (Jvm.Cond.methodLink "ReelOffice" (232 : Nat) ({ cls := "ReelOffice$Tape", name := "hasDummy", desc := "()Z" } : Jvm.MethodName)) ∈ tb := mem_tb (List.mem_of_getElem? (i := 558) (by decide +kernel)) (by decide +kernel)
theorem k_559 : (Jvm.Cond.instanceMethod ({ cls := "ReelOffice$Tape", name := "hasDummy", desc := "()Z" } : Jvm.MethodName)) ∈ tb := mem_tb (List.mem_of_getElem? (i := 559) (by decide +kernel)) (by decide +kernel)
theorem k_560 : (Jvm.Cond.selects "ReelOffice$Tape" ({ cls := "ReelOffice$Tape", name := "hasDummy", desc := "()Z" } : Jvm.MethodName) ({ cls := "ReelOffice$Tape", name := "hasDummy", desc := "()Z" } : Jvm.MethodName)) ∈ tb := mem_tb (List.mem_of_getElem? (i := 560) (by decide +kernel)) (by decide +kernel)
theorem k_561 : (Jvm.Cond.code ({ cls := "ReelOffice$Tape", name := "hasDummy", desc := "()Z" } : Jvm.MethodName) prog_6_method_5_code (1 : Nat) (Option.some Jvm.ClassFile.FieldType.boolean)) ∈ tb := mem_tb (List.mem_of_getElem? (i := 561) (by decide +kernel)) (by decide +kernel)
theorem k_562 : (Jvm.Cond.methodLink "ReelOffice" (217 : Nat) ({ cls := "ReelOffice", name := "sourcesCanBeRead", desc := "()Z" } : Jvm.MethodName)) ∈ tb := mem_tb (List.mem_of_getElem? (i := 562) (by decide +kernel)) (by decide +kernel)
theorem k_564 : (Jvm.Cond.instanceMethod ({ cls := "ReelOffice", name := "sourcesCanBeRead", desc := "()Z" } : Jvm.MethodName)) ∈ tb := mem_tb (List.mem_of_getElem? (i := 564) (by decide +kernel)) (by decide +kernel)
theorem k_565 : (Jvm.Cond.code ({ cls := "ReelOffice", name := "sourcesCanBeRead", desc := "()Z" } : Jvm.MethodName) prog_1_method_30_code (4 : Nat) (Option.some Jvm.ClassFile.FieldType.boolean)) ∈ tb := mem_tb (List.mem_of_getElem? (i := 565) (by decide +kernel)) (by decide +kernel)
theorem k_566 : (Jvm.Cond.methodLink "ReelOffice" (235 : Nat) ({ cls := "ReelOffice$Tape", name := "useFault", desc := "()Z" } : Jvm.MethodName)) ∈ tb := mem_tb (List.mem_of_getElem? (i := 566) (by decide +kernel)) (by decide +kernel)
theorem k_567 : (Jvm.Cond.instanceMethod ({ cls := "ReelOffice$Tape", name := "useFault", desc := "()Z" } : Jvm.MethodName)) ∈ tb := mem_tb (List.mem_of_getElem? (i := 567) (by decide +kernel)) (by decide +kernel)
theorem k_568 : (Jvm.Cond.selects "ReelOffice$Tape" ({ cls := "ReelOffice$Tape", name := "useFault", desc := "()Z" } : Jvm.MethodName) ({ cls := "ReelOffice$Tape", name := "useFault", desc := "()Z" } : Jvm.MethodName)) ∈ tb := mem_tb (List.mem_of_getElem? (i := 568) (by decide +kernel)) (by decide +kernel)
theorem k_569 : (Jvm.Cond.code ({ cls := "ReelOffice$Tape", name := "useFault", desc := "()Z" } : Jvm.MethodName) prog_6_method_9_code (1 : Nat) (Option.some Jvm.ClassFile.FieldType.boolean)) ∈ tb := mem_tb (List.mem_of_getElem? (i := 569) (by decide +kernel)) (by decide +kernel)
theorem k_570 : (Jvm.Cond.methodLink "ReelOffice" (220 : Nat) ({ cls := "ReelOffice", name := "writeMergedRun", desc := "()Z" } : Jvm.MethodName)) ∈ tb := mem_tb (List.mem_of_getElem? (i := 570) (by decide +kernel)) (by decide +kernel)
theorem k_572 : (Jvm.Cond.instanceMethod ({ cls := "ReelOffice", name := "writeMergedRun", desc := "()Z" } : Jvm.MethodName)) ∈ tb := mem_tb (List.mem_of_getElem? (i := 572) (by decide +kernel)) (by decide +kernel)
theorem k_573 : (Jvm.Cond.code ({ cls := "ReelOffice", name := "writeMergedRun", desc := "()Z" } : Jvm.MethodName) prog_1_method_31_code (3 : Nat) (Option.some Jvm.ClassFile.FieldType.boolean)) ∈ tb := mem_tb (List.mem_of_getElem? (i := 573) (by decide +kernel)) (by decide +kernel)
theorem k_574 : (Jvm.Cond.methodLink "ReelOffice" (238 : Nat) ({ cls := "ReelOffice", name := "sourceOfFirstCard", desc := "()I" } : Jvm.MethodName)) ∈ tb := mem_tb (List.mem_of_getElem? (i := 574) (by decide +kernel)) (by decide +kernel)
theorem k_576 : (Jvm.Cond.instanceMethod ({ cls := "ReelOffice", name := "sourceOfFirstCard", desc := "()I" } : Jvm.MethodName)) ∈ tb := mem_tb (List.mem_of_getElem? (i := 576) (by decide +kernel)) (by decide +kernel)
theorem k_577 : (Jvm.Cond.code ({ cls := "ReelOffice", name := "sourceOfFirstCard", desc := "()I" } : Jvm.MethodName) prog_1_method_32_code (3 : Nat) (Option.some Jvm.ClassFile.FieldType.int)) ∈ tb := mem_tb (List.mem_of_getElem? (i := 577) (by decide +kernel)) (by decide +kernel)
theorem k_578 : (Jvm.Cond.methodLink "ReelOffice" (241 : Nat) ({ cls := "ReelOffice", name := "nextCardOf", desc := "(I)I" } : Jvm.MethodName)) ∈ tb := mem_tb (List.mem_of_getElem? (i := 578) (by decide +kernel)) (by decide +kernel)
theorem k_580 : (Jvm.Cond.instanceMethod ({ cls := "ReelOffice", name := "nextCardOf", desc := "(I)I" } : Jvm.MethodName)) ∈ tb := mem_tb (List.mem_of_getElem? (i := 580) (by decide +kernel)) (by decide +kernel)
theorem k_581 : (Jvm.Cond.code ({ cls := "ReelOffice", name := "nextCardOf", desc := "(I)I" } : Jvm.MethodName) prog_1_method_33_code (2 : Nat) (Option.some Jvm.ClassFile.FieldType.int)) ∈ tb := mem_tb (List.mem_of_getElem? (i := 581) (by decide +kernel)) (by decide +kernel)
theorem k_582 : (Jvm.Cond.methodLink "ReelOffice" (223 : Nat) ({ cls := "ReelOffice", name := "takeFromSources", desc := "()V" } : Jvm.MethodName)) ∈ tb := mem_tb (List.mem_of_getElem? (i := 582) (by decide +kernel)) (by decide +kernel)
theorem k_584 : (Jvm.Cond.instanceMethod ({ cls := "ReelOffice", name := "takeFromSources", desc := "()V" } : Jvm.MethodName)) ∈ tb := mem_tb (List.mem_of_getElem? (i := 584) (by decide +kernel)) (by decide +kernel)
theorem k_585 : (Jvm.Cond.code ({ cls := "ReelOffice", name := "takeFromSources", desc := "()V" } : Jvm.MethodName) prog_1_method_34_code (3 : Nat) (Option.none : Option Jvm.ClassFile.FieldType)) ∈ tb := mem_tb (List.mem_of_getElem? (i := 585) (by decide +kernel)) (by decide +kernel)
theorem k_586 : (Jvm.Cond.methodLink "ReelOffice" (244 : Nat) ({ cls := "ReelOffice$Tape", name := "takeFirstRun", desc := "()V" } : Jvm.MethodName)) ∈ tb := mem_tb (List.mem_of_getElem? (i := 586) (by decide +kernel)) (by decide +kernel)
theorem k_587 : (Jvm.Cond.instanceMethod ({ cls := "ReelOffice$Tape", name := "takeFirstRun", desc := "()V" } : Jvm.MethodName)) ∈ tb := mem_tb (List.mem_of_getElem? (i := 587) (by decide +kernel)) (by decide +kernel)
theorem k_588 : (Jvm.Cond.selects "ReelOffice$Tape" ({ cls := "ReelOffice$Tape", name := "takeFirstRun", desc := "()V" } : Jvm.MethodName) ({ cls := "ReelOffice$Tape", name := "takeFirstRun", desc := "()V" } : Jvm.MethodName)) ∈ tb := mem_tb (List.mem_of_getElem? (i := 588) (by decide +kernel)) (by decide +kernel)
theorem k_589 : (Jvm.Cond.code ({ cls := "ReelOffice$Tape", name := "takeFirstRun", desc := "()V" } : Jvm.MethodName) prog_6_method_13_code (2 : Nat) (Option.none : Option Jvm.ClassFile.FieldType)) ∈ tb := mem_tb (List.mem_of_getElem? (i := 589) (by decide +kernel)) (by decide +kernel)
theorem k_590 : (Jvm.Cond.methodLink "ReelOffice" (226 : Nat) ({ cls := "ReelOffice$Tape", name := "isBare", desc := "()Z" } : Jvm.MethodName)) ∈ tb := mem_tb (List.mem_of_getElem? (i := 590) (by decide +kernel)) (by decide +kernel)
theorem k_591 : (Jvm.Cond.instanceMethod ({ cls := "ReelOffice$Tape", name := "isBare", desc := "()Z" } : Jvm.MethodName)) ∈ tb := mem_tb (List.mem_of_getElem? (i := 591) (by decide +kernel)) (by decide +kernel)
theorem k_592 : (Jvm.Cond.selects "ReelOffice$Tape" ({ cls := "ReelOffice$Tape", name := "isBare", desc := "()Z" } : Jvm.MethodName) ({ cls := "ReelOffice$Tape", name := "isBare", desc := "()Z" } : Jvm.MethodName)) ∈ tb := mem_tb (List.mem_of_getElem? (i := 592) (by decide +kernel)) (by decide +kernel)
theorem k_593 : (Jvm.Cond.code ({ cls := "ReelOffice$Tape", name := "isBare", desc := "()Z" } : Jvm.MethodName) prog_6_method_6_code (1 : Nat) (Option.some Jvm.ClassFile.FieldType.boolean)) ∈ tb := mem_tb (List.mem_of_getElem? (i := 593) (by decide +kernel)) (by decide +kernel)
theorem k_594 : (Jvm.Cond.methodLink "ReelOffice" (229 : Nat) ({ cls := "ReelOffice", name := "endLevel", desc := "()V" } : Jvm.MethodName)) ∈ tb := mem_tb (List.mem_of_getElem? (i := 594) (by decide +kernel)) (by decide +kernel)
theorem k_596 : (Jvm.Cond.instanceMethod ({ cls := "ReelOffice", name := "endLevel", desc := "()V" } : Jvm.MethodName)) ∈ tb := mem_tb (List.mem_of_getElem? (i := 596) (by decide +kernel)) (by decide +kernel)
theorem k_597 : (Jvm.Cond.code ({ cls := "ReelOffice", name := "endLevel", desc := "()V" } : Jvm.MethodName) prog_1_method_35_code (3 : Nat) (Option.none : Option Jvm.ClassFile.FieldType)) ∈ tb := mem_tb (List.mem_of_getElem? (i := 597) (by decide +kernel)) (by decide +kernel)
theorem k_598 : (Jvm.Cond.methodLink "ReelOffice" (247 : Nat) ({ cls := "ReelOffice$Plan", name := "goDown", desc := "()V" } : Jvm.MethodName)) ∈ tb := mem_tb (List.mem_of_getElem? (i := 598) (by decide +kernel)) (by decide +kernel)
theorem k_599 : (Jvm.Cond.instanceMethod ({ cls := "ReelOffice$Plan", name := "goDown", desc := "()V" } : Jvm.MethodName)) ∈ tb := mem_tb (List.mem_of_getElem? (i := 599) (by decide +kernel)) (by decide +kernel)
theorem k_600 : (Jvm.Cond.selects "ReelOffice$Plan" ({ cls := "ReelOffice$Plan", name := "goDown", desc := "()V" } : Jvm.MethodName) ({ cls := "ReelOffice$Plan", name := "goDown", desc := "()V" } : Jvm.MethodName)) ∈ tb := mem_tb (List.mem_of_getElem? (i := 600) (by decide +kernel)) (by decide +kernel)
theorem k_601 : (Jvm.Cond.code ({ cls := "ReelOffice$Plan", name := "goDown", desc := "()V" } : Jvm.MethodName) prog_3_method_4_code (1 : Nat) (Option.none : Option Jvm.ClassFile.FieldType)) ∈ tb := mem_tb (List.mem_of_getElem? (i := 601) (by decide +kernel)) (by decide +kernel)
theorem k_619 : (Jvm.Cond.fieldLink "ReelOfficeModel" (70 : Nat) "ReelOfficeModel" "code" "I") ∈ tb := mem_tb (List.mem_of_getElem? (i := 619) (by decide +kernel)) (by decide +kernel)
theorem k_620 : (Jvm.Cond.fieldLink "ReelOfficeModel" (67 : Nat) "ReelOfficeModel" "size" "I") ∈ tb := mem_tb (List.mem_of_getElem? (i := 620) (by decide +kernel)) (by decide +kernel)
theorem k_621 : (Jvm.Cond.fieldLink "ReelOfficeModel" (76 : Nat) "ReelOfficeModel" "cards" "I") ∈ tb := mem_tb (List.mem_of_getElem? (i := 621) (by decide +kernel)) (by decide +kernel)
theorem k_622 : (Jvm.Cond.fieldLink "ReelOfficeModel" (7 : Nat) "ReelOfficeModel" "fields" "[I") ∈ tb := mem_tb (List.mem_of_getElem? (i := 622) (by decide +kernel)) (by decide +kernel)
theorem k_623 : (Jvm.Cond.fieldLink "ReelOfficeModel" (79 : Nat) "ReelOfficeModel" "parts" "I") ∈ tb := mem_tb (List.mem_of_getElem? (i := 623) (by decide +kernel)) (by decide +kernel)
theorem k_624 : (Jvm.Cond.fieldLink "ReelOfficeModel" (13 : Nat) "ReelOfficeModel" "partFields" "[I") ∈ tb := mem_tb (List.mem_of_getElem? (i := 624) (by decide +kernel)) (by decide +kernel)
theorem k_625 : (Jvm.Cond.fieldLink "ReelOfficeModel" (16 : Nat) "ReelOfficeModel" "ways" "[I") ∈ tb := mem_tb (List.mem_of_getElem? (i := 625) (by decide +kernel)) (by decide +kernel)
theorem k_626 : (Jvm.Cond.fieldLink "ReelOfficeModel" (73 : Nat) "ReelOfficeModel" "phase" "I") ∈ tb := mem_tb (List.mem_of_getElem? (i := 626) (by decide +kernel)) (by decide +kernel)
theorem k_627 : (Jvm.Cond.fieldLink "ReelOfficeModel" (19 : Nat) "ReelOfficeModel" "power" "Z") ∈ tb := mem_tb (List.mem_of_getElem? (i := 627) (by decide +kernel)) (by decide +kernel)
theorem k_628 : (Jvm.Cond.fieldLink "ReelOfficeModel" (23 : Nat) "ReelOfficeModel" "cut" "I") ∈ tb := mem_tb (List.mem_of_getElem? (i := 628) (by decide +kernel)) (by decide +kernel)
theorem k_629 : (Jvm.Cond.fieldLink "ReelOfficeModel" (114 : Nat) "ReelOfficeModel" "written" "I") ∈ tb := mem_tb (List.mem_of_getElem? (i := 629) (by decide +kernel)) (by decide +kernel)
theorem k_630 : (Jvm.Cond.fieldLink "ReelOfficeModel" (117 : Nat) "ReelOfficeModel" "broken" "I") ∈ tb := mem_tb (List.mem_of_getElem? (i := 630) (by decide +kernel)) (by decide +kernel)
theorem k_631 : (Jvm.Cond.fieldLink "ReelOfficeModel" (27 : Nat) "ReelOfficeModel" "faults" "[I") ∈ tb := mem_tb (List.mem_of_getElem? (i := 631) (by decide +kernel)) (by decide +kernel)
theorem k_632 : (Jvm.Cond.fieldLink "ReelOfficeModel" (96 : Nat) "ReelOfficeModel" "held" "I") ∈ tb := mem_tb (List.mem_of_getElem? (i := 632) (by decide +kernel)) (by decide +kernel)
theorem k_633 : (Jvm.Cond.fieldLink "ReelOfficeModel" (30 : Nat) "ReelOfficeModel" "memory" "[I") ∈ tb := mem_tb (List.mem_of_getElem? (i := 633) (by decide +kernel)) (by decide +kernel)
theorem k_634 : (Jvm.Cond.fieldLink "ReelOfficeModel" (33 : Nat) "ReelOfficeModel" "later" "[Z") ∈ tb := mem_tb (List.mem_of_getElem? (i := 634) (by decide +kernel)) (by decide +kernel)
theorem k_635 : (Jvm.Cond.fieldLink "ReelOfficeModel" (99 : Nat) "ReelOfficeModel" "next" "I") ∈ tb := mem_tb (List.mem_of_getElem? (i := 635) (by decide +kernel)) (by decide +kernel)
theorem k_636 : (Jvm.Cond.fieldLink "ReelOfficeModel" (102 : Nat) "ReelOfficeModel" "made" "I") ∈ tb := mem_tb (List.mem_of_getElem? (i := 636) (by decide +kernel)) (by decide +kernel)
theorem k_637 : (Jvm.Cond.fieldLink "ReelOfficeModel" (37 : Nat) "ReelOfficeModel" "numbers" "[I") ∈ tb := mem_tb (List.mem_of_getElem? (i := 637) (by decide +kernel)) (by decide +kernel)
theorem k_638 : (Jvm.Cond.fieldLink "ReelOfficeModel" (105 : Nat) "ReelOfficeModel" "level" "I") ∈ tb := mem_tb (List.mem_of_getElem? (i := 638) (by decide +kernel)) (by decide +kernel)
theorem k_639 : (Jvm.Cond.fieldLink "ReelOfficeModel" (108 : Nat) "ReelOfficeModel" "place" "I") ∈ tb := mem_tb (List.mem_of_getElem? (i := 639) (by decide +kernel)) (by decide +kernel)
theorem k_640 : (Jvm.Cond.fieldLink "ReelOfficeModel" (40 : Nat) "ReelOfficeModel" "tapes" "[I") ∈ tb := mem_tb (List.mem_of_getElem? (i := 640) (by decide +kernel)) (by decide +kernel)
theorem k_641 : (Jvm.Cond.fieldLink "ReelOfficeModel" (43 : Nat) "ReelOfficeModel" "lengths" "[I") ∈ tb := mem_tb (List.mem_of_getElem? (i := 641) (by decide +kernel)) (by decide +kernel)
theorem k_642 : (Jvm.Cond.fieldLink "ReelOfficeModel" (46 : Nat) "ReelOfficeModel" "runs" "[I") ∈ tb := mem_tb (List.mem_of_getElem? (i := 642) (by decide +kernel)) (by decide +kernel)
theorem k_643 : (Jvm.Cond.fieldLink "ReelOfficeModel" (49 : Nat) "ReelOfficeModel" "dummies" "[I") ∈ tb := mem_tb (List.mem_of_getElem? (i := 643) (by decide +kernel)) (by decide +kernel)
theorem k_644 : (Jvm.Cond.fieldLink "ReelOfficeModel" (52 : Nat) "ReelOfficeModel" "roles" "[I") ∈ tb := mem_tb (List.mem_of_getElem? (i := 644) (by decide +kernel)) (by decide +kernel)
theorem k_645 : (Jvm.Cond.fieldLink "ReelOfficeModel" (123 : Nat) "ReelOfficeModel" "asideHeld" "I") ∈ tb := mem_tb (List.mem_of_getElem? (i := 645) (by decide +kernel)) (by decide +kernel)
theorem k_646 : (Jvm.Cond.fieldLink "ReelOfficeModel" (55 : Nat) "ReelOfficeModel" "asideMemory" "[I") ∈ tb := mem_tb (List.mem_of_getElem? (i := 646) (by decide +kernel)) (by decide +kernel)
theorem k_647 : (Jvm.Cond.fieldLink "ReelOfficeModel" (58 : Nat) "ReelOfficeModel" "asideLater" "[Z") ∈ tb := mem_tb (List.mem_of_getElem? (i := 647) (by decide +kernel)) (by decide +kernel)
theorem k_648 : (Jvm.Cond.fieldLink "ReelOfficeModel" (126 : Nat) "ReelOfficeModel" "asideNext" "I") ∈ tb := mem_tb (List.mem_of_getElem? (i := 648) (by decide +kernel)) (by decide +kernel)
theorem k_649 : (Jvm.Cond.fieldLink "ReelOfficeModel" (120 : Nat) "ReelOfficeModel" "count" "I") ∈ tb := mem_tb (List.mem_of_getElem? (i := 649) (by decide +kernel)) (by decide +kernel)
theorem k_650 : (Jvm.Cond.fieldLink "ReelOfficeModel" (61 : Nat) "ReelOfficeModel" "run" "[I") ∈ tb := mem_tb (List.mem_of_getElem? (i := 650) (by decide +kernel)) (by decide +kernel)
theorem k_651 : (Jvm.Cond.fieldLink "ReelOfficeModel" (64 : Nat) "ReelOfficeModel" "heads" "[I") ∈ tb := mem_tb (List.mem_of_getElem? (i := 651) (by decide +kernel)) (by decide +kernel)
theorem k_735 : (Jvm.Cond.methodLink "ReelOfficeModel" (88 : Nat) ({ cls := "ReelOfficeModel", name := "isCard", desc := "(I)Z" } : Jvm.MethodName)) ∈ tb := mem_tb (List.mem_of_getElem? (i := 735) (by decide +kernel)) (by decide +kernel)
theorem k_737 : (Jvm.Cond.instanceMethod ({ cls := "ReelOfficeModel", name := "isCard", desc := "(I)Z" } : Jvm.MethodName)) ∈ tb := mem_tb (List.mem_of_getElem? (i := 737) (by decide +kernel)) (by decide +kernel)
theorem k_738 : (Jvm.Cond.code ({ cls := "ReelOfficeModel", name := "isCard", desc := "(I)Z" } : Jvm.MethodName) prog_9_method_7_code (2 : Nat) (Option.some Jvm.ClassFile.FieldType.boolean)) ∈ tb := mem_tb (List.mem_of_getElem? (i := 738) (by decide +kernel)) (by decide +kernel)
theorem k_739 : (Jvm.Cond.methodLink "ReelOfficeModel" (92 : Nat) ({ cls := "ReelOfficeModel", name := "comesFirst", desc := "(II)Z" } : Jvm.MethodName)) ∈ tb := mem_tb (List.mem_of_getElem? (i := 739) (by decide +kernel)) (by decide +kernel)
theorem k_741 : (Jvm.Cond.instanceMethod ({ cls := "ReelOfficeModel", name := "comesFirst", desc := "(II)Z" } : Jvm.MethodName)) ∈ tb := mem_tb (List.mem_of_getElem? (i := 741) (by decide +kernel)) (by decide +kernel)
theorem k_742 : (Jvm.Cond.code ({ cls := "ReelOfficeModel", name := "comesFirst", desc := "(II)Z" } : Jvm.MethodName) prog_9_method_6_code (8 : Nat) (Option.some Jvm.ClassFile.FieldType.boolean)) ∈ tb := mem_tb (List.mem_of_getElem? (i := 742) (by decide +kernel)) (by decide +kernel)
theorem k_743 : (Jvm.Cond.methodLink "ReelOfficeModel" (84 : Nat) ({ cls := "ReelOfficeModel", name := "standing", desc := "(II)J" } : Jvm.MethodName)) ∈ tb := mem_tb (List.mem_of_getElem? (i := 743) (by decide +kernel)) (by decide +kernel)
theorem k_744 : (Jvm.Cond.static ({ cls := "ReelOfficeModel", name := "standing", desc := "(II)J" } : Jvm.MethodName)) ∈ tb := mem_tb (List.mem_of_getElem? (i := 744) (by decide +kernel)) (by decide +kernel)
theorem k_745 : (Jvm.Cond.code ({ cls := "ReelOfficeModel", name := "standing", desc := "(II)J" } : Jvm.MethodName) prog_9_method_5_code (2 : Nat) (Option.some Jvm.ClassFile.FieldType.long)) ∈ tb := mem_tb (List.mem_of_getElem? (i := 745) (by decide +kernel)) (by decide +kernel)
theorem k_746 : (Jvm.Cond.constantLong "ReelOfficeModel" (82 : Nat) (4294967295 : Int64)) ∈ tb := mem_tb (List.mem_of_getElem? (i := 746) (by decide +kernel)) (by decide +kernel)
theorem k_755 : (Jvm.Cond.methodLink "ReelOfficeModel" (111 : Nat) ({ cls := "ReelOfficeModel", name := "reset", desc := "()V" } : Jvm.MethodName)) ∈ tb := mem_tb (List.mem_of_getElem? (i := 755) (by decide +kernel)) (by decide +kernel)
theorem k_757 : (Jvm.Cond.instanceMethod ({ cls := "ReelOfficeModel", name := "reset", desc := "()V" } : Jvm.MethodName)) ∈ tb := mem_tb (List.mem_of_getElem? (i := 757) (by decide +kernel)) (by decide +kernel)
theorem k_758 : (Jvm.Cond.code ({ cls := "ReelOfficeModel", name := "reset", desc := "()V" } : Jvm.MethodName) prog_9_method_10_code (2 : Nat) (Option.none : Option Jvm.ClassFile.FieldType)) ∈ tb := mem_tb (List.mem_of_getElem? (i := 758) (by decide +kernel)) (by decide +kernel)
theorem k_767 : (Jvm.Cond.methodLink "ReelOfficeModel" (169 : Nat) ({ cls := "ReelOfficeModel", name := "lay", desc := "()Z" } : Jvm.MethodName)) ∈ tb := mem_tb (List.mem_of_getElem? (i := 767) (by decide +kernel)) (by decide +kernel)
theorem k_769 : (Jvm.Cond.instanceMethod ({ cls := "ReelOfficeModel", name := "lay", desc := "()Z" } : Jvm.MethodName)) ∈ tb := mem_tb (List.mem_of_getElem? (i := 769) (by decide +kernel)) (by decide +kernel)
theorem k_770 : (Jvm.Cond.code ({ cls := "ReelOfficeModel", name := "lay", desc := "()Z" } : Jvm.MethodName) prog_9_method_22_code (1 : Nat) (Option.some Jvm.ClassFile.FieldType.boolean)) ∈ tb := mem_tb (List.mem_of_getElem? (i := 770) (by decide +kernel)) (by decide +kernel)
theorem k_771 : (Jvm.Cond.methodLink "ReelOfficeModel" (140 : Nat) ({ cls := "ReelOfficeModel", name := "putAside", desc := "()V" } : Jvm.MethodName)) ∈ tb := mem_tb (List.mem_of_getElem? (i := 771) (by decide +kernel)) (by decide +kernel)
theorem k_773 : (Jvm.Cond.instanceMethod ({ cls := "ReelOfficeModel", name := "putAside", desc := "()V" } : Jvm.MethodName)) ∈ tb := mem_tb (List.mem_of_getElem? (i := 773) (by decide +kernel)) (by decide +kernel)
theorem k_774 : (Jvm.Cond.code ({ cls := "ReelOfficeModel", name := "putAside", desc := "()V" } : Jvm.MethodName) prog_9_method_15_code (2 : Nat) (Option.none : Option Jvm.ClassFile.FieldType)) ∈ tb := mem_tb (List.mem_of_getElem? (i := 774) (by decide +kernel)) (by decide +kernel)
theorem k_775 : (Jvm.Cond.methodLink "ReelOfficeModel" (143 : Nat) ({ cls := "ReelOfficeModel", name := "makeRun", desc := "()Z" } : Jvm.MethodName)) ∈ tb := mem_tb (List.mem_of_getElem? (i := 775) (by decide +kernel)) (by decide +kernel)
theorem k_777 : (Jvm.Cond.instanceMethod ({ cls := "ReelOfficeModel", name := "makeRun", desc := "()Z" } : Jvm.MethodName)) ∈ tb := mem_tb (List.mem_of_getElem? (i := 777) (by decide +kernel)) (by decide +kernel)
theorem k_778 : (Jvm.Cond.code ({ cls := "ReelOfficeModel", name := "makeRun", desc := "()Z" } : Jvm.MethodName) prog_9_method_17_code (3 : Nat) (Option.some Jvm.ClassFile.FieldType.boolean)) ∈ tb := mem_tb (List.mem_of_getElem? (i := 778) (by decide +kernel)) (by decide +kernel)
theorem k_779 : (Jvm.Cond.methodLink "ReelOfficeModel" (129 : Nat) ({ cls := "ReelOfficeModel", name := "first", desc := "()I" } : Jvm.MethodName)) ∈ tb := mem_tb (List.mem_of_getElem? (i := 779) (by decide +kernel)) (by decide +kernel)
theorem k_781 : (Jvm.Cond.instanceMethod ({ cls := "ReelOfficeModel", name := "first", desc := "()I" } : Jvm.MethodName)) ∈ tb := mem_tb (List.mem_of_getElem? (i := 781) (by decide +kernel)) (by decide +kernel)
theorem k_782 : (Jvm.Cond.code ({ cls := "ReelOfficeModel", name := "first", desc := "()I" } : Jvm.MethodName) prog_9_method_14_code (3 : Nat) (Option.some Jvm.ClassFile.FieldType.int)) ∈ tb := mem_tb (List.mem_of_getElem? (i := 782) (by decide +kernel)) (by decide +kernel)
theorem k_783 : (Jvm.Cond.methodLink "ReelOfficeModel" (133 : Nat) ({ cls := "ReelOfficeModel", name := "write", desc := "(I)Z" } : Jvm.MethodName)) ∈ tb := mem_tb (List.mem_of_getElem? (i := 783) (by decide +kernel)) (by decide +kernel)
theorem k_785 : (Jvm.Cond.instanceMethod ({ cls := "ReelOfficeModel", name := "write", desc := "(I)Z" } : Jvm.MethodName)) ∈ tb := mem_tb (List.mem_of_getElem? (i := 785) (by decide +kernel)) (by decide +kernel)
theorem k_786 : (Jvm.Cond.code ({ cls := "ReelOfficeModel", name := "write", desc := "(I)Z" } : Jvm.MethodName) prog_9_method_13_code (2 : Nat) (Option.some Jvm.ClassFile.FieldType.boolean)) ∈ tb := mem_tb (List.mem_of_getElem? (i := 786) (by decide +kernel)) (by decide +kernel)
theorem k_787 : (Jvm.Cond.methodLink "ReelOfficeModel" (147 : Nat) ({ cls := "ReelOfficeModel", name := "takeBack", desc := "()V" } : Jvm.MethodName)) ∈ tb := mem_tb (List.mem_of_getElem? (i := 787) (by decide +kernel)) (by decide +kernel)
theorem k_789 : (Jvm.Cond.instanceMethod ({ cls := "ReelOfficeModel", name := "takeBack", desc := "()V" } : Jvm.MethodName)) ∈ tb := mem_tb (List.mem_of_getElem? (i := 789) (by decide +kernel)) (by decide +kernel)
theorem k_790 : (Jvm.Cond.code ({ cls := "ReelOfficeModel", name := "takeBack", desc := "()V" } : Jvm.MethodName) prog_9_method_16_code (2 : Nat) (Option.none : Option Jvm.ClassFile.FieldType)) ∈ tb := mem_tb (List.mem_of_getElem? (i := 790) (by decide +kernel)) (by decide +kernel)
theorem k_791 : (Jvm.Cond.methodLink "ReelOfficeModel" (150 : Nat) ({ cls := "ReelOfficeModel", name := "findPlace", desc := "()V" } : Jvm.MethodName)) ∈ tb := mem_tb (List.mem_of_getElem? (i := 791) (by decide +kernel)) (by decide +kernel)
theorem k_793 : (Jvm.Cond.instanceMethod ({ cls := "ReelOfficeModel", name := "findPlace", desc := "()V" } : Jvm.MethodName)) ∈ tb := mem_tb (List.mem_of_getElem? (i := 793) (by decide +kernel)) (by decide +kernel)
theorem k_794 : (Jvm.Cond.code ({ cls := "ReelOfficeModel", name := "findPlace", desc := "()V" } : Jvm.MethodName) prog_9_method_18_code (4 : Nat) (Option.none : Option Jvm.ClassFile.FieldType)) ∈ tb := mem_tb (List.mem_of_getElem? (i := 794) (by decide +kernel)) (by decide +kernel)
theorem k_795 : (Jvm.Cond.methodLink "ReelOfficeModel" (153 : Nat) ({ cls := "ReelOfficeModel", name := "append", desc := "(I)V" } : Jvm.MethodName)) ∈ tb := mem_tb (List.mem_of_getElem? (i := 795) (by decide +kernel)) (by decide +kernel)
theorem k_797 : (Jvm.Cond.instanceMethod ({ cls := "ReelOfficeModel", name := "append", desc := "(I)V" } : Jvm.MethodName)) ∈ tb := mem_tb (List.mem_of_getElem? (i := 797) (by decide +kernel)) (by decide +kernel)
theorem k_798 : (Jvm.Cond.code ({ cls := "ReelOfficeModel", name := "append", desc := "(I)V" } : Jvm.MethodName) prog_9_method_20_code (4 : Nat) (Option.none : Option Jvm.ClassFile.FieldType)) ∈ tb := mem_tb (List.mem_of_getElem? (i := 798) (by decide +kernel)) (by decide +kernel)
theorem k_799 : (Jvm.Cond.methodLink "ReelOfficeModel" (136 : Nat) ({ cls := "ReelOfficeModel", name := "cardsOn", desc := "(I)I" } : Jvm.MethodName)) ∈ tb := mem_tb (List.mem_of_getElem? (i := 799) (by decide +kernel)) (by decide +kernel)
theorem k_801 : (Jvm.Cond.instanceMethod ({ cls := "ReelOfficeModel", name := "cardsOn", desc := "(I)I" } : Jvm.MethodName)) ∈ tb := mem_tb (List.mem_of_getElem? (i := 801) (by decide +kernel)) (by decide +kernel)
theorem k_802 : (Jvm.Cond.code ({ cls := "ReelOfficeModel", name := "cardsOn", desc := "(I)I" } : Jvm.MethodName) prog_9_method_19_code (4 : Nat) (Option.some Jvm.ClassFile.FieldType.int)) ∈ tb := mem_tb (List.mem_of_getElem? (i := 802) (by decide +kernel)) (by decide +kernel)
theorem k_803 : (Jvm.Cond.methodLink "ReelOfficeModel" (172 : Nat) ({ cls := "ReelOfficeModel", name := "merge", desc := "()Z" } : Jvm.MethodName)) ∈ tb := mem_tb (List.mem_of_getElem? (i := 803) (by decide +kernel)) (by decide +kernel)
theorem k_805 : (Jvm.Cond.instanceMethod ({ cls := "ReelOfficeModel", name := "merge", desc := "()Z" } : Jvm.MethodName)) ∈ tb := mem_tb (List.mem_of_getElem? (i := 805) (by decide +kernel)) (by decide +kernel)
theorem k_806 : (Jvm.Cond.code ({ cls := "ReelOfficeModel", name := "merge", desc := "()Z" } : Jvm.MethodName) prog_9_method_26_code (4 : Nat) (Option.some Jvm.ClassFile.FieldType.boolean)) ∈ tb := mem_tb (List.mem_of_getElem? (i := 806) (by decide +kernel)) (by decide +kernel)
theorem k_807 : (Jvm.Cond.methodLink "ReelOfficeModel" (157 : Nat) ({ cls := "ReelOfficeModel", name := "isReadable", desc := "()Z" } : Jvm.MethodName)) ∈ tb := mem_tb (List.mem_of_getElem? (i := 807) (by decide +kernel)) (by decide +kernel)
theorem k_809 : (Jvm.Cond.instanceMethod ({ cls := "ReelOfficeModel", name := "isReadable", desc := "()Z" } : Jvm.MethodName)) ∈ tb := mem_tb (List.mem_of_getElem? (i := 809) (by decide +kernel)) (by decide +kernel)
theorem k_810 : (Jvm.Cond.code ({ cls := "ReelOfficeModel", name := "isReadable", desc := "()Z" } : Jvm.MethodName) prog_9_method_23_code (4 : Nat) (Option.some Jvm.ClassFile.FieldType.boolean)) ∈ tb := mem_tb (List.mem_of_getElem? (i := 810) (by decide +kernel)) (by decide +kernel)
theorem k_811 : (Jvm.Cond.methodLink "ReelOfficeModel" (160 : Nat) ({ cls := "ReelOfficeModel", name := "mergeRuns", desc := "()Z" } : Jvm.MethodName)) ∈ tb := mem_tb (List.mem_of_getElem? (i := 811) (by decide +kernel)) (by decide +kernel)
theorem k_813 : (Jvm.Cond.instanceMethod ({ cls := "ReelOfficeModel", name := "mergeRuns", desc := "()Z" } : Jvm.MethodName)) ∈ tb := mem_tb (List.mem_of_getElem? (i := 813) (by decide +kernel)) (by decide +kernel)
theorem k_814 : (Jvm.Cond.code ({ cls := "ReelOfficeModel", name := "mergeRuns", desc := "()Z" } : Jvm.MethodName) prog_9_method_24_code (7 : Nat) (Option.some Jvm.ClassFile.FieldType.boolean)) ∈ tb := mem_tb (List.mem_of_getElem? (i := 814) (by decide +kernel)) (by decide +kernel)
theorem k_815 : (Jvm.Cond.methodLink "ReelOfficeModel" (163 : Nat) ({ cls := "ReelOfficeModel", name := "takeOff", desc := "(I)V" } : Jvm.MethodName)) ∈ tb := mem_tb (List.mem_of_getElem? (i := 815) (by decide +kernel)) (by decide +kernel)
theorem k_817 : (Jvm.Cond.instanceMethod ({ cls := "ReelOfficeModel", name := "takeOff", desc := "(I)V" } : Jvm.MethodName)) ∈ tb := mem_tb (List.mem_of_getElem? (i := 817) (by decide +kernel)) (by decide +kernel)
theorem k_818 : (Jvm.Cond.code ({ cls := "ReelOfficeModel", name := "takeOff", desc := "(I)V" } : Jvm.MethodName) prog_9_method_21_code (5 : Nat) (Option.none : Option Jvm.ClassFile.FieldType)) ∈ tb := mem_tb (List.mem_of_getElem? (i := 818) (by decide +kernel)) (by decide +kernel)
theorem k_819 : (Jvm.Cond.methodLink "ReelOfficeModel" (166 : Nat) ({ cls := "ReelOfficeModel", name := "turn", desc := "()V" } : Jvm.MethodName)) ∈ tb := mem_tb (List.mem_of_getElem? (i := 819) (by decide +kernel)) (by decide +kernel)
theorem k_821 : (Jvm.Cond.instanceMethod ({ cls := "ReelOfficeModel", name := "turn", desc := "()V" } : Jvm.MethodName)) ∈ tb := mem_tb (List.mem_of_getElem? (i := 821) (by decide +kernel)) (by decide +kernel)
theorem k_822 : (Jvm.Cond.code ({ cls := "ReelOfficeModel", name := "turn", desc := "()V" } : Jvm.MethodName) prog_9_method_25_code (2 : Nat) (Option.none : Option Jvm.ClassFile.FieldType)) ∈ tb := mem_tb (List.mem_of_getElem? (i := 822) (by decide +kernel)) (by decide +kernel)
theorem k_827 : (Jvm.Cond.methodLink "ReelOfficeModel" (175 : Nat) ({ cls := "ReelOfficeModel", name := "isTape", desc := "(I)Z" } : Jvm.MethodName)) ∈ tb := mem_tb (List.mem_of_getElem? (i := 827) (by decide +kernel)) (by decide +kernel)
theorem k_828 : (Jvm.Cond.static ({ cls := "ReelOfficeModel", name := "isTape", desc := "(I)Z" } : Jvm.MethodName)) ∈ tb := mem_tb (List.mem_of_getElem? (i := 828) (by decide +kernel)) (by decide +kernel)
theorem k_829 : (Jvm.Cond.code ({ cls := "ReelOfficeModel", name := "isTape", desc := "(I)Z" } : Jvm.MethodName) prog_9_method_28_code (1 : Nat) (Option.some Jvm.ClassFile.FieldType.boolean)) ∈ tb := mem_tb (List.mem_of_getElem? (i := 829) (by decide +kernel)) (by decide +kernel)
theorem k_863 : (Jvm.Cond.instanceMethod ({ cls := "ReelOfficeModel", name := "at", desc := "(III)I" } : Jvm.MethodName)) ∈ tb := mem_tb (List.mem_of_getElem? (i := 863) (by decide +kernel)) (by decide +kernel)
theorem k_864 : (Jvm.Cond.selects "ReelOfficeModel" ({ cls := "ReelOfficeModel", name := "at", desc := "(III)I" } : Jvm.MethodName) ({ cls := "ReelOfficeModel", name := "at", desc := "(III)I" } : Jvm.MethodName)) ∈ tb := mem_tb (List.mem_of_getElem? (i := 864) (by decide +kernel)) (by decide +kernel)
theorem k_865 : (Jvm.Cond.code ({ cls := "ReelOfficeModel", name := "at", desc := "(III)I" } : Jvm.MethodName) prog_9_method_38_code (6 : Nat) (Option.some Jvm.ClassFile.FieldType.int)) ∈ tb := mem_tb (List.mem_of_getElem? (i := 865) (by decide +kernel)) (by decide +kernel)
theorem k_882 : (Jvm.Cond.methodLink "ReelOfficeModel" (178 : Nat) ({ cls := "ReelOfficeModel", name := "at", desc := "(III)I" } : Jvm.MethodName)) ∈ tb := mem_tb (List.mem_of_getElem? (i := 882) (by decide +kernel)) (by decide +kernel)
theorem ks_O_tapeInRole : Cond.selects R_O y_O_tapeInRole y_O_tapeInRole ∈ tb := mem_tbs (List.mem_map.mpr ⟨(y_O_tapeInRole, 12), by decide +kernel, rfl⟩) (by decide +kernel)
theorem ks_O_writeRunFromTrial : Cond.selects R_O y_O_writeRunFromTrial y_O_writeRunFromTrial ∈ tb := mem_tbs (List.mem_map.mpr ⟨(y_O_writeRunFromTrial, 12), by decide +kernel, rfl⟩) (by decide +kernel)
theorem ks_P_growTo : Cond.selects R_P y_P_growTo y_P_growTo ∈ tb := mem_tbs (List.mem_map.mpr ⟨(y_P_growTo, 3), by decide +kernel, rfl⟩) (by decide +kernel)
theorem ks_P_goUp : Cond.selects R_P y_P_goUp y_P_goUp ∈ tb := mem_tbs (List.mem_map.mpr ⟨(y_P_goUp, 3), by decide +kernel, rfl⟩) (by decide +kernel)
theorem ks_O_takeFromSources : Cond.selects R_O y_O_takeFromSources y_O_takeFromSources ∈ tb := mem_tbs (List.mem_map.mpr ⟨(y_O_takeFromSources, 12), by decide +kernel, rfl⟩) (by decide +kernel)
theorem ks_O_endLevel : Cond.selects R_O y_O_endLevel y_O_endLevel ∈ tb := mem_tbs (List.mem_map.mpr ⟨(y_O_endLevel, 12), by decide +kernel, rfl⟩) (by decide +kernel)
theorem ks_O_everySourceHasDummy : Cond.selects R_O y_O_everySourceHasDummy y_O_everySourceHasDummy ∈ tb := mem_tbs (List.mem_map.mpr ⟨(y_O_everySourceHasDummy, 12), by decide +kernel, rfl⟩) (by decide +kernel)
theorem ks_O_sourcesCanBeRead : Cond.selects R_O y_O_sourcesCanBeRead y_O_sourcesCanBeRead ∈ tb := mem_tbs (List.mem_map.mpr ⟨(y_O_sourcesCanBeRead, 12), by decide +kernel, rfl⟩) (by decide +kernel)
theorem ks_O_nextCardOf : Cond.selects R_O y_O_nextCardOf y_O_nextCardOf ∈ tb := mem_tbs (List.mem_map.mpr ⟨(y_O_nextCardOf, 12), by decide +kernel, rfl⟩) (by decide +kernel)
theorem ks_O_sourceOfFirstCard : Cond.selects R_O y_O_sourceOfFirstCard y_O_sourceOfFirstCard ∈ tb := mem_tbs (List.mem_map.mpr ⟨(y_O_sourceOfFirstCard, 12), by decide +kernel, rfl⟩) (by decide +kernel)
theorem ks_O_writeMergedRun : Cond.selects R_O y_O_writeMergedRun y_O_writeMergedRun ∈ tb := mem_tbs (List.mem_map.mpr ⟨(y_O_writeMergedRun, 12), by decide +kernel, rfl⟩) (by decide +kernel)
theorem ks_M_isCard : Cond.selects R_M y_M_isCard y_M_isCard ∈ tb := mem_tbs (List.mem_map.mpr ⟨(y_M_isCard, 33), by decide +kernel, rfl⟩) (by decide +kernel)
theorem ks_M_comesFirst : Cond.selects R_M y_M_comesFirst y_M_comesFirst ∈ tb := mem_tbs (List.mem_map.mpr ⟨(y_M_comesFirst, 33), by decide +kernel, rfl⟩) (by decide +kernel)
theorem ks_M_reset : Cond.selects R_M y_M_reset y_M_reset ∈ tb := mem_tbs (List.mem_map.mpr ⟨(y_M_reset, 33), by decide +kernel, rfl⟩) (by decide +kernel)
theorem ks_M_write : Cond.selects R_M y_M_write y_M_write ∈ tb := mem_tbs (List.mem_map.mpr ⟨(y_M_write, 33), by decide +kernel, rfl⟩) (by decide +kernel)
theorem ks_M_first : Cond.selects R_M y_M_first y_M_first ∈ tb := mem_tbs (List.mem_map.mpr ⟨(y_M_first, 33), by decide +kernel, rfl⟩) (by decide +kernel)
theorem ks_M_cardsOn : Cond.selects R_M y_M_cardsOn y_M_cardsOn ∈ tb := mem_tbs (List.mem_map.mpr ⟨(y_M_cardsOn, 33), by decide +kernel, rfl⟩) (by decide +kernel)
theorem ks_M_append : Cond.selects R_M y_M_append y_M_append ∈ tb := mem_tbs (List.mem_map.mpr ⟨(y_M_append, 33), by decide +kernel, rfl⟩) (by decide +kernel)
theorem ks_M_putAside : Cond.selects R_M y_M_putAside y_M_putAside ∈ tb := mem_tbs (List.mem_map.mpr ⟨(y_M_putAside, 33), by decide +kernel, rfl⟩) (by decide +kernel)
theorem ks_M_makeRun : Cond.selects R_M y_M_makeRun y_M_makeRun ∈ tb := mem_tbs (List.mem_map.mpr ⟨(y_M_makeRun, 33), by decide +kernel, rfl⟩) (by decide +kernel)
theorem ks_M_takeBack : Cond.selects R_M y_M_takeBack y_M_takeBack ∈ tb := mem_tbs (List.mem_map.mpr ⟨(y_M_takeBack, 33), by decide +kernel, rfl⟩) (by decide +kernel)
theorem ks_M_findPlace : Cond.selects R_M y_M_findPlace y_M_findPlace ∈ tb := mem_tbs (List.mem_map.mpr ⟨(y_M_findPlace, 33), by decide +kernel, rfl⟩) (by decide +kernel)
theorem ks_M_turn : Cond.selects R_M y_M_turn y_M_turn ∈ tb := mem_tbs (List.mem_map.mpr ⟨(y_M_turn, 33), by decide +kernel, rfl⟩) (by decide +kernel)
theorem ks_M_takeOff : Cond.selects R_M y_M_takeOff y_M_takeOff ∈ tb := mem_tbs (List.mem_map.mpr ⟨(y_M_takeOff, 33), by decide +kernel, rfl⟩) (by decide +kernel)
theorem ks_M_isReadable : Cond.selects R_M y_M_isReadable y_M_isReadable ∈ tb := mem_tbs (List.mem_map.mpr ⟨(y_M_isReadable, 33), by decide +kernel, rfl⟩) (by decide +kernel)
theorem ks_M_mergeRuns : Cond.selects R_M y_M_mergeRuns y_M_mergeRuns ∈ tb := mem_tbs (List.mem_map.mpr ⟨(y_M_mergeRuns, 33), by decide +kernel, rfl⟩) (by decide +kernel)
theorem ks_M_merge : Cond.selects R_M y_M_merge y_M_merge ∈ tb := mem_tbs (List.mem_map.mpr ⟨(y_M_merge, 33), by decide +kernel, rfl⟩) (by decide +kernel)
theorem ks_M_lay : Cond.selects R_M y_M_lay y_M_lay ∈ tb := mem_tbs (List.mem_map.mpr ⟨(y_M_lay, 33), by decide +kernel, rfl⟩) (by decide +kernel)
def nwW (U : State) : Prop := va_Nw (Jvm.Cond.methodLinkNest "ReelOffice" (9 : Nat) ({ cls := "ReelOffice$Deck", name := "<init>", desc := "()V" } : Jvm.MethodName) "ReelOffice") U ∧ va_Nw (Jvm.Cond.methodLinkNest "ReelOffice" (18 : Nat) ({ cls := "ReelOffice$Plan", name := "<init>", desc := "()V" } : Jvm.MethodName) "ReelOffice") U ∧ va_Nw (Jvm.Cond.methodLinkNest "ReelOffice" (25 : Nat) ({ cls := "ReelOffice$Writer", name := "<init>", desc := "()V" } : Jvm.MethodName) "ReelOffice") U ∧ va_Nw (Jvm.Cond.methodLinkNest "ReelOffice" (32 : Nat) ({ cls := "ReelOffice$Row", name := "<init>", desc := "()V" } : Jvm.MethodName) "ReelOffice") U ∧ va_Nw (Jvm.Cond.fieldLinkNest "ReelOffice$Tape" (40 : Nat) "ReelOffice$Row" "cards" "[I" "ReelOffice") U ∧ va_Nw (Jvm.Cond.fieldLinkNest "ReelOffice$Tape" (35 : Nat) "ReelOffice$Row" "size" "I" "ReelOffice") U ∧ va_Nw (Jvm.Cond.methodLinkNest "ReelOffice" (72 : Nat) ({ cls := "ReelOffice$Tape", name := "<init>", desc := "()V" } : Jvm.MethodName) "ReelOffice") U ∧ va_Nw (Jvm.Cond.methodLinkNest "ReelOffice$Deck" (41 : Nat) ({ cls := "ReelOffice", name := "isField", desc := "(I)Z" } : Jvm.MethodName) "ReelOffice") U
theorem nw_warm {s U : State} (hW : s.WarmedH U.vm) (h : nwW s) : nwW U := by
  obtain ⟨h0, h1, h2, h3, h4, h5, h6, h7⟩ := h
  exact ⟨va_Nw.warmM hW h0, va_Nw.warmM hW h1, va_Nw.warmM hW h2, va_Nw.warmM hW h3, va_Nw.warmF hW h4, va_Nw.warmF hW h5, va_Nw.warmM hW h6, va_Nw.warmM hW h7⟩
theorem nw_same {u U : State} (e : u.vm = U.vm) (h : nwW u) : nwW U := by
  obtain ⟨h0, h1, h2, h3, h4, h5, h6, h7⟩ := h
  exact ⟨va_Nw.same rfl e h0, va_Nw.same rfl e h1, va_Nw.same rfl e h2, va_Nw.same rfl e h3, va_Nw.same rfl e h4, va_Nw.same rfl e h5, va_Nw.same rfl e h6, va_Nw.same rfl e h7⟩
theorem in_O : ∀ w ∈ u_ws R_O F_O 12, w ∈ tb := by decide +kernel
theorem in_D : ∀ w ∈ u_ws R_D F_D 5, w ∈ tb := by decide +kernel
theorem in_S : ∀ w ∈ u_ws R_S F_S 5, w ∈ tb := by decide +kernel
theorem in_P : ∀ w ∈ u_ws R_P F_P 3, w ∈ tb := by decide +kernel
theorem in_V : ∀ w ∈ u_ws R_V F_V 4, w ∈ tb := by decide +kernel
theorem in_R : ∀ w ∈ u_ws R_R F_R 2, w ∈ tb := by decide +kernel
theorem in_T : ∀ w ∈ u_ws R_T F_T 6, w ∈ tb := by decide +kernel
theorem in_M : ∀ w ∈ u_ws R_M F_M 33, w ∈ tb := by decide +kernel
end
section
def wX (ad : Nat → Nat → Nat) (cs : Nat → ClassId) (σ : SX) : va_W := [(ad 0 0, .inr (0, [.ref (ad 1 0), .ref (ad 2 0), .ref (ad 3 0), .ref (ad 4 0), .ref (ad 5 0), .ref (ad 6 0), .ref (ad 0 9), .ref (ad 0 1), .ref (ad 0 2), .ref (ad 0 3), .int ((σ 0).1 0), .int ((σ 0).1 1)])),
  (ad 1 0, .inr (1, [.ref (ad 1 9), .ref (ad 1 3), .ref (ad 1 4), .int ((σ 1).1 0), .int ((σ 1).1 1)])),
  (ad 1 9, .inl (cs 3, 2, .inr (.inr (.inr (.inr (fun i => some (ad 1 (1 + i)))))))),
  (ad 1 1, .inl (cs 0, 150, .inl ((σ 1).2 1))),
  (ad 1 2, .inl (cs 0, 150, .inl ((σ 1).2 2))),
  (ad 1 3, .inl (cs 0, 3, .inl ((σ 1).2 3))),
  (ad 1 4, .inl (cs 0, 3, .inl ((σ 1).2 4))),
  (ad 2 0, .inr (2, [.int ((σ 2).1 0), .ref (ad 2 1), .ref (ad 2 2), .int ((σ 2).1 1), .int ((σ 2).1 2)])),
  (ad 2 1, .inl (cs 0, 8, .inl ((σ 2).2 1))),
  (ad 2 2, .inl (cs 1, 8, .inl ((σ 2).2 2))),
  (ad 3 0, .inr (2, [.int ((σ 3).1 0), .ref (ad 3 1), .ref (ad 3 2), .int ((σ 3).1 1), .int ((σ 3).1 2)])),
  (ad 3 1, .inl (cs 0, 8, .inl ((σ 3).2 1))),
  (ad 3 2, .inl (cs 1, 8, .inl ((σ 3).2 2))),
  (ad 4 0, .inr (3, [.ref (ad 4 1), .int ((σ 4).1 0), .int ((σ 4).1 1)])),
  (ad 4 1, .inl (cs 0, 3, .inl ((σ 4).2 1))),
  (ad 5 0, .inr (4, [.int ((σ 5).1 0), .int ((σ 5).1 1), .int ((σ 5).1 2), .int ((σ 5).1 3)])),
  (ad 6 0, .inr (5, [.ref (ad 6 1), .int ((σ 6).1 0)])),
  (ad 6 1, .inl (cs 0, 150, .inl ((σ 6).2 1))),
  (ad 0 9, .inl (cs 2, 4, .inr (.inr (.inr (.inr (fun i => some (ad (7 + i) 0))))))),
  (ad 7 0, .inr (6, [.ref (ad 7 1), .ref (ad 7 2), .int ((σ 7).1 0), .int ((σ 7).1 1), .int ((σ 7).1 2), .int ((σ 7).1 3)])),
  (ad 7 1, .inl (cs 0, 150, .inl ((σ 7).2 1))),
  (ad 7 2, .inl (cs 0, 150, .inl ((σ 7).2 2))),
  (ad 8 0, .inr (6, [.ref (ad 8 1), .ref (ad 8 2), .int ((σ 8).1 0), .int ((σ 8).1 1), .int ((σ 8).1 2), .int ((σ 8).1 3)])),
  (ad 8 1, .inl (cs 0, 150, .inl ((σ 8).2 1))),
  (ad 8 2, .inl (cs 0, 150, .inl ((σ 8).2 2))),
  (ad 9 0, .inr (6, [.ref (ad 9 1), .ref (ad 9 2), .int ((σ 9).1 0), .int ((σ 9).1 1), .int ((σ 9).1 2), .int ((σ 9).1 3)])),
  (ad 9 1, .inl (cs 0, 150, .inl ((σ 9).2 1))),
  (ad 9 2, .inl (cs 0, 150, .inl ((σ 9).2 2))),
  (ad 10 0, .inr (6, [.ref (ad 10 1), .ref (ad 10 2), .int ((σ 10).1 0), .int ((σ 10).1 1), .int ((σ 10).1 2), .int ((σ 10).1 3)])),
  (ad 10 1, .inl (cs 0, 150, .inl ((σ 10).2 1))),
  (ad 10 2, .inl (cs 0, 150, .inl ((σ 10).2 2))),
  (ad 0 1, .inl (cs 0, 4, .inl ((σ 0).2 1))),
  (ad 0 2, .inl (cs 0, 3, .inl ((σ 0).2 2))),
  (ad 0 3, .inl (cs 0, 3, .inl ((σ 0).2 3)))]
def wM (ad : Nat → Nat → Nat) (cs : Nat → ClassId) (σ : SX) : va_W := [(ad 0 0, .inr (7, [.int ((σ 0).1 0), .int ((σ 0).1 1), .int ((σ 0).1 2), .ref (ad 0 1), .int ((σ 0).1 3), .ref (ad 0 2), .ref (ad 0 3), .int ((σ 0).1 4), .int ((σ 0).1 5), .int ((σ 0).1 6), .int ((σ 0).1 7), .int ((σ 0).1 8), .ref (ad 0 4), .int ((σ 0).1 9), .ref (ad 0 5), .ref (ad 0 6), .int ((σ 0).1 10), .int ((σ 0).1 11), .ref (ad 0 7), .int ((σ 0).1 12), .int ((σ 0).1 13), .ref (ad 0 8), .ref (ad 0 9), .ref (ad 0 10), .ref (ad 0 11), .ref (ad 0 12), .int ((σ 0).1 14), .ref (ad 0 13), .ref (ad 0 14), .int ((σ 0).1 15), .int ((σ 0).1 16), .ref (ad 0 15), .ref (ad 0 16)])),
  (ad 0 1, .inl (cs 0, 300, .inl ((σ 0).2 1))),
  (ad 0 2, .inl (cs 0, 3, .inl ((σ 0).2 2))),
  (ad 0 3, .inl (cs 0, 3, .inl ((σ 0).2 3))),
  (ad 0 4, .inl (cs 0, 4, .inl ((σ 0).2 4))),
  (ad 0 5, .inl (cs 0, 8, .inl ((σ 0).2 5))),
  (ad 0 6, .inl (cs 1, 8, .inl ((σ 0).2 6))),
  (ad 0 7, .inl (cs 0, 3, .inl ((σ 0).2 7))),
  (ad 0 8, .inl (cs 0, 600, .inl ((σ 0).2 8))),
  (ad 0 9, .inl (cs 0, 600, .inl ((σ 0).2 9))),
  (ad 0 10, .inl (cs 0, 4, .inl ((σ 0).2 10))),
  (ad 0 11, .inl (cs 0, 4, .inl ((σ 0).2 11))),
  (ad 0 12, .inl (cs 0, 4, .inl ((σ 0).2 12))),
  (ad 0 13, .inl (cs 0, 8, .inl ((σ 0).2 13))),
  (ad 0 14, .inl (cs 1, 8, .inl ((σ 0).2 14))),
  (ad 0 15, .inl (cs 0, 150, .inl ((σ 0).2 15))),
  (ad 0 16, .inl (cs 0, 3, .inl ((σ 0).2 16)))]
theorem g_O {ad : Nat → Nat → Nat} {cs : Nat → ClassId} {σ : SX} : (wX ad cs σ)[0]? = some (ad 0 0, .inr (0, [.ref (ad 1 0), .ref (ad 2 0), .ref (ad 3 0), .ref (ad 4 0), .ref (ad 5 0), .ref (ad 6 0), .ref (ad 0 9), .ref (ad 0 1), .ref (ad 0 2), .ref (ad 0 3), .int ((σ 0).1 0), .int ((σ 0).1 1)])) := rfl
theorem g_O_a1 {ad : Nat → Nat → Nat} {cs : Nat → ClassId} {σ : SX} : (wX ad cs σ)[31]? = some (ad 0 1, .inl (cs 0, 4, .inl ((σ 0).2 1))) := rfl
theorem u_O_1 {ad : Nat → Nat → Nat} {cs : Nat → ClassId} {σ : SX} {f : Nat → Int32} : (wX ad cs σ).set 31 (ad 0 1, .inl (cs 0, 4, .inl f)) = wX ad cs (w2 σ 0 1 f) := rfl
theorem t_O_1 {ad : Nat → Nat → Nat} {cs : Nat → ClassId} {σ : SX} {ii xx : Int32} : (wX ad cs σ).set 31 (ad 0 1, .inl (cs 0, 4, .inl (upd ((σ 0).2 1) ii.toNatClampNeg xx))) = wX ad cs (w3 σ 0 1 ii xx) := u_O_1
theorem g_O_a2 {ad : Nat → Nat → Nat} {cs : Nat → ClassId} {σ : SX} : (wX ad cs σ)[32]? = some (ad 0 2, .inl (cs 0, 3, .inl ((σ 0).2 2))) := rfl
theorem u_O_2 {ad : Nat → Nat → Nat} {cs : Nat → ClassId} {σ : SX} {f : Nat → Int32} : (wX ad cs σ).set 32 (ad 0 2, .inl (cs 0, 3, .inl f)) = wX ad cs (w2 σ 0 2 f) := rfl
theorem t_O_2 {ad : Nat → Nat → Nat} {cs : Nat → ClassId} {σ : SX} {ii xx : Int32} : (wX ad cs σ).set 32 (ad 0 2, .inl (cs 0, 3, .inl (upd ((σ 0).2 2) ii.toNatClampNeg xx))) = wX ad cs (w3 σ 0 2 ii xx) := u_O_2
theorem g_O_a3 {ad : Nat → Nat → Nat} {cs : Nat → ClassId} {σ : SX} : (wX ad cs σ)[33]? = some (ad 0 3, .inl (cs 0, 3, .inl ((σ 0).2 3))) := rfl
theorem u_O_3 {ad : Nat → Nat → Nat} {cs : Nat → ClassId} {σ : SX} {f : Nat → Int32} : (wX ad cs σ).set 33 (ad 0 3, .inl (cs 0, 3, .inl f)) = wX ad cs (w2 σ 0 3 f) := rfl
theorem t_O_3 {ad : Nat → Nat → Nat} {cs : Nat → ClassId} {σ : SX} {ii xx : Int32} : (wX ad cs σ).set 33 (ad 0 3, .inl (cs 0, 3, .inl (upd ((σ 0).2 3) ii.toNatClampNeg xx))) = wX ad cs (w3 σ 0 3 ii xx) := u_O_3
theorem s_O_0 {ad : Nat → Nat → Nat} {cs : Nat → ClassId} {σ : SX} {v : Int32} : (wX ad cs σ).set 0 (ad 0 0, .inr (0, ([.ref (ad 1 0), .ref (ad 2 0), .ref (ad 3 0), .ref (ad 4 0), .ref (ad 5 0), .ref (ad 6 0), .ref (ad 0 9), .ref (ad 0 1), .ref (ad 0 2), .ref (ad 0 3), .int ((σ 0).1 0), .int ((σ 0).1 1)] : List Value).set 10 (.int v))) = wX ad cs (w1 σ 0 0 v) := rfl
theorem s_O_1 {ad : Nat → Nat → Nat} {cs : Nat → ClassId} {σ : SX} {v : Int32} : (wX ad cs σ).set 0 (ad 0 0, .inr (0, ([.ref (ad 1 0), .ref (ad 2 0), .ref (ad 3 0), .ref (ad 4 0), .ref (ad 5 0), .ref (ad 6 0), .ref (ad 0 9), .ref (ad 0 1), .ref (ad 0 2), .ref (ad 0 3), .int ((σ 0).1 0), .int ((σ 0).1 1)] : List Value).set 11 (.int v))) = wX ad cs (w1 σ 0 1 v) := rfl
theorem g_D {ad : Nat → Nat → Nat} {cs : Nat → ClassId} {σ : SX} : (wX ad cs σ)[1]? = some (ad 1 0, .inr (1, [.ref (ad 1 9), .ref (ad 1 3), .ref (ad 1 4), .int ((σ 1).1 0), .int ((σ 1).1 1)])) := rfl
theorem g_D_a1 {ad : Nat → Nat → Nat} {cs : Nat → ClassId} {σ : SX} : (wX ad cs σ)[3]? = some (ad 1 1, .inl (cs 0, 150, .inl ((σ 1).2 1))) := rfl
theorem u_D_1 {ad : Nat → Nat → Nat} {cs : Nat → ClassId} {σ : SX} {f : Nat → Int32} : (wX ad cs σ).set 3 (ad 1 1, .inl (cs 0, 150, .inl f)) = wX ad cs (w2 σ 1 1 f) := rfl
theorem t_D_1 {ad : Nat → Nat → Nat} {cs : Nat → ClassId} {σ : SX} {ii xx : Int32} : (wX ad cs σ).set 3 (ad 1 1, .inl (cs 0, 150, .inl (upd ((σ 1).2 1) ii.toNatClampNeg xx))) = wX ad cs (w3 σ 1 1 ii xx) := u_D_1
theorem g_D_a2 {ad : Nat → Nat → Nat} {cs : Nat → ClassId} {σ : SX} : (wX ad cs σ)[4]? = some (ad 1 2, .inl (cs 0, 150, .inl ((σ 1).2 2))) := rfl
theorem u_D_2 {ad : Nat → Nat → Nat} {cs : Nat → ClassId} {σ : SX} {f : Nat → Int32} : (wX ad cs σ).set 4 (ad 1 2, .inl (cs 0, 150, .inl f)) = wX ad cs (w2 σ 1 2 f) := rfl
theorem t_D_2 {ad : Nat → Nat → Nat} {cs : Nat → ClassId} {σ : SX} {ii xx : Int32} : (wX ad cs σ).set 4 (ad 1 2, .inl (cs 0, 150, .inl (upd ((σ 1).2 2) ii.toNatClampNeg xx))) = wX ad cs (w3 σ 1 2 ii xx) := u_D_2
theorem g_D_a3 {ad : Nat → Nat → Nat} {cs : Nat → ClassId} {σ : SX} : (wX ad cs σ)[5]? = some (ad 1 3, .inl (cs 0, 3, .inl ((σ 1).2 3))) := rfl
theorem u_D_3 {ad : Nat → Nat → Nat} {cs : Nat → ClassId} {σ : SX} {f : Nat → Int32} : (wX ad cs σ).set 5 (ad 1 3, .inl (cs 0, 3, .inl f)) = wX ad cs (w2 σ 1 3 f) := rfl
theorem t_D_3 {ad : Nat → Nat → Nat} {cs : Nat → ClassId} {σ : SX} {ii xx : Int32} : (wX ad cs σ).set 5 (ad 1 3, .inl (cs 0, 3, .inl (upd ((σ 1).2 3) ii.toNatClampNeg xx))) = wX ad cs (w3 σ 1 3 ii xx) := u_D_3
theorem g_D_a4 {ad : Nat → Nat → Nat} {cs : Nat → ClassId} {σ : SX} : (wX ad cs σ)[6]? = some (ad 1 4, .inl (cs 0, 3, .inl ((σ 1).2 4))) := rfl
theorem u_D_4 {ad : Nat → Nat → Nat} {cs : Nat → ClassId} {σ : SX} {f : Nat → Int32} : (wX ad cs σ).set 6 (ad 1 4, .inl (cs 0, 3, .inl f)) = wX ad cs (w2 σ 1 4 f) := rfl
theorem t_D_4 {ad : Nat → Nat → Nat} {cs : Nat → ClassId} {σ : SX} {ii xx : Int32} : (wX ad cs σ).set 6 (ad 1 4, .inl (cs 0, 3, .inl (upd ((σ 1).2 4) ii.toNatClampNeg xx))) = wX ad cs (w3 σ 1 4 ii xx) := u_D_4
theorem s_D_0 {ad : Nat → Nat → Nat} {cs : Nat → ClassId} {σ : SX} {v : Int32} : (wX ad cs σ).set 1 (ad 1 0, .inr (1, ([.ref (ad 1 9), .ref (ad 1 3), .ref (ad 1 4), .int ((σ 1).1 0), .int ((σ 1).1 1)] : List Value).set 3 (.int v))) = wX ad cs (w1 σ 1 0 v) := rfl
theorem s_D_1 {ad : Nat → Nat → Nat} {cs : Nat → ClassId} {σ : SX} {v : Int32} : (wX ad cs σ).set 1 (ad 1 0, .inr (1, ([.ref (ad 1 9), .ref (ad 1 3), .ref (ad 1 4), .int ((σ 1).1 0), .int ((σ 1).1 1)] : List Value).set 4 (.int v))) = wX ad cs (w1 σ 1 1 v) := rfl
theorem g_S {ad : Nat → Nat → Nat} {cs : Nat → ClassId} {σ : SX} {j : Nat} (hj : j = 2 ∨ j = 3) : (wX ad cs σ)[(3 * j + 1)]? = some (ad j 0, .inr (2, [.int ((σ j).1 0), .ref (ad j 1), .ref (ad j 2), .int ((σ j).1 1), .int ((σ j).1 2)])) := by rcases hj with rfl | rfl <;> rfl
theorem g_S_a1 {ad : Nat → Nat → Nat} {cs : Nat → ClassId} {σ : SX} {j : Nat} (hj : j = 2 ∨ j = 3) : (wX ad cs σ)[(3 * j + 2)]? = some (ad j 1, .inl (cs 0, 8, .inl ((σ j).2 1))) := by rcases hj with rfl | rfl <;> rfl
theorem u_S_1 {ad : Nat → Nat → Nat} {cs : Nat → ClassId} {σ : SX} {j : Nat} (hj : j = 2 ∨ j = 3) {f : Nat → Int32} : (wX ad cs σ).set (3 * j + 2) (ad j 1, .inl (cs 0, 8, .inl f)) = wX ad cs (w2 σ j 1 f) := by rcases hj with rfl | rfl <;> rfl
theorem t_S_1 {ad : Nat → Nat → Nat} {cs : Nat → ClassId} {σ : SX} {j : Nat} (hj : j = 2 ∨ j = 3) {ii xx : Int32} : (wX ad cs σ).set (3 * j + 2) (ad j 1, .inl (cs 0, 8, .inl (upd ((σ j).2 1) ii.toNatClampNeg xx))) = wX ad cs (w3 σ j 1 ii xx) := u_S_1 hj
theorem g_S_a2 {ad : Nat → Nat → Nat} {cs : Nat → ClassId} {σ : SX} {j : Nat} (hj : j = 2 ∨ j = 3) : (wX ad cs σ)[(3 * j + 3)]? = some (ad j 2, .inl (cs 1, 8, .inl ((σ j).2 2))) := by rcases hj with rfl | rfl <;> rfl
theorem u_S_2 {ad : Nat → Nat → Nat} {cs : Nat → ClassId} {σ : SX} {j : Nat} (hj : j = 2 ∨ j = 3) {f : Nat → Int32} : (wX ad cs σ).set (3 * j + 3) (ad j 2, .inl (cs 1, 8, .inl f)) = wX ad cs (w2 σ j 2 f) := by rcases hj with rfl | rfl <;> rfl
theorem t_S_2 {ad : Nat → Nat → Nat} {cs : Nat → ClassId} {σ : SX} {j : Nat} (hj : j = 2 ∨ j = 3) {ii xx : Int32} : (wX ad cs σ).set (3 * j + 3) (ad j 2, .inl (cs 1, 8, .inl (upd ((σ j).2 2) ii.toNatClampNeg xx))) = wX ad cs (w3 σ j 2 ii xx) := u_S_2 hj
theorem s_S_0 {ad : Nat → Nat → Nat} {cs : Nat → ClassId} {σ : SX} {j : Nat} (hj : j = 2 ∨ j = 3) {v : Int32} : (wX ad cs σ).set (3 * j + 1) (ad j 0, .inr (2, ([.int ((σ j).1 0), .ref (ad j 1), .ref (ad j 2), .int ((σ j).1 1), .int ((σ j).1 2)] : List Value).set 0 (.int v))) = wX ad cs (w1 σ j 0 v) := by rcases hj with rfl | rfl <;> rfl
theorem s_S_1 {ad : Nat → Nat → Nat} {cs : Nat → ClassId} {σ : SX} {j : Nat} (hj : j = 2 ∨ j = 3) {v : Int32} : (wX ad cs σ).set (3 * j + 1) (ad j 0, .inr (2, ([.int ((σ j).1 0), .ref (ad j 1), .ref (ad j 2), .int ((σ j).1 1), .int ((σ j).1 2)] : List Value).set 3 (.int v))) = wX ad cs (w1 σ j 1 v) := by rcases hj with rfl | rfl <;> rfl
theorem s_S_2 {ad : Nat → Nat → Nat} {cs : Nat → ClassId} {σ : SX} {j : Nat} (hj : j = 2 ∨ j = 3) {v : Int32} : (wX ad cs σ).set (3 * j + 1) (ad j 0, .inr (2, ([.int ((σ j).1 0), .ref (ad j 1), .ref (ad j 2), .int ((σ j).1 1), .int ((σ j).1 2)] : List Value).set 4 (.int v))) = wX ad cs (w1 σ j 2 v) := by rcases hj with rfl | rfl <;> rfl
theorem g_P {ad : Nat → Nat → Nat} {cs : Nat → ClassId} {σ : SX} : (wX ad cs σ)[13]? = some (ad 4 0, .inr (3, [.ref (ad 4 1), .int ((σ 4).1 0), .int ((σ 4).1 1)])) := rfl
theorem g_P_a1 {ad : Nat → Nat → Nat} {cs : Nat → ClassId} {σ : SX} : (wX ad cs σ)[14]? = some (ad 4 1, .inl (cs 0, 3, .inl ((σ 4).2 1))) := rfl
theorem u_P_1 {ad : Nat → Nat → Nat} {cs : Nat → ClassId} {σ : SX} {f : Nat → Int32} : (wX ad cs σ).set 14 (ad 4 1, .inl (cs 0, 3, .inl f)) = wX ad cs (w2 σ 4 1 f) := rfl
theorem t_P_1 {ad : Nat → Nat → Nat} {cs : Nat → ClassId} {σ : SX} {ii xx : Int32} : (wX ad cs σ).set 14 (ad 4 1, .inl (cs 0, 3, .inl (upd ((σ 4).2 1) ii.toNatClampNeg xx))) = wX ad cs (w3 σ 4 1 ii xx) := u_P_1
theorem s_P_0 {ad : Nat → Nat → Nat} {cs : Nat → ClassId} {σ : SX} {v : Int32} : (wX ad cs σ).set 13 (ad 4 0, .inr (3, ([.ref (ad 4 1), .int ((σ 4).1 0), .int ((σ 4).1 1)] : List Value).set 1 (.int v))) = wX ad cs (w1 σ 4 0 v) := rfl
theorem s_P_1 {ad : Nat → Nat → Nat} {cs : Nat → ClassId} {σ : SX} {v : Int32} : (wX ad cs σ).set 13 (ad 4 0, .inr (3, ([.ref (ad 4 1), .int ((σ 4).1 0), .int ((σ 4).1 1)] : List Value).set 2 (.int v))) = wX ad cs (w1 σ 4 1 v) := rfl
theorem g_V {ad : Nat → Nat → Nat} {cs : Nat → ClassId} {σ : SX} : (wX ad cs σ)[15]? = some (ad 5 0, .inr (4, [.int ((σ 5).1 0), .int ((σ 5).1 1), .int ((σ 5).1 2), .int ((σ 5).1 3)])) := rfl
theorem s_V_0 {ad : Nat → Nat → Nat} {cs : Nat → ClassId} {σ : SX} {v : Int32} : (wX ad cs σ).set 15 (ad 5 0, .inr (4, ([.int ((σ 5).1 0), .int ((σ 5).1 1), .int ((σ 5).1 2), .int ((σ 5).1 3)] : List Value).set 0 (.int v))) = wX ad cs (w1 σ 5 0 v) := rfl
theorem s_V_1 {ad : Nat → Nat → Nat} {cs : Nat → ClassId} {σ : SX} {v : Int32} : (wX ad cs σ).set 15 (ad 5 0, .inr (4, ([.int ((σ 5).1 0), .int ((σ 5).1 1), .int ((σ 5).1 2), .int ((σ 5).1 3)] : List Value).set 1 (.int v))) = wX ad cs (w1 σ 5 1 v) := rfl
theorem s_V_2 {ad : Nat → Nat → Nat} {cs : Nat → ClassId} {σ : SX} {v : Int32} : (wX ad cs σ).set 15 (ad 5 0, .inr (4, ([.int ((σ 5).1 0), .int ((σ 5).1 1), .int ((σ 5).1 2), .int ((σ 5).1 3)] : List Value).set 2 (.int v))) = wX ad cs (w1 σ 5 2 v) := rfl
theorem s_V_3 {ad : Nat → Nat → Nat} {cs : Nat → ClassId} {σ : SX} {v : Int32} : (wX ad cs σ).set 15 (ad 5 0, .inr (4, ([.int ((σ 5).1 0), .int ((σ 5).1 1), .int ((σ 5).1 2), .int ((σ 5).1 3)] : List Value).set 3 (.int v))) = wX ad cs (w1 σ 5 3 v) := rfl
theorem g_R {ad : Nat → Nat → Nat} {cs : Nat → ClassId} {σ : SX} : (wX ad cs σ)[16]? = some (ad 6 0, .inr (5, [.ref (ad 6 1), .int ((σ 6).1 0)])) := rfl
theorem g_R_a1 {ad : Nat → Nat → Nat} {cs : Nat → ClassId} {σ : SX} : (wX ad cs σ)[17]? = some (ad 6 1, .inl (cs 0, 150, .inl ((σ 6).2 1))) := rfl
theorem u_R_1 {ad : Nat → Nat → Nat} {cs : Nat → ClassId} {σ : SX} {f : Nat → Int32} : (wX ad cs σ).set 17 (ad 6 1, .inl (cs 0, 150, .inl f)) = wX ad cs (w2 σ 6 1 f) := rfl
theorem t_R_1 {ad : Nat → Nat → Nat} {cs : Nat → ClassId} {σ : SX} {ii xx : Int32} : (wX ad cs σ).set 17 (ad 6 1, .inl (cs 0, 150, .inl (upd ((σ 6).2 1) ii.toNatClampNeg xx))) = wX ad cs (w3 σ 6 1 ii xx) := u_R_1
theorem s_R_0 {ad : Nat → Nat → Nat} {cs : Nat → ClassId} {σ : SX} {v : Int32} : (wX ad cs σ).set 16 (ad 6 0, .inr (5, ([.ref (ad 6 1), .int ((σ 6).1 0)] : List Value).set 1 (.int v))) = wX ad cs (w1 σ 6 0 v) := rfl
theorem g_T {ad : Nat → Nat → Nat} {cs : Nat → ClassId} {σ : SX} {i : Nat} (hi : i < 4) : (wX ad cs σ)[(19 + 3 * i)]? = some (ad (7 + i) 0, .inr (6, [.ref (ad (7 + i) 1), .ref (ad (7 + i) 2), .int ((σ (7 + i)).1 0), .int ((σ (7 + i)).1 1), .int ((σ (7 + i)).1 2), .int ((σ (7 + i)).1 3)])) := by rcases (show i = 0 ∨ i = 1 ∨ i = 2 ∨ i = 3 by omega) with rfl | rfl | rfl | rfl <;> rfl
theorem g_T_a1 {ad : Nat → Nat → Nat} {cs : Nat → ClassId} {σ : SX} {i : Nat} (hi : i < 4) : (wX ad cs σ)[(19 + 3 * i + 1)]? = some (ad (7 + i) 1, .inl (cs 0, 150, .inl ((σ (7 + i)).2 1))) := by rcases (show i = 0 ∨ i = 1 ∨ i = 2 ∨ i = 3 by omega) with rfl | rfl | rfl | rfl <;> rfl
theorem u_T_1 {ad : Nat → Nat → Nat} {cs : Nat → ClassId} {σ : SX} {i : Nat} (hi : i < 4) {f : Nat → Int32} : (wX ad cs σ).set (19 + 3 * i + 1) (ad (7 + i) 1, .inl (cs 0, 150, .inl f)) = wX ad cs (w2 σ (7 + i) 1 f) := by rcases (show i = 0 ∨ i = 1 ∨ i = 2 ∨ i = 3 by omega) with rfl | rfl | rfl | rfl <;> rfl
theorem t_T_1 {ad : Nat → Nat → Nat} {cs : Nat → ClassId} {σ : SX} {i : Nat} (hi : i < 4) {ii xx : Int32} : (wX ad cs σ).set (19 + 3 * i + 1) (ad (7 + i) 1, .inl (cs 0, 150, .inl (upd ((σ (7 + i)).2 1) ii.toNatClampNeg xx))) = wX ad cs (w3 σ (7 + i) 1 ii xx) := u_T_1 hi
theorem g_T_a2 {ad : Nat → Nat → Nat} {cs : Nat → ClassId} {σ : SX} {i : Nat} (hi : i < 4) : (wX ad cs σ)[(19 + 3 * i + 2)]? = some (ad (7 + i) 2, .inl (cs 0, 150, .inl ((σ (7 + i)).2 2))) := by rcases (show i = 0 ∨ i = 1 ∨ i = 2 ∨ i = 3 by omega) with rfl | rfl | rfl | rfl <;> rfl
theorem u_T_2 {ad : Nat → Nat → Nat} {cs : Nat → ClassId} {σ : SX} {i : Nat} (hi : i < 4) {f : Nat → Int32} : (wX ad cs σ).set (19 + 3 * i + 2) (ad (7 + i) 2, .inl (cs 0, 150, .inl f)) = wX ad cs (w2 σ (7 + i) 2 f) := by rcases (show i = 0 ∨ i = 1 ∨ i = 2 ∨ i = 3 by omega) with rfl | rfl | rfl | rfl <;> rfl
theorem t_T_2 {ad : Nat → Nat → Nat} {cs : Nat → ClassId} {σ : SX} {i : Nat} (hi : i < 4) {ii xx : Int32} : (wX ad cs σ).set (19 + 3 * i + 2) (ad (7 + i) 2, .inl (cs 0, 150, .inl (upd ((σ (7 + i)).2 2) ii.toNatClampNeg xx))) = wX ad cs (w3 σ (7 + i) 2 ii xx) := u_T_2 hi
theorem s_T_0 {ad : Nat → Nat → Nat} {cs : Nat → ClassId} {σ : SX} {i : Nat} (hi : i < 4) {v : Int32} : (wX ad cs σ).set (19 + 3 * i) (ad (7 + i) 0, .inr (6, ([.ref (ad (7 + i) 1), .ref (ad (7 + i) 2), .int ((σ (7 + i)).1 0), .int ((σ (7 + i)).1 1), .int ((σ (7 + i)).1 2), .int ((σ (7 + i)).1 3)] : List Value).set 2 (.int v))) = wX ad cs (w1 σ (7 + i) 0 v) := by rcases (show i = 0 ∨ i = 1 ∨ i = 2 ∨ i = 3 by omega) with rfl | rfl | rfl | rfl <;> rfl
theorem s_T_1 {ad : Nat → Nat → Nat} {cs : Nat → ClassId} {σ : SX} {i : Nat} (hi : i < 4) {v : Int32} : (wX ad cs σ).set (19 + 3 * i) (ad (7 + i) 0, .inr (6, ([.ref (ad (7 + i) 1), .ref (ad (7 + i) 2), .int ((σ (7 + i)).1 0), .int ((σ (7 + i)).1 1), .int ((σ (7 + i)).1 2), .int ((σ (7 + i)).1 3)] : List Value).set 3 (.int v))) = wX ad cs (w1 σ (7 + i) 1 v) := by rcases (show i = 0 ∨ i = 1 ∨ i = 2 ∨ i = 3 by omega) with rfl | rfl | rfl | rfl <;> rfl
theorem s_T_2 {ad : Nat → Nat → Nat} {cs : Nat → ClassId} {σ : SX} {i : Nat} (hi : i < 4) {v : Int32} : (wX ad cs σ).set (19 + 3 * i) (ad (7 + i) 0, .inr (6, ([.ref (ad (7 + i) 1), .ref (ad (7 + i) 2), .int ((σ (7 + i)).1 0), .int ((σ (7 + i)).1 1), .int ((σ (7 + i)).1 2), .int ((σ (7 + i)).1 3)] : List Value).set 4 (.int v))) = wX ad cs (w1 σ (7 + i) 2 v) := by rcases (show i = 0 ∨ i = 1 ∨ i = 2 ∨ i = 3 by omega) with rfl | rfl | rfl | rfl <;> rfl
theorem s_T_3 {ad : Nat → Nat → Nat} {cs : Nat → ClassId} {σ : SX} {i : Nat} (hi : i < 4) {v : Int32} : (wX ad cs σ).set (19 + 3 * i) (ad (7 + i) 0, .inr (6, ([.ref (ad (7 + i) 1), .ref (ad (7 + i) 2), .int ((σ (7 + i)).1 0), .int ((σ (7 + i)).1 1), .int ((σ (7 + i)).1 2), .int ((σ (7 + i)).1 3)] : List Value).set 5 (.int v))) = wX ad cs (w1 σ (7 + i) 3 v) := by rcases (show i = 0 ∨ i = 1 ∨ i = 2 ∨ i = 3 by omega) with rfl | rfl | rfl | rfl <;> rfl
theorem g_M {ad : Nat → Nat → Nat} {cs : Nat → ClassId} {σ : SX} : (wM ad cs σ)[0]? = some (ad 0 0, .inr (7, [.int ((σ 0).1 0), .int ((σ 0).1 1), .int ((σ 0).1 2), .ref (ad 0 1), .int ((σ 0).1 3), .ref (ad 0 2), .ref (ad 0 3), .int ((σ 0).1 4), .int ((σ 0).1 5), .int ((σ 0).1 6), .int ((σ 0).1 7), .int ((σ 0).1 8), .ref (ad 0 4), .int ((σ 0).1 9), .ref (ad 0 5), .ref (ad 0 6), .int ((σ 0).1 10), .int ((σ 0).1 11), .ref (ad 0 7), .int ((σ 0).1 12), .int ((σ 0).1 13), .ref (ad 0 8), .ref (ad 0 9), .ref (ad 0 10), .ref (ad 0 11), .ref (ad 0 12), .int ((σ 0).1 14), .ref (ad 0 13), .ref (ad 0 14), .int ((σ 0).1 15), .int ((σ 0).1 16), .ref (ad 0 15), .ref (ad 0 16)])) := rfl
theorem g_M_a1 {ad : Nat → Nat → Nat} {cs : Nat → ClassId} {σ : SX} : (wM ad cs σ)[1]? = some (ad 0 1, .inl (cs 0, 300, .inl ((σ 0).2 1))) := rfl
theorem u_M_1 {ad : Nat → Nat → Nat} {cs : Nat → ClassId} {σ : SX} {f : Nat → Int32} : (wM ad cs σ).set 1 (ad 0 1, .inl (cs 0, 300, .inl f)) = wM ad cs (w2 σ 0 1 f) := rfl
theorem t_M_1 {ad : Nat → Nat → Nat} {cs : Nat → ClassId} {σ : SX} {ii xx : Int32} : (wM ad cs σ).set 1 (ad 0 1, .inl (cs 0, 300, .inl (upd ((σ 0).2 1) ii.toNatClampNeg xx))) = wM ad cs (w3 σ 0 1 ii xx) := u_M_1
theorem g_M_a2 {ad : Nat → Nat → Nat} {cs : Nat → ClassId} {σ : SX} : (wM ad cs σ)[2]? = some (ad 0 2, .inl (cs 0, 3, .inl ((σ 0).2 2))) := rfl
theorem u_M_2 {ad : Nat → Nat → Nat} {cs : Nat → ClassId} {σ : SX} {f : Nat → Int32} : (wM ad cs σ).set 2 (ad 0 2, .inl (cs 0, 3, .inl f)) = wM ad cs (w2 σ 0 2 f) := rfl
theorem t_M_2 {ad : Nat → Nat → Nat} {cs : Nat → ClassId} {σ : SX} {ii xx : Int32} : (wM ad cs σ).set 2 (ad 0 2, .inl (cs 0, 3, .inl (upd ((σ 0).2 2) ii.toNatClampNeg xx))) = wM ad cs (w3 σ 0 2 ii xx) := u_M_2
theorem g_M_a3 {ad : Nat → Nat → Nat} {cs : Nat → ClassId} {σ : SX} : (wM ad cs σ)[3]? = some (ad 0 3, .inl (cs 0, 3, .inl ((σ 0).2 3))) := rfl
theorem u_M_3 {ad : Nat → Nat → Nat} {cs : Nat → ClassId} {σ : SX} {f : Nat → Int32} : (wM ad cs σ).set 3 (ad 0 3, .inl (cs 0, 3, .inl f)) = wM ad cs (w2 σ 0 3 f) := rfl
theorem t_M_3 {ad : Nat → Nat → Nat} {cs : Nat → ClassId} {σ : SX} {ii xx : Int32} : (wM ad cs σ).set 3 (ad 0 3, .inl (cs 0, 3, .inl (upd ((σ 0).2 3) ii.toNatClampNeg xx))) = wM ad cs (w3 σ 0 3 ii xx) := u_M_3
theorem g_M_a4 {ad : Nat → Nat → Nat} {cs : Nat → ClassId} {σ : SX} : (wM ad cs σ)[4]? = some (ad 0 4, .inl (cs 0, 4, .inl ((σ 0).2 4))) := rfl
theorem u_M_4 {ad : Nat → Nat → Nat} {cs : Nat → ClassId} {σ : SX} {f : Nat → Int32} : (wM ad cs σ).set 4 (ad 0 4, .inl (cs 0, 4, .inl f)) = wM ad cs (w2 σ 0 4 f) := rfl
theorem t_M_4 {ad : Nat → Nat → Nat} {cs : Nat → ClassId} {σ : SX} {ii xx : Int32} : (wM ad cs σ).set 4 (ad 0 4, .inl (cs 0, 4, .inl (upd ((σ 0).2 4) ii.toNatClampNeg xx))) = wM ad cs (w3 σ 0 4 ii xx) := u_M_4
theorem g_M_a5 {ad : Nat → Nat → Nat} {cs : Nat → ClassId} {σ : SX} : (wM ad cs σ)[5]? = some (ad 0 5, .inl (cs 0, 8, .inl ((σ 0).2 5))) := rfl
theorem u_M_5 {ad : Nat → Nat → Nat} {cs : Nat → ClassId} {σ : SX} {f : Nat → Int32} : (wM ad cs σ).set 5 (ad 0 5, .inl (cs 0, 8, .inl f)) = wM ad cs (w2 σ 0 5 f) := rfl
theorem t_M_5 {ad : Nat → Nat → Nat} {cs : Nat → ClassId} {σ : SX} {ii xx : Int32} : (wM ad cs σ).set 5 (ad 0 5, .inl (cs 0, 8, .inl (upd ((σ 0).2 5) ii.toNatClampNeg xx))) = wM ad cs (w3 σ 0 5 ii xx) := u_M_5
theorem g_M_a6 {ad : Nat → Nat → Nat} {cs : Nat → ClassId} {σ : SX} : (wM ad cs σ)[6]? = some (ad 0 6, .inl (cs 1, 8, .inl ((σ 0).2 6))) := rfl
theorem u_M_6 {ad : Nat → Nat → Nat} {cs : Nat → ClassId} {σ : SX} {f : Nat → Int32} : (wM ad cs σ).set 6 (ad 0 6, .inl (cs 1, 8, .inl f)) = wM ad cs (w2 σ 0 6 f) := rfl
theorem t_M_6 {ad : Nat → Nat → Nat} {cs : Nat → ClassId} {σ : SX} {ii xx : Int32} : (wM ad cs σ).set 6 (ad 0 6, .inl (cs 1, 8, .inl (upd ((σ 0).2 6) ii.toNatClampNeg xx))) = wM ad cs (w3 σ 0 6 ii xx) := u_M_6
theorem g_M_a7 {ad : Nat → Nat → Nat} {cs : Nat → ClassId} {σ : SX} : (wM ad cs σ)[7]? = some (ad 0 7, .inl (cs 0, 3, .inl ((σ 0).2 7))) := rfl
theorem u_M_7 {ad : Nat → Nat → Nat} {cs : Nat → ClassId} {σ : SX} {f : Nat → Int32} : (wM ad cs σ).set 7 (ad 0 7, .inl (cs 0, 3, .inl f)) = wM ad cs (w2 σ 0 7 f) := rfl
theorem t_M_7 {ad : Nat → Nat → Nat} {cs : Nat → ClassId} {σ : SX} {ii xx : Int32} : (wM ad cs σ).set 7 (ad 0 7, .inl (cs 0, 3, .inl (upd ((σ 0).2 7) ii.toNatClampNeg xx))) = wM ad cs (w3 σ 0 7 ii xx) := u_M_7
theorem g_M_a8 {ad : Nat → Nat → Nat} {cs : Nat → ClassId} {σ : SX} : (wM ad cs σ)[8]? = some (ad 0 8, .inl (cs 0, 600, .inl ((σ 0).2 8))) := rfl
theorem u_M_8 {ad : Nat → Nat → Nat} {cs : Nat → ClassId} {σ : SX} {f : Nat → Int32} : (wM ad cs σ).set 8 (ad 0 8, .inl (cs 0, 600, .inl f)) = wM ad cs (w2 σ 0 8 f) := rfl
theorem t_M_8 {ad : Nat → Nat → Nat} {cs : Nat → ClassId} {σ : SX} {ii xx : Int32} : (wM ad cs σ).set 8 (ad 0 8, .inl (cs 0, 600, .inl (upd ((σ 0).2 8) ii.toNatClampNeg xx))) = wM ad cs (w3 σ 0 8 ii xx) := u_M_8
theorem g_M_a9 {ad : Nat → Nat → Nat} {cs : Nat → ClassId} {σ : SX} : (wM ad cs σ)[9]? = some (ad 0 9, .inl (cs 0, 600, .inl ((σ 0).2 9))) := rfl
theorem u_M_9 {ad : Nat → Nat → Nat} {cs : Nat → ClassId} {σ : SX} {f : Nat → Int32} : (wM ad cs σ).set 9 (ad 0 9, .inl (cs 0, 600, .inl f)) = wM ad cs (w2 σ 0 9 f) := rfl
theorem t_M_9 {ad : Nat → Nat → Nat} {cs : Nat → ClassId} {σ : SX} {ii xx : Int32} : (wM ad cs σ).set 9 (ad 0 9, .inl (cs 0, 600, .inl (upd ((σ 0).2 9) ii.toNatClampNeg xx))) = wM ad cs (w3 σ 0 9 ii xx) := u_M_9
theorem g_M_a10 {ad : Nat → Nat → Nat} {cs : Nat → ClassId} {σ : SX} : (wM ad cs σ)[10]? = some (ad 0 10, .inl (cs 0, 4, .inl ((σ 0).2 10))) := rfl
theorem u_M_10 {ad : Nat → Nat → Nat} {cs : Nat → ClassId} {σ : SX} {f : Nat → Int32} : (wM ad cs σ).set 10 (ad 0 10, .inl (cs 0, 4, .inl f)) = wM ad cs (w2 σ 0 10 f) := rfl
theorem t_M_10 {ad : Nat → Nat → Nat} {cs : Nat → ClassId} {σ : SX} {ii xx : Int32} : (wM ad cs σ).set 10 (ad 0 10, .inl (cs 0, 4, .inl (upd ((σ 0).2 10) ii.toNatClampNeg xx))) = wM ad cs (w3 σ 0 10 ii xx) := u_M_10
theorem g_M_a11 {ad : Nat → Nat → Nat} {cs : Nat → ClassId} {σ : SX} : (wM ad cs σ)[11]? = some (ad 0 11, .inl (cs 0, 4, .inl ((σ 0).2 11))) := rfl
theorem u_M_11 {ad : Nat → Nat → Nat} {cs : Nat → ClassId} {σ : SX} {f : Nat → Int32} : (wM ad cs σ).set 11 (ad 0 11, .inl (cs 0, 4, .inl f)) = wM ad cs (w2 σ 0 11 f) := rfl
theorem t_M_11 {ad : Nat → Nat → Nat} {cs : Nat → ClassId} {σ : SX} {ii xx : Int32} : (wM ad cs σ).set 11 (ad 0 11, .inl (cs 0, 4, .inl (upd ((σ 0).2 11) ii.toNatClampNeg xx))) = wM ad cs (w3 σ 0 11 ii xx) := u_M_11
theorem g_M_a12 {ad : Nat → Nat → Nat} {cs : Nat → ClassId} {σ : SX} : (wM ad cs σ)[12]? = some (ad 0 12, .inl (cs 0, 4, .inl ((σ 0).2 12))) := rfl
theorem u_M_12 {ad : Nat → Nat → Nat} {cs : Nat → ClassId} {σ : SX} {f : Nat → Int32} : (wM ad cs σ).set 12 (ad 0 12, .inl (cs 0, 4, .inl f)) = wM ad cs (w2 σ 0 12 f) := rfl
theorem t_M_12 {ad : Nat → Nat → Nat} {cs : Nat → ClassId} {σ : SX} {ii xx : Int32} : (wM ad cs σ).set 12 (ad 0 12, .inl (cs 0, 4, .inl (upd ((σ 0).2 12) ii.toNatClampNeg xx))) = wM ad cs (w3 σ 0 12 ii xx) := u_M_12
theorem g_M_a13 {ad : Nat → Nat → Nat} {cs : Nat → ClassId} {σ : SX} : (wM ad cs σ)[13]? = some (ad 0 13, .inl (cs 0, 8, .inl ((σ 0).2 13))) := rfl
theorem u_M_13 {ad : Nat → Nat → Nat} {cs : Nat → ClassId} {σ : SX} {f : Nat → Int32} : (wM ad cs σ).set 13 (ad 0 13, .inl (cs 0, 8, .inl f)) = wM ad cs (w2 σ 0 13 f) := rfl
theorem t_M_13 {ad : Nat → Nat → Nat} {cs : Nat → ClassId} {σ : SX} {ii xx : Int32} : (wM ad cs σ).set 13 (ad 0 13, .inl (cs 0, 8, .inl (upd ((σ 0).2 13) ii.toNatClampNeg xx))) = wM ad cs (w3 σ 0 13 ii xx) := u_M_13
theorem g_M_a14 {ad : Nat → Nat → Nat} {cs : Nat → ClassId} {σ : SX} : (wM ad cs σ)[14]? = some (ad 0 14, .inl (cs 1, 8, .inl ((σ 0).2 14))) := rfl
theorem u_M_14 {ad : Nat → Nat → Nat} {cs : Nat → ClassId} {σ : SX} {f : Nat → Int32} : (wM ad cs σ).set 14 (ad 0 14, .inl (cs 1, 8, .inl f)) = wM ad cs (w2 σ 0 14 f) := rfl
theorem t_M_14 {ad : Nat → Nat → Nat} {cs : Nat → ClassId} {σ : SX} {ii xx : Int32} : (wM ad cs σ).set 14 (ad 0 14, .inl (cs 1, 8, .inl (upd ((σ 0).2 14) ii.toNatClampNeg xx))) = wM ad cs (w3 σ 0 14 ii xx) := u_M_14
theorem g_M_a15 {ad : Nat → Nat → Nat} {cs : Nat → ClassId} {σ : SX} : (wM ad cs σ)[15]? = some (ad 0 15, .inl (cs 0, 150, .inl ((σ 0).2 15))) := rfl
theorem u_M_15 {ad : Nat → Nat → Nat} {cs : Nat → ClassId} {σ : SX} {f : Nat → Int32} : (wM ad cs σ).set 15 (ad 0 15, .inl (cs 0, 150, .inl f)) = wM ad cs (w2 σ 0 15 f) := rfl
theorem t_M_15 {ad : Nat → Nat → Nat} {cs : Nat → ClassId} {σ : SX} {ii xx : Int32} : (wM ad cs σ).set 15 (ad 0 15, .inl (cs 0, 150, .inl (upd ((σ 0).2 15) ii.toNatClampNeg xx))) = wM ad cs (w3 σ 0 15 ii xx) := u_M_15
theorem g_M_a16 {ad : Nat → Nat → Nat} {cs : Nat → ClassId} {σ : SX} : (wM ad cs σ)[16]? = some (ad 0 16, .inl (cs 0, 3, .inl ((σ 0).2 16))) := rfl
theorem u_M_16 {ad : Nat → Nat → Nat} {cs : Nat → ClassId} {σ : SX} {f : Nat → Int32} : (wM ad cs σ).set 16 (ad 0 16, .inl (cs 0, 3, .inl f)) = wM ad cs (w2 σ 0 16 f) := rfl
theorem t_M_16 {ad : Nat → Nat → Nat} {cs : Nat → ClassId} {σ : SX} {ii xx : Int32} : (wM ad cs σ).set 16 (ad 0 16, .inl (cs 0, 3, .inl (upd ((σ 0).2 16) ii.toNatClampNeg xx))) = wM ad cs (w3 σ 0 16 ii xx) := u_M_16
theorem s_M_0 {ad : Nat → Nat → Nat} {cs : Nat → ClassId} {σ : SX} {v : Int32} : (wM ad cs σ).set 0 (ad 0 0, .inr (7, ([.int ((σ 0).1 0), .int ((σ 0).1 1), .int ((σ 0).1 2), .ref (ad 0 1), .int ((σ 0).1 3), .ref (ad 0 2), .ref (ad 0 3), .int ((σ 0).1 4), .int ((σ 0).1 5), .int ((σ 0).1 6), .int ((σ 0).1 7), .int ((σ 0).1 8), .ref (ad 0 4), .int ((σ 0).1 9), .ref (ad 0 5), .ref (ad 0 6), .int ((σ 0).1 10), .int ((σ 0).1 11), .ref (ad 0 7), .int ((σ 0).1 12), .int ((σ 0).1 13), .ref (ad 0 8), .ref (ad 0 9), .ref (ad 0 10), .ref (ad 0 11), .ref (ad 0 12), .int ((σ 0).1 14), .ref (ad 0 13), .ref (ad 0 14), .int ((σ 0).1 15), .int ((σ 0).1 16), .ref (ad 0 15), .ref (ad 0 16)] : List Value).set 0 (.int v))) = wM ad cs (w1 σ 0 0 v) := rfl
theorem s_M_1 {ad : Nat → Nat → Nat} {cs : Nat → ClassId} {σ : SX} {v : Int32} : (wM ad cs σ).set 0 (ad 0 0, .inr (7, ([.int ((σ 0).1 0), .int ((σ 0).1 1), .int ((σ 0).1 2), .ref (ad 0 1), .int ((σ 0).1 3), .ref (ad 0 2), .ref (ad 0 3), .int ((σ 0).1 4), .int ((σ 0).1 5), .int ((σ 0).1 6), .int ((σ 0).1 7), .int ((σ 0).1 8), .ref (ad 0 4), .int ((σ 0).1 9), .ref (ad 0 5), .ref (ad 0 6), .int ((σ 0).1 10), .int ((σ 0).1 11), .ref (ad 0 7), .int ((σ 0).1 12), .int ((σ 0).1 13), .ref (ad 0 8), .ref (ad 0 9), .ref (ad 0 10), .ref (ad 0 11), .ref (ad 0 12), .int ((σ 0).1 14), .ref (ad 0 13), .ref (ad 0 14), .int ((σ 0).1 15), .int ((σ 0).1 16), .ref (ad 0 15), .ref (ad 0 16)] : List Value).set 1 (.int v))) = wM ad cs (w1 σ 0 1 v) := rfl
theorem s_M_2 {ad : Nat → Nat → Nat} {cs : Nat → ClassId} {σ : SX} {v : Int32} : (wM ad cs σ).set 0 (ad 0 0, .inr (7, ([.int ((σ 0).1 0), .int ((σ 0).1 1), .int ((σ 0).1 2), .ref (ad 0 1), .int ((σ 0).1 3), .ref (ad 0 2), .ref (ad 0 3), .int ((σ 0).1 4), .int ((σ 0).1 5), .int ((σ 0).1 6), .int ((σ 0).1 7), .int ((σ 0).1 8), .ref (ad 0 4), .int ((σ 0).1 9), .ref (ad 0 5), .ref (ad 0 6), .int ((σ 0).1 10), .int ((σ 0).1 11), .ref (ad 0 7), .int ((σ 0).1 12), .int ((σ 0).1 13), .ref (ad 0 8), .ref (ad 0 9), .ref (ad 0 10), .ref (ad 0 11), .ref (ad 0 12), .int ((σ 0).1 14), .ref (ad 0 13), .ref (ad 0 14), .int ((σ 0).1 15), .int ((σ 0).1 16), .ref (ad 0 15), .ref (ad 0 16)] : List Value).set 2 (.int v))) = wM ad cs (w1 σ 0 2 v) := rfl
theorem s_M_3 {ad : Nat → Nat → Nat} {cs : Nat → ClassId} {σ : SX} {v : Int32} : (wM ad cs σ).set 0 (ad 0 0, .inr (7, ([.int ((σ 0).1 0), .int ((σ 0).1 1), .int ((σ 0).1 2), .ref (ad 0 1), .int ((σ 0).1 3), .ref (ad 0 2), .ref (ad 0 3), .int ((σ 0).1 4), .int ((σ 0).1 5), .int ((σ 0).1 6), .int ((σ 0).1 7), .int ((σ 0).1 8), .ref (ad 0 4), .int ((σ 0).1 9), .ref (ad 0 5), .ref (ad 0 6), .int ((σ 0).1 10), .int ((σ 0).1 11), .ref (ad 0 7), .int ((σ 0).1 12), .int ((σ 0).1 13), .ref (ad 0 8), .ref (ad 0 9), .ref (ad 0 10), .ref (ad 0 11), .ref (ad 0 12), .int ((σ 0).1 14), .ref (ad 0 13), .ref (ad 0 14), .int ((σ 0).1 15), .int ((σ 0).1 16), .ref (ad 0 15), .ref (ad 0 16)] : List Value).set 4 (.int v))) = wM ad cs (w1 σ 0 3 v) := rfl
theorem s_M_4 {ad : Nat → Nat → Nat} {cs : Nat → ClassId} {σ : SX} {v : Int32} : (wM ad cs σ).set 0 (ad 0 0, .inr (7, ([.int ((σ 0).1 0), .int ((σ 0).1 1), .int ((σ 0).1 2), .ref (ad 0 1), .int ((σ 0).1 3), .ref (ad 0 2), .ref (ad 0 3), .int ((σ 0).1 4), .int ((σ 0).1 5), .int ((σ 0).1 6), .int ((σ 0).1 7), .int ((σ 0).1 8), .ref (ad 0 4), .int ((σ 0).1 9), .ref (ad 0 5), .ref (ad 0 6), .int ((σ 0).1 10), .int ((σ 0).1 11), .ref (ad 0 7), .int ((σ 0).1 12), .int ((σ 0).1 13), .ref (ad 0 8), .ref (ad 0 9), .ref (ad 0 10), .ref (ad 0 11), .ref (ad 0 12), .int ((σ 0).1 14), .ref (ad 0 13), .ref (ad 0 14), .int ((σ 0).1 15), .int ((σ 0).1 16), .ref (ad 0 15), .ref (ad 0 16)] : List Value).set 7 (.int v))) = wM ad cs (w1 σ 0 4 v) := rfl
theorem s_M_5 {ad : Nat → Nat → Nat} {cs : Nat → ClassId} {σ : SX} {v : Int32} : (wM ad cs σ).set 0 (ad 0 0, .inr (7, ([.int ((σ 0).1 0), .int ((σ 0).1 1), .int ((σ 0).1 2), .ref (ad 0 1), .int ((σ 0).1 3), .ref (ad 0 2), .ref (ad 0 3), .int ((σ 0).1 4), .int ((σ 0).1 5), .int ((σ 0).1 6), .int ((σ 0).1 7), .int ((σ 0).1 8), .ref (ad 0 4), .int ((σ 0).1 9), .ref (ad 0 5), .ref (ad 0 6), .int ((σ 0).1 10), .int ((σ 0).1 11), .ref (ad 0 7), .int ((σ 0).1 12), .int ((σ 0).1 13), .ref (ad 0 8), .ref (ad 0 9), .ref (ad 0 10), .ref (ad 0 11), .ref (ad 0 12), .int ((σ 0).1 14), .ref (ad 0 13), .ref (ad 0 14), .int ((σ 0).1 15), .int ((σ 0).1 16), .ref (ad 0 15), .ref (ad 0 16)] : List Value).set 8 (.int v))) = wM ad cs (w1 σ 0 5 v) := rfl
theorem s_M_6 {ad : Nat → Nat → Nat} {cs : Nat → ClassId} {σ : SX} {v : Int32} : (wM ad cs σ).set 0 (ad 0 0, .inr (7, ([.int ((σ 0).1 0), .int ((σ 0).1 1), .int ((σ 0).1 2), .ref (ad 0 1), .int ((σ 0).1 3), .ref (ad 0 2), .ref (ad 0 3), .int ((σ 0).1 4), .int ((σ 0).1 5), .int ((σ 0).1 6), .int ((σ 0).1 7), .int ((σ 0).1 8), .ref (ad 0 4), .int ((σ 0).1 9), .ref (ad 0 5), .ref (ad 0 6), .int ((σ 0).1 10), .int ((σ 0).1 11), .ref (ad 0 7), .int ((σ 0).1 12), .int ((σ 0).1 13), .ref (ad 0 8), .ref (ad 0 9), .ref (ad 0 10), .ref (ad 0 11), .ref (ad 0 12), .int ((σ 0).1 14), .ref (ad 0 13), .ref (ad 0 14), .int ((σ 0).1 15), .int ((σ 0).1 16), .ref (ad 0 15), .ref (ad 0 16)] : List Value).set 9 (.int v))) = wM ad cs (w1 σ 0 6 v) := rfl
theorem s_M_7 {ad : Nat → Nat → Nat} {cs : Nat → ClassId} {σ : SX} {v : Int32} : (wM ad cs σ).set 0 (ad 0 0, .inr (7, ([.int ((σ 0).1 0), .int ((σ 0).1 1), .int ((σ 0).1 2), .ref (ad 0 1), .int ((σ 0).1 3), .ref (ad 0 2), .ref (ad 0 3), .int ((σ 0).1 4), .int ((σ 0).1 5), .int ((σ 0).1 6), .int ((σ 0).1 7), .int ((σ 0).1 8), .ref (ad 0 4), .int ((σ 0).1 9), .ref (ad 0 5), .ref (ad 0 6), .int ((σ 0).1 10), .int ((σ 0).1 11), .ref (ad 0 7), .int ((σ 0).1 12), .int ((σ 0).1 13), .ref (ad 0 8), .ref (ad 0 9), .ref (ad 0 10), .ref (ad 0 11), .ref (ad 0 12), .int ((σ 0).1 14), .ref (ad 0 13), .ref (ad 0 14), .int ((σ 0).1 15), .int ((σ 0).1 16), .ref (ad 0 15), .ref (ad 0 16)] : List Value).set 10 (.int v))) = wM ad cs (w1 σ 0 7 v) := rfl
theorem s_M_8 {ad : Nat → Nat → Nat} {cs : Nat → ClassId} {σ : SX} {v : Int32} : (wM ad cs σ).set 0 (ad 0 0, .inr (7, ([.int ((σ 0).1 0), .int ((σ 0).1 1), .int ((σ 0).1 2), .ref (ad 0 1), .int ((σ 0).1 3), .ref (ad 0 2), .ref (ad 0 3), .int ((σ 0).1 4), .int ((σ 0).1 5), .int ((σ 0).1 6), .int ((σ 0).1 7), .int ((σ 0).1 8), .ref (ad 0 4), .int ((σ 0).1 9), .ref (ad 0 5), .ref (ad 0 6), .int ((σ 0).1 10), .int ((σ 0).1 11), .ref (ad 0 7), .int ((σ 0).1 12), .int ((σ 0).1 13), .ref (ad 0 8), .ref (ad 0 9), .ref (ad 0 10), .ref (ad 0 11), .ref (ad 0 12), .int ((σ 0).1 14), .ref (ad 0 13), .ref (ad 0 14), .int ((σ 0).1 15), .int ((σ 0).1 16), .ref (ad 0 15), .ref (ad 0 16)] : List Value).set 11 (.int v))) = wM ad cs (w1 σ 0 8 v) := rfl
theorem s_M_9 {ad : Nat → Nat → Nat} {cs : Nat → ClassId} {σ : SX} {v : Int32} : (wM ad cs σ).set 0 (ad 0 0, .inr (7, ([.int ((σ 0).1 0), .int ((σ 0).1 1), .int ((σ 0).1 2), .ref (ad 0 1), .int ((σ 0).1 3), .ref (ad 0 2), .ref (ad 0 3), .int ((σ 0).1 4), .int ((σ 0).1 5), .int ((σ 0).1 6), .int ((σ 0).1 7), .int ((σ 0).1 8), .ref (ad 0 4), .int ((σ 0).1 9), .ref (ad 0 5), .ref (ad 0 6), .int ((σ 0).1 10), .int ((σ 0).1 11), .ref (ad 0 7), .int ((σ 0).1 12), .int ((σ 0).1 13), .ref (ad 0 8), .ref (ad 0 9), .ref (ad 0 10), .ref (ad 0 11), .ref (ad 0 12), .int ((σ 0).1 14), .ref (ad 0 13), .ref (ad 0 14), .int ((σ 0).1 15), .int ((σ 0).1 16), .ref (ad 0 15), .ref (ad 0 16)] : List Value).set 13 (.int v))) = wM ad cs (w1 σ 0 9 v) := rfl
theorem s_M_10 {ad : Nat → Nat → Nat} {cs : Nat → ClassId} {σ : SX} {v : Int32} : (wM ad cs σ).set 0 (ad 0 0, .inr (7, ([.int ((σ 0).1 0), .int ((σ 0).1 1), .int ((σ 0).1 2), .ref (ad 0 1), .int ((σ 0).1 3), .ref (ad 0 2), .ref (ad 0 3), .int ((σ 0).1 4), .int ((σ 0).1 5), .int ((σ 0).1 6), .int ((σ 0).1 7), .int ((σ 0).1 8), .ref (ad 0 4), .int ((σ 0).1 9), .ref (ad 0 5), .ref (ad 0 6), .int ((σ 0).1 10), .int ((σ 0).1 11), .ref (ad 0 7), .int ((σ 0).1 12), .int ((σ 0).1 13), .ref (ad 0 8), .ref (ad 0 9), .ref (ad 0 10), .ref (ad 0 11), .ref (ad 0 12), .int ((σ 0).1 14), .ref (ad 0 13), .ref (ad 0 14), .int ((σ 0).1 15), .int ((σ 0).1 16), .ref (ad 0 15), .ref (ad 0 16)] : List Value).set 16 (.int v))) = wM ad cs (w1 σ 0 10 v) := rfl
theorem s_M_11 {ad : Nat → Nat → Nat} {cs : Nat → ClassId} {σ : SX} {v : Int32} : (wM ad cs σ).set 0 (ad 0 0, .inr (7, ([.int ((σ 0).1 0), .int ((σ 0).1 1), .int ((σ 0).1 2), .ref (ad 0 1), .int ((σ 0).1 3), .ref (ad 0 2), .ref (ad 0 3), .int ((σ 0).1 4), .int ((σ 0).1 5), .int ((σ 0).1 6), .int ((σ 0).1 7), .int ((σ 0).1 8), .ref (ad 0 4), .int ((σ 0).1 9), .ref (ad 0 5), .ref (ad 0 6), .int ((σ 0).1 10), .int ((σ 0).1 11), .ref (ad 0 7), .int ((σ 0).1 12), .int ((σ 0).1 13), .ref (ad 0 8), .ref (ad 0 9), .ref (ad 0 10), .ref (ad 0 11), .ref (ad 0 12), .int ((σ 0).1 14), .ref (ad 0 13), .ref (ad 0 14), .int ((σ 0).1 15), .int ((σ 0).1 16), .ref (ad 0 15), .ref (ad 0 16)] : List Value).set 17 (.int v))) = wM ad cs (w1 σ 0 11 v) := rfl
theorem s_M_12 {ad : Nat → Nat → Nat} {cs : Nat → ClassId} {σ : SX} {v : Int32} : (wM ad cs σ).set 0 (ad 0 0, .inr (7, ([.int ((σ 0).1 0), .int ((σ 0).1 1), .int ((σ 0).1 2), .ref (ad 0 1), .int ((σ 0).1 3), .ref (ad 0 2), .ref (ad 0 3), .int ((σ 0).1 4), .int ((σ 0).1 5), .int ((σ 0).1 6), .int ((σ 0).1 7), .int ((σ 0).1 8), .ref (ad 0 4), .int ((σ 0).1 9), .ref (ad 0 5), .ref (ad 0 6), .int ((σ 0).1 10), .int ((σ 0).1 11), .ref (ad 0 7), .int ((σ 0).1 12), .int ((σ 0).1 13), .ref (ad 0 8), .ref (ad 0 9), .ref (ad 0 10), .ref (ad 0 11), .ref (ad 0 12), .int ((σ 0).1 14), .ref (ad 0 13), .ref (ad 0 14), .int ((σ 0).1 15), .int ((σ 0).1 16), .ref (ad 0 15), .ref (ad 0 16)] : List Value).set 19 (.int v))) = wM ad cs (w1 σ 0 12 v) := rfl
theorem s_M_13 {ad : Nat → Nat → Nat} {cs : Nat → ClassId} {σ : SX} {v : Int32} : (wM ad cs σ).set 0 (ad 0 0, .inr (7, ([.int ((σ 0).1 0), .int ((σ 0).1 1), .int ((σ 0).1 2), .ref (ad 0 1), .int ((σ 0).1 3), .ref (ad 0 2), .ref (ad 0 3), .int ((σ 0).1 4), .int ((σ 0).1 5), .int ((σ 0).1 6), .int ((σ 0).1 7), .int ((σ 0).1 8), .ref (ad 0 4), .int ((σ 0).1 9), .ref (ad 0 5), .ref (ad 0 6), .int ((σ 0).1 10), .int ((σ 0).1 11), .ref (ad 0 7), .int ((σ 0).1 12), .int ((σ 0).1 13), .ref (ad 0 8), .ref (ad 0 9), .ref (ad 0 10), .ref (ad 0 11), .ref (ad 0 12), .int ((σ 0).1 14), .ref (ad 0 13), .ref (ad 0 14), .int ((σ 0).1 15), .int ((σ 0).1 16), .ref (ad 0 15), .ref (ad 0 16)] : List Value).set 20 (.int v))) = wM ad cs (w1 σ 0 13 v) := rfl
theorem s_M_14 {ad : Nat → Nat → Nat} {cs : Nat → ClassId} {σ : SX} {v : Int32} : (wM ad cs σ).set 0 (ad 0 0, .inr (7, ([.int ((σ 0).1 0), .int ((σ 0).1 1), .int ((σ 0).1 2), .ref (ad 0 1), .int ((σ 0).1 3), .ref (ad 0 2), .ref (ad 0 3), .int ((σ 0).1 4), .int ((σ 0).1 5), .int ((σ 0).1 6), .int ((σ 0).1 7), .int ((σ 0).1 8), .ref (ad 0 4), .int ((σ 0).1 9), .ref (ad 0 5), .ref (ad 0 6), .int ((σ 0).1 10), .int ((σ 0).1 11), .ref (ad 0 7), .int ((σ 0).1 12), .int ((σ 0).1 13), .ref (ad 0 8), .ref (ad 0 9), .ref (ad 0 10), .ref (ad 0 11), .ref (ad 0 12), .int ((σ 0).1 14), .ref (ad 0 13), .ref (ad 0 14), .int ((σ 0).1 15), .int ((σ 0).1 16), .ref (ad 0 15), .ref (ad 0 16)] : List Value).set 26 (.int v))) = wM ad cs (w1 σ 0 14 v) := rfl
theorem s_M_15 {ad : Nat → Nat → Nat} {cs : Nat → ClassId} {σ : SX} {v : Int32} : (wM ad cs σ).set 0 (ad 0 0, .inr (7, ([.int ((σ 0).1 0), .int ((σ 0).1 1), .int ((σ 0).1 2), .ref (ad 0 1), .int ((σ 0).1 3), .ref (ad 0 2), .ref (ad 0 3), .int ((σ 0).1 4), .int ((σ 0).1 5), .int ((σ 0).1 6), .int ((σ 0).1 7), .int ((σ 0).1 8), .ref (ad 0 4), .int ((σ 0).1 9), .ref (ad 0 5), .ref (ad 0 6), .int ((σ 0).1 10), .int ((σ 0).1 11), .ref (ad 0 7), .int ((σ 0).1 12), .int ((σ 0).1 13), .ref (ad 0 8), .ref (ad 0 9), .ref (ad 0 10), .ref (ad 0 11), .ref (ad 0 12), .int ((σ 0).1 14), .ref (ad 0 13), .ref (ad 0 14), .int ((σ 0).1 15), .int ((σ 0).1 16), .ref (ad 0 15), .ref (ad 0 16)] : List Value).set 29 (.int v))) = wM ad cs (w1 σ 0 15 v) := rfl
theorem s_M_16 {ad : Nat → Nat → Nat} {cs : Nat → ClassId} {σ : SX} {v : Int32} : (wM ad cs σ).set 0 (ad 0 0, .inr (7, ([.int ((σ 0).1 0), .int ((σ 0).1 1), .int ((σ 0).1 2), .ref (ad 0 1), .int ((σ 0).1 3), .ref (ad 0 2), .ref (ad 0 3), .int ((σ 0).1 4), .int ((σ 0).1 5), .int ((σ 0).1 6), .int ((σ 0).1 7), .int ((σ 0).1 8), .ref (ad 0 4), .int ((σ 0).1 9), .ref (ad 0 5), .ref (ad 0 6), .int ((σ 0).1 10), .int ((σ 0).1 11), .ref (ad 0 7), .int ((σ 0).1 12), .int ((σ 0).1 13), .ref (ad 0 8), .ref (ad 0 9), .ref (ad 0 10), .ref (ad 0 11), .ref (ad 0 12), .int ((σ 0).1 14), .ref (ad 0 13), .ref (ad 0 14), .int ((σ 0).1 15), .int ((σ 0).1 16), .ref (ad 0 15), .ref (ad 0 16)] : List Value).set 30 (.int v))) = wM ad cs (w1 σ 0 16 v) := rfl
theorem g_tapes {ad : Nat → Nat → Nat} {cs : Nat → ClassId} {σ : SX} : (wX ad cs σ)[18]? = some (ad 0 9, .inl (cs 2, 4, .inr (.inr (.inr (.inr (fun i => some (ad (7 + i) 0))))))) := rfl
theorem g_values {ad : Nat → Nat → Nat} {cs : Nat → ClassId} {σ : SX} : (wX ad cs σ)[2]? = some (ad 1 9, .inl (cs 3, 2, .inr (.inr (.inr (.inr (fun i => some (ad 1 (1 + i)))))))) := rfl
abbrev preX (dC : Nat → ClassId) (dI : Nat → Nat → Nat) (ad : Nat → Nat → Nat) (cs : Nat → ClassId) (sz : Nat) (σ : SX) (U : State) : Prop := U.heap.size = sz ∧ va_P (dC, dI) classes (wX ad cs σ) U.heap ∧ va_K (dC, dI) classes (tyW cs) U ∧ va_D (fun _ => True) (wX ad cs σ) ∧ nwW U
abbrev atX (dC : Nat → ClassId) (dI : Nat → Nat → Nat) (ad : Nat → Nat → Nat) (cs : Nat → ClassId) (A : Nat → Prop) (u : SX) (t : State) : Prop := va_P (dC, dI) classes (wX ad cs u) t.heap ∧ va_K (dC, dI) classes (tyW cs) t ∧ va_D A (wX ad cs u)
theorem blindX {dC : Nat → ClassId} {dI : Nat → Nat → Nat} {ad : Nat → Nat → Nat} {cs : Nat → ClassId} {sz : Nat} {σ : SX} {av : List Value} : FrameBlind (va_Pc av (preX dC dI ad cs sz σ)) := by
  intro a U g mk q
  obtain ⟨q0, q1, qP, qK, qD, qN⟩ := q
  exact ⟨q0, q1, qP, va_K.moved (u := U) (U := U.calling g mk a) (Vm.Alike.refl U.vm) qK, qD, nw_same rfl qN⟩
theorem payX {dC : Nat → ClassId} {dI : Nat → Nat → Nat} {ad : Nat → Nat → Nat} {cs : Nat → ClassId} {σ : SX} {av : List Value} {s : State} {H : Heap} {A : Nat → Prop} (hP : va_P (dC, dI) classes (wX ad cs σ) H) (hK : va_K (dC, dI) classes (tyW cs) s) (hD : va_D A (wX ad cs σ)) (hN : nwW s) : ∀ U : State, U.heap = H → s.WarmedH U.vm → va_Pc av (preX dC dI ad cs H.size σ) av.toArray U :=
  fun U hU hW => ⟨rfl, by rw [hU], by rw [hU]; exact hP, va_K.moved hW.alike hK, hD.weaken (fun _ _ _ _ => trivial), nw_warm hW hN⟩
abbrev preM (dC : Nat → ClassId) (dI : Nat → Nat → Nat) (ad : Nat → Nat → Nat) (cs : Nat → ClassId) (sz : Nat) (σ : SX) (U : State) : Prop := U.heap.size = sz ∧ va_P (dC, dI) classes (wM ad cs σ) U.heap ∧ va_K (dC, dI) classes (tyW cs) U ∧ va_D (fun _ => True) (wM ad cs σ) ∧ nwW U
abbrev atM (dC : Nat → ClassId) (dI : Nat → Nat → Nat) (ad : Nat → Nat → Nat) (cs : Nat → ClassId) (A : Nat → Prop) (u : SX) (t : State) : Prop := va_P (dC, dI) classes (wM ad cs u) t.heap ∧ va_K (dC, dI) classes (tyW cs) t ∧ va_D A (wM ad cs u)
theorem blindM {dC : Nat → ClassId} {dI : Nat → Nat → Nat} {ad : Nat → Nat → Nat} {cs : Nat → ClassId} {sz : Nat} {σ : SX} {av : List Value} : FrameBlind (va_Pc av (preM dC dI ad cs sz σ)) := by
  intro a U g mk q
  obtain ⟨q0, q1, qP, qK, qD, qN⟩ := q
  exact ⟨q0, q1, qP, va_K.moved (u := U) (U := U.calling g mk a) (Vm.Alike.refl U.vm) qK, qD, nw_same rfl qN⟩
theorem payM {dC : Nat → ClassId} {dI : Nat → Nat → Nat} {ad : Nat → Nat → Nat} {cs : Nat → ClassId} {σ : SX} {av : List Value} {s : State} {H : Heap} {A : Nat → Prop} (hP : va_P (dC, dI) classes (wM ad cs σ) H) (hK : va_K (dC, dI) classes (tyW cs) s) (hD : va_D A (wM ad cs σ)) (hN : nwW s) : ∀ U : State, U.heap = H → s.WarmedH U.vm → va_Pc av (preM dC dI ad cs H.size σ) av.toArray U :=
  fun U hU hW => ⟨rfl, by rw [hU], by rw [hU]; exact hP, va_K.moved hW.alike hK, hD.weaken (fun _ _ _ _ => trivial), nw_warm hW hN⟩
end
section
theorem d_T_runLength_0 : decode b_T_runLength 0 = .ok (.iload_n 1, 1) := by decide +kernel
theorem d_T_runLength_1 : decode b_T_runLength 1 = .ok (.ifCond .lt 20, 3) := by decide +kernel
theorem d_T_runLength_4 : decode b_T_runLength 4 = .ok (.iload_n 1, 1) := by decide +kernel
theorem d_T_runLength_5 : decode b_T_runLength 5 = .ok (.aload_n 0, 1) := by decide +kernel
theorem d_T_runLength_6 : decode b_T_runLength 6 = .ok (.getfield 22, 3) := by decide +kernel
theorem d_T_runLength_9 : decode b_T_runLength 9 = .ok (.if_icmp .ge 12, 3) := by decide +kernel
theorem d_T_runLength_12 : decode b_T_runLength 12 = .ok (.aload_n 0, 1) := by decide +kernel
theorem d_T_runLength_13 : decode b_T_runLength 13 = .ok (.getfield 15, 3) := by decide +kernel
theorem d_T_runLength_16 : decode b_T_runLength 16 = .ok (.iload_n 1, 1) := by decide +kernel
theorem d_T_runLength_17 : decode b_T_runLength 17 = .ok (.iaload, 1) := by decide +kernel
theorem d_T_runLength_18 : decode b_T_runLength 18 = .ok (.goto 4, 3) := by decide +kernel
theorem d_T_runLength_21 : decode b_T_runLength 21 = .ok (.iconst (-1), 1) := by decide +kernel
theorem d_T_runLength_22 : decode b_T_runLength 22 = .ok (.ireturn, 1) := by decide +kernel
def m_T_runLength (N : Nat) (σ : SX) (i : Nat) (a1 : Int32) : Option (Int32 × SX) :=
  (if a1 < 0 then some ((-1), σ) else (if ((σ (7 + i)).1 1) ≤ a1 then some ((-1), σ) else (if inb a1 150 = true then some (((σ (7 + i)).2 2 a1.toNatClampNeg), σ) else none)))

set_option maxHeartbeats 4000000 in
set_option maxRecDepth 100000 in
theorem c_T_runLength (l : Launch) (dC : Nat → ClassId) (dI : Nat → Nat → Nat) (ad : Nat → Nat → Nat) (cs : Nat → ClassId) (sz N : Nat) (σ : SX) (i : Nat) (hi : i < 4) (a1 : Int32) {r0 : Int32} {σ0 : SX} (hM : m_T_runLength N σ i a1 = some (r0, σ0)) : Met l y_T_runLength (wd y_T_runLength b_T_runLength 2 (some .int)) ({ frames := 0, cells := 0, slots := 0, locals := 0 }) (va_Pc [.ref (ad (7 + i) 0), .int a1] (preX dC dI ad cs sz σ)) (va_Qi (fun (r : Int32) (u : SX) => r = r0 ∧ u = σ0) (atX dC dI ad cs (va_A (wX ad cs σ) sz)) (va_A (wX ad cs σ) sz)) 0 0 (va_A (wX ad cs σ) sz) := by
  refine Met.ofW (cc := b_T_runLength) (maxL := 2) (ret := (some .int)) (by decide) rfl ?_
  intro p e s m args below meth c s₁ B hml hv
  obtain ⟨rfl, hsz, hP, hK, hD0, hN⟩ := hv
  have hx := B.exec
  have hb := B.bytes
  have hr := B.returns
  have hts := atoms_spec (ws := (wd y_T_runLength b_T_runLength 2 (some .int))) B.pre
  have htb : ∀ w ∈ tb, w.before _ s = true := fun w h => hts w (List.mem_cons_of_mem _ h)
  have hown : s.vm.findClass R_T = some m.cls := findClass_of_methodNamed B.named
  have hlocks := B.notSynchronized
  subst hsz
  have hD := hD0.self (sz := s.heap.size)
  generalize hAe : va_A (wX ad cs σ) s.heap.size = A at hD ⊢
  have hA : ∀ q : Nat, s.heap.size ≤ q → A q := fun q h => by rw [← hAe]; exact Or.inr h
  have hS : va_S A s.heap s.heap [] := va_S.rf
  have hP : va_P (dC, dI) classes (wX ad cs σ) s.heap := hP
  have hl := lv_entry ([.ref (ad (7 + i) 0), .int a1]) (n := 2) (Nat.le_of_ble_eq_true rfl)
  rw [lg_entry_eq]
  generalize (lg_sl ([.ref (ad (7 + i) 0), .int a1]) ++ List.replicate (2 - (lg_sl ([.ref (ad (7 + i) 0), .int a1])).length) Slot.unset).toArray = ls at hl ⊢
  have hl : lv_has ls 2 [(0, .ref (ad (7 + i) 0)), (1, .int a1)] := hl
  rw [m_T_runLength] at hM
  refine lv_iload_n hx hb d_T_runLength_0 rfl (lv_at hl 1 rfl) ?_
  refine lv_if_lt (tgt := 21) hx hb d_T_runLength_1 (by decide) (fun h1 => ?_) (fun h1 => ?_)
  · rw [if_pos h1] at hM
    refine lv_iconst (v := (-1)) hx hb d_T_runLength_21 (by decide) ?_
    have e9 := Prod.mk.inj (Option.some.inj hM)
    exact W.iret (v := (-1)) hx hb hr (fun t ht hW => ⟨⟨(-1), σ, rfl, e9, by rw [ht]; exact hP, va_K.moved hW.alike hK, hD⟩, hS.F ht⟩) hS.2.2 d_T_runLength_22
  · rw [if_neg h1] at hM
    refine lv_iload_n hx hb d_T_runLength_4 rfl (lv_at hl 1 rfl) ?_
    refine lv_aload_n hx hb d_T_runLength_5 rfl (lv_at hl 0 rfl) ?_
    refine va_get (D := (dC, dI)) (ci := 6) (v := .int ((σ (7 + i)).1 1)) (C := R_T) (T := F_T) (N := 6) hx hb htb in_T hown hK hP (19 + 3 * i) (g_T hi) rfl 3 (by decide) (htb _ k_132) (fun _ h9 => h9) rfl d_T_runLength_6 ?_
    refine lv_icmp_ge (tgt := 21) hx hb d_T_runLength_9 (by decide) (fun h9 => ?_) (fun h9 => ?_)
    · rw [if_pos h9] at hM
      refine lv_iconst (v := (-1)) hx hb d_T_runLength_21 (by decide) ?_
      have e9 := Prod.mk.inj (Option.some.inj hM)
      exact W.iret (v := (-1)) hx hb hr (fun t ht hW => ⟨⟨(-1), σ, rfl, e9, by rw [ht]; exact hP, va_K.moved hW.alike hK, hD⟩, hS.F ht⟩) hS.2.2 d_T_runLength_22
    · rw [if_neg h9] at hM
      refine lv_aload_n hx hb d_T_runLength_12 rfl (lv_at hl 0 rfl) ?_
      refine va_get (D := (dC, dI)) (ci := 6) (v := .ref (ad (7 + i) 2)) (C := R_T) (T := F_T) (N := 6) hx hb htb in_T hown hK hP (19 + 3 * i) (g_T hi) rfl 1 (by decide) (htb _ k_130) (fun _ h9 => h9) rfl d_T_runLength_13 ?_
      refine lv_iload_n hx hb d_T_runLength_16 rfl (lv_at hl 1 rfl) ?_
      have hg17 := gd_c hM
      have hM := gd_v hM
      refine va_iald hx hb hK hP (19 + 3 * i + 2) 0 (g_T_a2 hi) rfl (inb_in hg17) d_T_runLength_17 ?_
      refine lv_goto (tgt := 22) hx hb d_T_runLength_18 (by decide) ?_
      have e9 := Prod.mk.inj (Option.some.inj hM)
      exact W.iret (v := ((σ (7 + i)).2 2 a1.toNatClampNeg)) hx hb hr (fun t ht hW => ⟨⟨((σ (7 + i)).2 2 a1.toNatClampNeg), σ, rfl, e9, by rw [ht]; exact hP, va_K.moved hW.alike hK, hD⟩, hS.F ht⟩) hS.2.2 d_T_runLength_22

theorem d_T_addDummies_0 : decode b_T_addDummies 0 = .ok (.aload_n 0, 1) := by decide +kernel
theorem d_T_addDummies_1 : decode b_T_addDummies 1 = .ok (.dup, 1) := by decide +kernel
theorem d_T_addDummies_2 : decode b_T_addDummies 2 = .ok (.getfield 25, 3) := by decide +kernel
theorem d_T_addDummies_5 : decode b_T_addDummies 5 = .ok (.iload_n 1, 1) := by decide +kernel
theorem d_T_addDummies_6 : decode b_T_addDummies 6 = .ok (.iadd, 1) := by decide +kernel
theorem d_T_addDummies_7 : decode b_T_addDummies 7 = .ok (.putfield 25, 3) := by decide +kernel
theorem d_T_addDummies_10 : decode b_T_addDummies 10 = .ok (.return_, 1) := by decide +kernel
def m_T_addDummies (N : Nat) (σ : SX) (i : Nat) (a1 : Int32) : Option (SX) :=
  some (w1 σ (7 + i) 2 (((σ (7 + i)).1 2) + a1))

set_option maxHeartbeats 4000000 in
set_option maxRecDepth 100000 in
theorem c_T_addDummies (l : Launch) (dC : Nat → ClassId) (dI : Nat → Nat → Nat) (ad : Nat → Nat → Nat) (cs : Nat → ClassId) (sz N : Nat) (σ : SX) (i : Nat) (hi : i < 4) (a1 : Int32) {σ0 : SX} (hM : m_T_addDummies N σ i a1 = some σ0) : Met l y_T_addDummies (wd y_T_addDummies b_T_addDummies 2 none) ({ frames := 0, cells := 0, slots := 0, locals := 0 }) (va_Pc [.ref (ad (7 + i) 0), .int a1] (preX dC dI ad cs sz σ)) (va_Qv (fun (u : SX) => u = σ0) (atX dC dI ad cs (va_A (wX ad cs σ) sz)) (va_A (wX ad cs σ) sz)) 0 0 (va_A (wX ad cs σ) sz) := by
  refine Met.ofW (cc := b_T_addDummies) (maxL := 2) (ret := none) (by decide) rfl ?_
  intro p e s m args below meth c s₁ B hml hv
  obtain ⟨rfl, hsz, hP, hK, hD0, hN⟩ := hv
  have hx := B.exec
  have hb := B.bytes
  have hr := B.returns
  have hts := atoms_spec (ws := (wd y_T_addDummies b_T_addDummies 2 none)) B.pre
  have htb : ∀ w ∈ tb, w.before _ s = true := fun w h => hts w (List.mem_cons_of_mem _ h)
  have hown : s.vm.findClass R_T = some m.cls := findClass_of_methodNamed B.named
  have hlocks := B.notSynchronized
  subst hsz
  have hD := hD0.self (sz := s.heap.size)
  generalize hAe : va_A (wX ad cs σ) s.heap.size = A at hD ⊢
  have hA : ∀ q : Nat, s.heap.size ≤ q → A q := fun q h => by rw [← hAe]; exact Or.inr h
  have hS : va_S A s.heap s.heap [] := va_S.rf
  have hP : va_P (dC, dI) classes (wX ad cs σ) s.heap := hP
  have hl := lv_entry ([.ref (ad (7 + i) 0), .int a1]) (n := 2) (Nat.le_of_ble_eq_true rfl)
  rw [lg_entry_eq]
  generalize (lg_sl ([.ref (ad (7 + i) 0), .int a1]) ++ List.replicate (2 - (lg_sl ([.ref (ad (7 + i) 0), .int a1])).length) Slot.unset).toArray = ls at hl ⊢
  have hl : lv_has ls 2 [(0, .ref (ad (7 + i) 0)), (1, .int a1)] := hl
  rw [m_T_addDummies] at hM
  refine lv_aload_n hx hb d_T_addDummies_0 rfl (lv_at hl 0 rfl) ?_
  refine lv_dup hx hb d_T_addDummies_1 rfl ?_
  refine va_get (D := (dC, dI)) (ci := 6) (v := .int ((σ (7 + i)).1 2)) (C := R_T) (T := F_T) (N := 6) hx hb htb in_T hown hK hP (19 + 3 * i) (g_T hi) rfl 4 (by decide) (htb _ k_133) (fun _ h9 => h9) rfl d_T_addDummies_2 ?_
  refine lv_iload_n hx hb d_T_addDummies_5 rfl (lv_at hl 1 rfl) ?_
  refine lv_iadd hx hb d_T_addDummies_6 ?_
  refine va_put (D := (dC, dI)) (ci := 6) (v := .int (((σ (7 + i)).1 2) + a1)) (ty := .int) (C := R_T) (T := F_T) (N := 6) hx hb htb in_T ft_T ft_T_ok n_T hown hK hP hD hS (19 + 3 * i) (g_T hi) rfl 4 (by decide) (htb _ k_133) (fun _ h9 => h9) rfl (by decide +kernel) rfl rfl (Nat.le_of_ble_eq_true rfl) d_T_addDummies_7 (fun H locs hP hD hS => ?_)
  have hP := P_eq (s_T_2 hi) hP
  have hD := D_eq (s_T_2 hi) hD
  have e9 := Option.some.inj hM
  exact W.vret hx hb hr (fun t ht hW => ⟨⟨(w1 σ (7 + i) 2 (((σ (7 + i)).1 2) + a1)), rfl, e9, by rw [ht]; exact hP, va_K.moved hW.alike hK, hD⟩, hS.F ht⟩) hS.2.2 d_T_addDummies_10

theorem d_T_append_0 : decode b_T_append 0 = .ok (.aload_n 0, 1) := by decide +kernel
theorem d_T_append_1 : decode b_T_append 1 = .ok (.getfield 22, 3) := by decide +kernel
theorem d_T_append_4 : decode b_T_append 4 = .ok (.sipush 150, 3) := by decide +kernel
theorem d_T_append_7 : decode b_T_append 7 = .ok (.if_icmp .ge 18, 3) := by decide +kernel
theorem d_T_append_10 : decode b_T_append 10 = .ok (.aload_n 1, 1) := by decide +kernel
theorem d_T_append_11 : decode b_T_append 11 = .ok (.getfield 35, 3) := by decide +kernel
theorem d_T_append_14 : decode b_T_append 14 = .ok (.sipush 150, 3) := by decide +kernel
theorem d_T_append_17 : decode b_T_append 17 = .ok (.aload_n 0, 1) := by decide +kernel
theorem d_T_append_18 : decode b_T_append 18 = .ok (.getfield 18, 3) := by decide +kernel
theorem d_T_append_21 : decode b_T_append 21 = .ok (.isub, 1) := by decide +kernel
theorem d_T_append_22 : decode b_T_append 22 = .ok (.if_icmp .le 4, 3) := by decide +kernel
theorem d_T_append_25 : decode b_T_append 25 = .ok (.return_, 1) := by decide +kernel
theorem d_T_append_26 : decode b_T_append 26 = .ok (.aload_n 1, 1) := by decide +kernel
theorem d_T_append_27 : decode b_T_append 27 = .ok (.getfield 40, 3) := by decide +kernel
theorem d_T_append_30 : decode b_T_append 30 = .ok (.iconst 0, 1) := by decide +kernel
theorem d_T_append_31 : decode b_T_append 31 = .ok (.aload_n 0, 1) := by decide +kernel
theorem d_T_append_32 : decode b_T_append 32 = .ok (.getfield 9, 3) := by decide +kernel
theorem d_T_append_35 : decode b_T_append 35 = .ok (.aload_n 0, 1) := by decide +kernel
theorem d_T_append_36 : decode b_T_append 36 = .ok (.getfield 18, 3) := by decide +kernel
theorem d_T_append_39 : decode b_T_append 39 = .ok (.aload_n 1, 1) := by decide +kernel
theorem d_T_append_40 : decode b_T_append 40 = .ok (.getfield 35, 3) := by decide +kernel
theorem d_T_append_43 : decode b_T_append 43 = .ok (.invokestatic 41, 3) := by decide +kernel
theorem d_T_append_46 : decode b_T_append 46 = .ok (.aload_n 0, 1) := by decide +kernel
theorem d_T_append_47 : decode b_T_append 47 = .ok (.dup, 1) := by decide +kernel
theorem d_T_append_48 : decode b_T_append 48 = .ok (.getfield 18, 3) := by decide +kernel
theorem d_T_append_51 : decode b_T_append 51 = .ok (.aload_n 1, 1) := by decide +kernel
theorem d_T_append_52 : decode b_T_append 52 = .ok (.getfield 35, 3) := by decide +kernel
theorem d_T_append_55 : decode b_T_append 55 = .ok (.iadd, 1) := by decide +kernel
theorem d_T_append_56 : decode b_T_append 56 = .ok (.putfield 18, 3) := by decide +kernel
theorem d_T_append_59 : decode b_T_append 59 = .ok (.aload_n 0, 1) := by decide +kernel
theorem d_T_append_60 : decode b_T_append 60 = .ok (.getfield 15, 3) := by decide +kernel
theorem d_T_append_63 : decode b_T_append 63 = .ok (.aload_n 0, 1) := by decide +kernel
theorem d_T_append_64 : decode b_T_append 64 = .ok (.getfield 22, 3) := by decide +kernel
theorem d_T_append_67 : decode b_T_append 67 = .ok (.aload_n 1, 1) := by decide +kernel
theorem d_T_append_68 : decode b_T_append 68 = .ok (.getfield 35, 3) := by decide +kernel
theorem d_T_append_71 : decode b_T_append 71 = .ok (.iastore, 1) := by decide +kernel
theorem d_T_append_72 : decode b_T_append 72 = .ok (.aload_n 0, 1) := by decide +kernel
theorem d_T_append_73 : decode b_T_append 73 = .ok (.dup, 1) := by decide +kernel
theorem d_T_append_74 : decode b_T_append 74 = .ok (.getfield 22, 3) := by decide +kernel
theorem d_T_append_77 : decode b_T_append 77 = .ok (.iconst 1, 1) := by decide +kernel
theorem d_T_append_78 : decode b_T_append 78 = .ok (.iadd, 1) := by decide +kernel
theorem d_T_append_79 : decode b_T_append 79 = .ok (.putfield 22, 3) := by decide +kernel
theorem d_T_append_82 : decode b_T_append 82 = .ok (.return_, 1) := by decide +kernel
def m_T_append (N : Nat) (σ : SX) (i : Nat) : Option (SX) :=
  (if 150 ≤ ((σ (7 + i)).1 1) then some σ else (if ((σ 6).1 0) ≤ (150 - ((σ (7 + i)).1 0)) then (if cpok 0 ((σ (7 + i)).1 0) ((σ 6).1 0) 150 150 = true then (if inb (((w1 (w2 σ (7 + i) 1 (va_cpy ((σ 6).2 1) ((σ (7 + i)).2 1) (0 : Int32).toNatClampNeg ((σ (7 + i)).1 0).toNatClampNeg ((σ 6).1 0).toNatClampNeg)) (7 + i) 0 ((((w2 σ (7 + i) 1 (va_cpy ((σ 6).2 1) ((σ (7 + i)).2 1) (0 : Int32).toNatClampNeg ((σ (7 + i)).1 0).toNatClampNeg ((σ 6).1 0).toNatClampNeg)) (7 + i)).1 0) + (((w2 σ (7 + i) 1 (va_cpy ((σ 6).2 1) ((σ (7 + i)).2 1) (0 : Int32).toNatClampNeg ((σ (7 + i)).1 0).toNatClampNeg ((σ 6).1 0).toNatClampNeg)) 6).1 0))) (7 + i)).1 1) 150 = true then some (w1 (w3 (w1 (w2 σ (7 + i) 1 (va_cpy ((σ 6).2 1) ((σ (7 + i)).2 1) (0 : Int32).toNatClampNeg ((σ (7 + i)).1 0).toNatClampNeg ((σ 6).1 0).toNatClampNeg)) (7 + i) 0 ((((w2 σ (7 + i) 1 (va_cpy ((σ 6).2 1) ((σ (7 + i)).2 1) (0 : Int32).toNatClampNeg ((σ (7 + i)).1 0).toNatClampNeg ((σ 6).1 0).toNatClampNeg)) (7 + i)).1 0) + (((w2 σ (7 + i) 1 (va_cpy ((σ 6).2 1) ((σ (7 + i)).2 1) (0 : Int32).toNatClampNeg ((σ (7 + i)).1 0).toNatClampNeg ((σ 6).1 0).toNatClampNeg)) 6).1 0))) (7 + i) 2 (((w1 (w2 σ (7 + i) 1 (va_cpy ((σ 6).2 1) ((σ (7 + i)).2 1) (0 : Int32).toNatClampNeg ((σ (7 + i)).1 0).toNatClampNeg ((σ 6).1 0).toNatClampNeg)) (7 + i) 0 ((((w2 σ (7 + i) 1 (va_cpy ((σ 6).2 1) ((σ (7 + i)).2 1) (0 : Int32).toNatClampNeg ((σ (7 + i)).1 0).toNatClampNeg ((σ 6).1 0).toNatClampNeg)) (7 + i)).1 0) + (((w2 σ (7 + i) 1 (va_cpy ((σ 6).2 1) ((σ (7 + i)).2 1) (0 : Int32).toNatClampNeg ((σ (7 + i)).1 0).toNatClampNeg ((σ 6).1 0).toNatClampNeg)) 6).1 0))) (7 + i)).1 1) (((w1 (w2 σ (7 + i) 1 (va_cpy ((σ 6).2 1) ((σ (7 + i)).2 1) (0 : Int32).toNatClampNeg ((σ (7 + i)).1 0).toNatClampNeg ((σ 6).1 0).toNatClampNeg)) (7 + i) 0 ((((w2 σ (7 + i) 1 (va_cpy ((σ 6).2 1) ((σ (7 + i)).2 1) (0 : Int32).toNatClampNeg ((σ (7 + i)).1 0).toNatClampNeg ((σ 6).1 0).toNatClampNeg)) (7 + i)).1 0) + (((w2 σ (7 + i) 1 (va_cpy ((σ 6).2 1) ((σ (7 + i)).2 1) (0 : Int32).toNatClampNeg ((σ (7 + i)).1 0).toNatClampNeg ((σ 6).1 0).toNatClampNeg)) 6).1 0))) 6).1 0)) (7 + i) 1 ((((w3 (w1 (w2 σ (7 + i) 1 (va_cpy ((σ 6).2 1) ((σ (7 + i)).2 1) (0 : Int32).toNatClampNeg ((σ (7 + i)).1 0).toNatClampNeg ((σ 6).1 0).toNatClampNeg)) (7 + i) 0 ((((w2 σ (7 + i) 1 (va_cpy ((σ 6).2 1) ((σ (7 + i)).2 1) (0 : Int32).toNatClampNeg ((σ (7 + i)).1 0).toNatClampNeg ((σ 6).1 0).toNatClampNeg)) (7 + i)).1 0) + (((w2 σ (7 + i) 1 (va_cpy ((σ 6).2 1) ((σ (7 + i)).2 1) (0 : Int32).toNatClampNeg ((σ (7 + i)).1 0).toNatClampNeg ((σ 6).1 0).toNatClampNeg)) 6).1 0))) (7 + i) 2 (((w1 (w2 σ (7 + i) 1 (va_cpy ((σ 6).2 1) ((σ (7 + i)).2 1) (0 : Int32).toNatClampNeg ((σ (7 + i)).1 0).toNatClampNeg ((σ 6).1 0).toNatClampNeg)) (7 + i) 0 ((((w2 σ (7 + i) 1 (va_cpy ((σ 6).2 1) ((σ (7 + i)).2 1) (0 : Int32).toNatClampNeg ((σ (7 + i)).1 0).toNatClampNeg ((σ 6).1 0).toNatClampNeg)) (7 + i)).1 0) + (((w2 σ (7 + i) 1 (va_cpy ((σ 6).2 1) ((σ (7 + i)).2 1) (0 : Int32).toNatClampNeg ((σ (7 + i)).1 0).toNatClampNeg ((σ 6).1 0).toNatClampNeg)) 6).1 0))) (7 + i)).1 1) (((w1 (w2 σ (7 + i) 1 (va_cpy ((σ 6).2 1) ((σ (7 + i)).2 1) (0 : Int32).toNatClampNeg ((σ (7 + i)).1 0).toNatClampNeg ((σ 6).1 0).toNatClampNeg)) (7 + i) 0 ((((w2 σ (7 + i) 1 (va_cpy ((σ 6).2 1) ((σ (7 + i)).2 1) (0 : Int32).toNatClampNeg ((σ (7 + i)).1 0).toNatClampNeg ((σ 6).1 0).toNatClampNeg)) (7 + i)).1 0) + (((w2 σ (7 + i) 1 (va_cpy ((σ 6).2 1) ((σ (7 + i)).2 1) (0 : Int32).toNatClampNeg ((σ (7 + i)).1 0).toNatClampNeg ((σ 6).1 0).toNatClampNeg)) 6).1 0))) 6).1 0)) (7 + i)).1 1) + 1)) else none) else none) else some σ))

set_option maxHeartbeats 4000000 in
set_option maxRecDepth 100000 in
theorem c_T_append (l : Launch) (dC : Nat → ClassId) (dI : Nat → Nat → Nat) (ad : Nat → Nat → Nat) (cs : Nat → ClassId) (sz N : Nat) (σ : SX) (i : Nat) (hi : i < 4) {σ0 : SX} (hM : m_T_append N σ i = some σ0) : Met l y_T_append (wd y_T_append b_T_append 2 none) ({ frames := 1, cells := 0, slots := 0, locals := 60 }) (va_Pc [.ref (ad (7 + i) 0), .ref (ad 6 0)] (preX dC dI ad cs sz σ)) (va_Qv (fun (u : SX) => u = σ0) (atX dC dI ad cs (va_A (wX ad cs σ) sz)) (va_A (wX ad cs σ) sz)) 0 0 (va_A (wX ad cs σ) sz) := by
  refine Met.ofW (cc := b_T_append) (maxL := 2) (ret := none) (by decide) rfl ?_
  intro p e s m args below meth c s₁ B hml hv
  obtain ⟨rfl, hsz, hP, hK, hD0, hN⟩ := hv
  have hx := B.exec
  have hb := B.bytes
  have hr := B.returns
  have hts := atoms_spec (ws := (wd y_T_append b_T_append 2 none)) B.pre
  have htb : ∀ w ∈ tb, w.before _ s = true := fun w h => hts w (List.mem_cons_of_mem _ h)
  have hown : s.vm.findClass R_T = some m.cls := findClass_of_methodNamed B.named
  have hlocks := B.notSynchronized
  subst hsz
  have hD := hD0.self (sz := s.heap.size)
  generalize hAe : va_A (wX ad cs σ) s.heap.size = A at hD ⊢
  have hA : ∀ q : Nat, s.heap.size ≤ q → A q := fun q h => by rw [← hAe]; exact Or.inr h
  have hS : va_S A s.heap s.heap [] := va_S.rf
  have hP : va_P (dC, dI) classes (wX ad cs σ) s.heap := hP
  have hl := lv_entry ([.ref (ad (7 + i) 0), .ref (ad 6 0)]) (n := 2) (Nat.le_of_ble_eq_true rfl)
  rw [lg_entry_eq]
  generalize (lg_sl ([.ref (ad (7 + i) 0), .ref (ad 6 0)]) ++ List.replicate (2 - (lg_sl ([.ref (ad (7 + i) 0), .ref (ad 6 0)])).length) Slot.unset).toArray = ls at hl ⊢
  have hl : lv_has ls 2 [(0, .ref (ad (7 + i) 0)), (1, .ref (ad 6 0))] := hl
  rw [m_T_append] at hM
  refine lv_aload_n hx hb d_T_append_0 rfl (lv_at hl 0 rfl) ?_
  refine va_get (D := (dC, dI)) (ci := 6) (v := .int ((σ (7 + i)).1 1)) (C := R_T) (T := F_T) (N := 6) hx hb htb in_T hown hK hP (19 + 3 * i) (g_T hi) rfl 3 (by decide) (htb _ k_132) (fun _ h9 => h9) rfl d_T_append_1 ?_
  refine lv_sipush (v := 150) hx hb d_T_append_4 (by decide) ?_
  refine lv_icmp_ge (tgt := 25) hx hb d_T_append_7 (by decide) (fun h7 => ?_) (fun h7 => ?_)
  · rw [if_pos h7] at hM
    have e9 := Option.some.inj hM
    exact W.vret hx hb hr (fun t ht hW => ⟨⟨σ, rfl, e9, by rw [ht]; exact hP, va_K.moved hW.alike hK, hD⟩, hS.F ht⟩) hS.2.2 d_T_append_25
  · rw [if_neg h7] at hM
    refine lv_aload_n hx hb d_T_append_10 rfl (lv_at hl 1 rfl) ?_
    refine va_getN (D := (dC, dI)) (ci := 5) (v := .int ((σ 6).1 0)) (C := R_R) (T := F_R) (N := 2) hx hb htb in_R hown hK hP 16 (g_R) rfl 1 (by decide) (va_Nw.use rfl hN.2.2.2.2.2.1) (fun _ h9 => h9) rfl d_T_append_11 ?_
    refine lv_sipush (v := 150) hx hb d_T_append_14 (by decide) ?_
    refine lv_aload_n hx hb d_T_append_17 rfl (lv_at hl 0 rfl) ?_
    refine va_get (D := (dC, dI)) (ci := 6) (v := .int ((σ (7 + i)).1 0)) (C := R_T) (T := F_T) (N := 6) hx hb htb in_T hown hK hP (19 + 3 * i) (g_T hi) rfl 2 (by decide) (htb _ k_131) (fun _ h9 => h9) rfl d_T_append_18 ?_
    refine lv_isub hx hb d_T_append_21 ?_
    refine lv_icmp_le (tgt := 26) hx hb d_T_append_22 (by decide) (fun h22 => ?_) (fun h22 => ?_)
    · rw [if_pos h22] at hM
      refine lv_aload_n hx hb d_T_append_26 rfl (lv_at hl 1 rfl) ?_
      refine va_getN (D := (dC, dI)) (ci := 5) (v := .ref (ad 6 1)) (C := R_R) (T := F_R) (N := 2) hx hb htb in_R hown hK hP 16 (g_R) rfl 0 (by decide) (va_Nw.use rfl hN.2.2.2.2.1) (fun _ h9 => h9) rfl d_T_append_27 ?_
      refine lv_iconst (v := 0) hx hb d_T_append_30 (by decide) ?_
      refine lv_aload_n hx hb d_T_append_31 rfl (lv_at hl 0 rfl) ?_
      refine va_get (D := (dC, dI)) (ci := 6) (v := .ref (ad (7 + i) 1)) (C := R_T) (T := F_T) (N := 6) hx hb htb in_T hown hK hP (19 + 3 * i) (g_T hi) rfl 0 (by decide) (htb _ k_129) (fun _ h9 => h9) rfl d_T_append_32 ?_
      refine lv_aload_n hx hb d_T_append_35 rfl (lv_at hl 0 rfl) ?_
      refine va_get (D := (dC, dI)) (ci := 6) (v := .int ((σ (7 + i)).1 0)) (C := R_T) (T := F_T) (N := 6) hx hb htb in_T hown hK hP (19 + 3 * i) (g_T hi) rfl 2 (by decide) (htb _ k_131) (fun _ h9 => h9) rfl d_T_append_36 ?_
      refine lv_aload_n hx hb d_T_append_39 rfl (lv_at hl 1 rfl) ?_
      refine va_getN (D := (dC, dI)) (ci := 5) (v := .int ((σ 6).1 0)) (C := R_R) (T := F_R) (N := 2) hx hb htb in_R hown hK hP 16 (g_R) rfl 1 (by decide) (va_Nw.use rfl hN.2.2.2.2.2.1) (fun _ h9 => h9) rfl d_T_append_40 ?_
      have hc43 := gd_c hM
      have hM := gd_v hM
      refine va_copyi (own := R_T) (sp := 0) (dp := ((σ (7 + i)).1 0)) (n := ((σ 6).1 0)) hx hb (by rw [hml]; exact hl.1.symm) hown (htb _ k_547) (htb _ k_549) (htb _ k_548) (htb _ k_15) hK hP hD hS 17 (19 + 3 * i + 1) 0 0 (g_R_a1) (g_T_a1 hi) rfl rfl rfl (cpok_1 hc43) (cpok_2 hc43) (cpok_3 hc43) (cpok_4 hc43) (cpok_5 hc43) (fun _ _ => rfl) (Nat.le_of_ble_eq_true rfl) (by decide) d_T_append_43 (fun H locs hP hD hS => ?_)
      have hP := P_eq (u_T_1 hi) hP
      have hD := D_eq (u_T_1 hi) hD
      refine lv_aload_n hx hb d_T_append_46 rfl (lv_at hl 0 rfl) ?_
      refine lv_dup hx hb d_T_append_47 rfl ?_
      refine va_get (D := (dC, dI)) (ci := 6) (v := .int (((w2 σ (7 + i) 1 (va_cpy ((σ 6).2 1) ((σ (7 + i)).2 1) (0 : Int32).toNatClampNeg ((σ (7 + i)).1 0).toNatClampNeg ((σ 6).1 0).toNatClampNeg)) (7 + i)).1 0)) (C := R_T) (T := F_T) (N := 6) hx hb htb in_T hown hK hP (19 + 3 * i) (g_T hi) rfl 2 (by decide) (htb _ k_131) (fun _ h9 => h9) rfl d_T_append_48 ?_
      refine lv_aload_n hx hb d_T_append_51 rfl (lv_at hl 1 rfl) ?_
      refine va_getN (D := (dC, dI)) (ci := 5) (v := .int (((w2 σ (7 + i) 1 (va_cpy ((σ 6).2 1) ((σ (7 + i)).2 1) (0 : Int32).toNatClampNeg ((σ (7 + i)).1 0).toNatClampNeg ((σ 6).1 0).toNatClampNeg)) 6).1 0)) (C := R_R) (T := F_R) (N := 2) hx hb htb in_R hown hK hP 16 (g_R) rfl 1 (by decide) (va_Nw.use rfl hN.2.2.2.2.2.1) (fun _ h9 => h9) rfl d_T_append_52 ?_
      refine lv_iadd hx hb d_T_append_55 ?_
      refine va_put (D := (dC, dI)) (ci := 6) (v := .int ((((w2 σ (7 + i) 1 (va_cpy ((σ 6).2 1) ((σ (7 + i)).2 1) (0 : Int32).toNatClampNeg ((σ (7 + i)).1 0).toNatClampNeg ((σ 6).1 0).toNatClampNeg)) (7 + i)).1 0) + (((w2 σ (7 + i) 1 (va_cpy ((σ 6).2 1) ((σ (7 + i)).2 1) (0 : Int32).toNatClampNeg ((σ (7 + i)).1 0).toNatClampNeg ((σ 6).1 0).toNatClampNeg)) 6).1 0))) (ty := .int) (C := R_T) (T := F_T) (N := 6) hx hb htb in_T ft_T ft_T_ok n_T hown hK hP hD hS (19 + 3 * i) (g_T hi) rfl 2 (by decide) (htb _ k_131) (fun _ h9 => h9) rfl (by decide +kernel) rfl rfl (Nat.le_of_ble_eq_true rfl) d_T_append_56 (fun H locs hP hD hS => ?_)
      have hP := P_eq (s_T_0 hi) hP
      have hD := D_eq (s_T_0 hi) hD
      refine lv_aload_n hx hb d_T_append_59 rfl (lv_at hl 0 rfl) ?_
      refine va_get (D := (dC, dI)) (ci := 6) (v := .ref (ad (7 + i) 2)) (C := R_T) (T := F_T) (N := 6) hx hb htb in_T hown hK hP (19 + 3 * i) (g_T hi) rfl 1 (by decide) (htb _ k_130) (fun _ h9 => h9) rfl d_T_append_60 ?_
      refine lv_aload_n hx hb d_T_append_63 rfl (lv_at hl 0 rfl) ?_
      refine va_get (D := (dC, dI)) (ci := 6) (v := .int (((w1 (w2 σ (7 + i) 1 (va_cpy ((σ 6).2 1) ((σ (7 + i)).2 1) (0 : Int32).toNatClampNeg ((σ (7 + i)).1 0).toNatClampNeg ((σ 6).1 0).toNatClampNeg)) (7 + i) 0 ((((w2 σ (7 + i) 1 (va_cpy ((σ 6).2 1) ((σ (7 + i)).2 1) (0 : Int32).toNatClampNeg ((σ (7 + i)).1 0).toNatClampNeg ((σ 6).1 0).toNatClampNeg)) (7 + i)).1 0) + (((w2 σ (7 + i) 1 (va_cpy ((σ 6).2 1) ((σ (7 + i)).2 1) (0 : Int32).toNatClampNeg ((σ (7 + i)).1 0).toNatClampNeg ((σ 6).1 0).toNatClampNeg)) 6).1 0))) (7 + i)).1 1)) (C := R_T) (T := F_T) (N := 6) hx hb htb in_T hown hK hP (19 + 3 * i) (g_T hi) rfl 3 (by decide) (htb _ k_132) (fun _ h9 => h9) rfl d_T_append_64 ?_
      refine lv_aload_n hx hb d_T_append_67 rfl (lv_at hl 1 rfl) ?_
      refine va_getN (D := (dC, dI)) (ci := 5) (v := .int (((w1 (w2 σ (7 + i) 1 (va_cpy ((σ 6).2 1) ((σ (7 + i)).2 1) (0 : Int32).toNatClampNeg ((σ (7 + i)).1 0).toNatClampNeg ((σ 6).1 0).toNatClampNeg)) (7 + i) 0 ((((w2 σ (7 + i) 1 (va_cpy ((σ 6).2 1) ((σ (7 + i)).2 1) (0 : Int32).toNatClampNeg ((σ (7 + i)).1 0).toNatClampNeg ((σ 6).1 0).toNatClampNeg)) (7 + i)).1 0) + (((w2 σ (7 + i) 1 (va_cpy ((σ 6).2 1) ((σ (7 + i)).2 1) (0 : Int32).toNatClampNeg ((σ (7 + i)).1 0).toNatClampNeg ((σ 6).1 0).toNatClampNeg)) 6).1 0))) 6).1 0)) (C := R_R) (T := F_R) (N := 2) hx hb htb in_R hown hK hP 16 (g_R) rfl 1 (by decide) (va_Nw.use rfl hN.2.2.2.2.2.1) (fun _ h9 => h9) rfl d_T_append_68 ?_
      have hg71 := gd_c hM
      have hM := gd_v hM
      refine va_iast (i := (((w1 (w2 σ (7 + i) 1 (va_cpy ((σ 6).2 1) ((σ (7 + i)).2 1) (0 : Int32).toNatClampNeg ((σ (7 + i)).1 0).toNatClampNeg ((σ 6).1 0).toNatClampNeg)) (7 + i) 0 ((((w2 σ (7 + i) 1 (va_cpy ((σ 6).2 1) ((σ (7 + i)).2 1) (0 : Int32).toNatClampNeg ((σ (7 + i)).1 0).toNatClampNeg ((σ 6).1 0).toNatClampNeg)) (7 + i)).1 0) + (((w2 σ (7 + i) 1 (va_cpy ((σ 6).2 1) ((σ (7 + i)).2 1) (0 : Int32).toNatClampNeg ((σ (7 + i)).1 0).toNatClampNeg ((σ 6).1 0).toNatClampNeg)) 6).1 0))) (7 + i)).1 1)) (x := (((w1 (w2 σ (7 + i) 1 (va_cpy ((σ 6).2 1) ((σ (7 + i)).2 1) (0 : Int32).toNatClampNeg ((σ (7 + i)).1 0).toNatClampNeg ((σ 6).1 0).toNatClampNeg)) (7 + i) 0 ((((w2 σ (7 + i) 1 (va_cpy ((σ 6).2 1) ((σ (7 + i)).2 1) (0 : Int32).toNatClampNeg ((σ (7 + i)).1 0).toNatClampNeg ((σ 6).1 0).toNatClampNeg)) (7 + i)).1 0) + (((w2 σ (7 + i) 1 (va_cpy ((σ 6).2 1) ((σ (7 + i)).2 1) (0 : Int32).toNatClampNeg ((σ (7 + i)).1 0).toNatClampNeg ((σ 6).1 0).toNatClampNeg)) 6).1 0))) 6).1 0)) hx hb hK hP hD hS (19 + 3 * i + 2) 0 (g_T_a2 hi) rfl (inb_in hg71) d_T_append_71 (fun H locs hP hD hS => ?_)
      have hP := P_eq (t_T_2 hi) hP
      have hD := D_eq (t_T_2 hi) hD
      refine lv_aload_n hx hb d_T_append_72 rfl (lv_at hl 0 rfl) ?_
      refine lv_dup hx hb d_T_append_73 rfl ?_
      refine va_get (D := (dC, dI)) (ci := 6) (v := .int (((w3 (w1 (w2 σ (7 + i) 1 (va_cpy ((σ 6).2 1) ((σ (7 + i)).2 1) (0 : Int32).toNatClampNeg ((σ (7 + i)).1 0).toNatClampNeg ((σ 6).1 0).toNatClampNeg)) (7 + i) 0 ((((w2 σ (7 + i) 1 (va_cpy ((σ 6).2 1) ((σ (7 + i)).2 1) (0 : Int32).toNatClampNeg ((σ (7 + i)).1 0).toNatClampNeg ((σ 6).1 0).toNatClampNeg)) (7 + i)).1 0) + (((w2 σ (7 + i) 1 (va_cpy ((σ 6).2 1) ((σ (7 + i)).2 1) (0 : Int32).toNatClampNeg ((σ (7 + i)).1 0).toNatClampNeg ((σ 6).1 0).toNatClampNeg)) 6).1 0))) (7 + i) 2 (((w1 (w2 σ (7 + i) 1 (va_cpy ((σ 6).2 1) ((σ (7 + i)).2 1) (0 : Int32).toNatClampNeg ((σ (7 + i)).1 0).toNatClampNeg ((σ 6).1 0).toNatClampNeg)) (7 + i) 0 ((((w2 σ (7 + i) 1 (va_cpy ((σ 6).2 1) ((σ (7 + i)).2 1) (0 : Int32).toNatClampNeg ((σ (7 + i)).1 0).toNatClampNeg ((σ 6).1 0).toNatClampNeg)) (7 + i)).1 0) + (((w2 σ (7 + i) 1 (va_cpy ((σ 6).2 1) ((σ (7 + i)).2 1) (0 : Int32).toNatClampNeg ((σ (7 + i)).1 0).toNatClampNeg ((σ 6).1 0).toNatClampNeg)) 6).1 0))) (7 + i)).1 1) (((w1 (w2 σ (7 + i) 1 (va_cpy ((σ 6).2 1) ((σ (7 + i)).2 1) (0 : Int32).toNatClampNeg ((σ (7 + i)).1 0).toNatClampNeg ((σ 6).1 0).toNatClampNeg)) (7 + i) 0 ((((w2 σ (7 + i) 1 (va_cpy ((σ 6).2 1) ((σ (7 + i)).2 1) (0 : Int32).toNatClampNeg ((σ (7 + i)).1 0).toNatClampNeg ((σ 6).1 0).toNatClampNeg)) (7 + i)).1 0) + (((w2 σ (7 + i) 1 (va_cpy ((σ 6).2 1) ((σ (7 + i)).2 1) (0 : Int32).toNatClampNeg ((σ (7 + i)).1 0).toNatClampNeg ((σ 6).1 0).toNatClampNeg)) 6).1 0))) 6).1 0)) (7 + i)).1 1)) (C := R_T) (T := F_T) (N := 6) hx hb htb in_T hown hK hP (19 + 3 * i) (g_T hi) rfl 3 (by decide) (htb _ k_132) (fun _ h9 => h9) rfl d_T_append_74 ?_
      refine lv_iconst (v := 1) hx hb d_T_append_77 (by decide) ?_
      refine lv_iadd hx hb d_T_append_78 ?_
      refine va_put (D := (dC, dI)) (ci := 6) (v := .int ((((w3 (w1 (w2 σ (7 + i) 1 (va_cpy ((σ 6).2 1) ((σ (7 + i)).2 1) (0 : Int32).toNatClampNeg ((σ (7 + i)).1 0).toNatClampNeg ((σ 6).1 0).toNatClampNeg)) (7 + i) 0 ((((w2 σ (7 + i) 1 (va_cpy ((σ 6).2 1) ((σ (7 + i)).2 1) (0 : Int32).toNatClampNeg ((σ (7 + i)).1 0).toNatClampNeg ((σ 6).1 0).toNatClampNeg)) (7 + i)).1 0) + (((w2 σ (7 + i) 1 (va_cpy ((σ 6).2 1) ((σ (7 + i)).2 1) (0 : Int32).toNatClampNeg ((σ (7 + i)).1 0).toNatClampNeg ((σ 6).1 0).toNatClampNeg)) 6).1 0))) (7 + i) 2 (((w1 (w2 σ (7 + i) 1 (va_cpy ((σ 6).2 1) ((σ (7 + i)).2 1) (0 : Int32).toNatClampNeg ((σ (7 + i)).1 0).toNatClampNeg ((σ 6).1 0).toNatClampNeg)) (7 + i) 0 ((((w2 σ (7 + i) 1 (va_cpy ((σ 6).2 1) ((σ (7 + i)).2 1) (0 : Int32).toNatClampNeg ((σ (7 + i)).1 0).toNatClampNeg ((σ 6).1 0).toNatClampNeg)) (7 + i)).1 0) + (((w2 σ (7 + i) 1 (va_cpy ((σ 6).2 1) ((σ (7 + i)).2 1) (0 : Int32).toNatClampNeg ((σ (7 + i)).1 0).toNatClampNeg ((σ 6).1 0).toNatClampNeg)) 6).1 0))) (7 + i)).1 1) (((w1 (w2 σ (7 + i) 1 (va_cpy ((σ 6).2 1) ((σ (7 + i)).2 1) (0 : Int32).toNatClampNeg ((σ (7 + i)).1 0).toNatClampNeg ((σ 6).1 0).toNatClampNeg)) (7 + i) 0 ((((w2 σ (7 + i) 1 (va_cpy ((σ 6).2 1) ((σ (7 + i)).2 1) (0 : Int32).toNatClampNeg ((σ (7 + i)).1 0).toNatClampNeg ((σ 6).1 0).toNatClampNeg)) (7 + i)).1 0) + (((w2 σ (7 + i) 1 (va_cpy ((σ 6).2 1) ((σ (7 + i)).2 1) (0 : Int32).toNatClampNeg ((σ (7 + i)).1 0).toNatClampNeg ((σ 6).1 0).toNatClampNeg)) 6).1 0))) 6).1 0)) (7 + i)).1 1) + 1)) (ty := .int) (C := R_T) (T := F_T) (N := 6) hx hb htb in_T ft_T ft_T_ok n_T hown hK hP hD hS (19 + 3 * i) (g_T hi) rfl 3 (by decide) (htb _ k_132) (fun _ h9 => h9) rfl (by decide +kernel) rfl rfl (Nat.le_of_ble_eq_true rfl) d_T_append_79 (fun H locs hP hD hS => ?_)
      have hP := P_eq (s_T_1 hi) hP
      have hD := D_eq (s_T_1 hi) hD
      have e9 := Option.some.inj hM
      exact W.vret hx hb hr (fun t ht hW => ⟨⟨(w1 (w3 (w1 (w2 σ (7 + i) 1 (va_cpy ((σ 6).2 1) ((σ (7 + i)).2 1) (0 : Int32).toNatClampNeg ((σ (7 + i)).1 0).toNatClampNeg ((σ 6).1 0).toNatClampNeg)) (7 + i) 0 ((((w2 σ (7 + i) 1 (va_cpy ((σ 6).2 1) ((σ (7 + i)).2 1) (0 : Int32).toNatClampNeg ((σ (7 + i)).1 0).toNatClampNeg ((σ 6).1 0).toNatClampNeg)) (7 + i)).1 0) + (((w2 σ (7 + i) 1 (va_cpy ((σ 6).2 1) ((σ (7 + i)).2 1) (0 : Int32).toNatClampNeg ((σ (7 + i)).1 0).toNatClampNeg ((σ 6).1 0).toNatClampNeg)) 6).1 0))) (7 + i) 2 (((w1 (w2 σ (7 + i) 1 (va_cpy ((σ 6).2 1) ((σ (7 + i)).2 1) (0 : Int32).toNatClampNeg ((σ (7 + i)).1 0).toNatClampNeg ((σ 6).1 0).toNatClampNeg)) (7 + i) 0 ((((w2 σ (7 + i) 1 (va_cpy ((σ 6).2 1) ((σ (7 + i)).2 1) (0 : Int32).toNatClampNeg ((σ (7 + i)).1 0).toNatClampNeg ((σ 6).1 0).toNatClampNeg)) (7 + i)).1 0) + (((w2 σ (7 + i) 1 (va_cpy ((σ 6).2 1) ((σ (7 + i)).2 1) (0 : Int32).toNatClampNeg ((σ (7 + i)).1 0).toNatClampNeg ((σ 6).1 0).toNatClampNeg)) 6).1 0))) (7 + i)).1 1) (((w1 (w2 σ (7 + i) 1 (va_cpy ((σ 6).2 1) ((σ (7 + i)).2 1) (0 : Int32).toNatClampNeg ((σ (7 + i)).1 0).toNatClampNeg ((σ 6).1 0).toNatClampNeg)) (7 + i) 0 ((((w2 σ (7 + i) 1 (va_cpy ((σ 6).2 1) ((σ (7 + i)).2 1) (0 : Int32).toNatClampNeg ((σ (7 + i)).1 0).toNatClampNeg ((σ 6).1 0).toNatClampNeg)) (7 + i)).1 0) + (((w2 σ (7 + i) 1 (va_cpy ((σ 6).2 1) ((σ (7 + i)).2 1) (0 : Int32).toNatClampNeg ((σ (7 + i)).1 0).toNatClampNeg ((σ 6).1 0).toNatClampNeg)) 6).1 0))) 6).1 0)) (7 + i) 1 ((((w3 (w1 (w2 σ (7 + i) 1 (va_cpy ((σ 6).2 1) ((σ (7 + i)).2 1) (0 : Int32).toNatClampNeg ((σ (7 + i)).1 0).toNatClampNeg ((σ 6).1 0).toNatClampNeg)) (7 + i) 0 ((((w2 σ (7 + i) 1 (va_cpy ((σ 6).2 1) ((σ (7 + i)).2 1) (0 : Int32).toNatClampNeg ((σ (7 + i)).1 0).toNatClampNeg ((σ 6).1 0).toNatClampNeg)) (7 + i)).1 0) + (((w2 σ (7 + i) 1 (va_cpy ((σ 6).2 1) ((σ (7 + i)).2 1) (0 : Int32).toNatClampNeg ((σ (7 + i)).1 0).toNatClampNeg ((σ 6).1 0).toNatClampNeg)) 6).1 0))) (7 + i) 2 (((w1 (w2 σ (7 + i) 1 (va_cpy ((σ 6).2 1) ((σ (7 + i)).2 1) (0 : Int32).toNatClampNeg ((σ (7 + i)).1 0).toNatClampNeg ((σ 6).1 0).toNatClampNeg)) (7 + i) 0 ((((w2 σ (7 + i) 1 (va_cpy ((σ 6).2 1) ((σ (7 + i)).2 1) (0 : Int32).toNatClampNeg ((σ (7 + i)).1 0).toNatClampNeg ((σ 6).1 0).toNatClampNeg)) (7 + i)).1 0) + (((w2 σ (7 + i) 1 (va_cpy ((σ 6).2 1) ((σ (7 + i)).2 1) (0 : Int32).toNatClampNeg ((σ (7 + i)).1 0).toNatClampNeg ((σ 6).1 0).toNatClampNeg)) 6).1 0))) (7 + i)).1 1) (((w1 (w2 σ (7 + i) 1 (va_cpy ((σ 6).2 1) ((σ (7 + i)).2 1) (0 : Int32).toNatClampNeg ((σ (7 + i)).1 0).toNatClampNeg ((σ 6).1 0).toNatClampNeg)) (7 + i) 0 ((((w2 σ (7 + i) 1 (va_cpy ((σ 6).2 1) ((σ (7 + i)).2 1) (0 : Int32).toNatClampNeg ((σ (7 + i)).1 0).toNatClampNeg ((σ 6).1 0).toNatClampNeg)) (7 + i)).1 0) + (((w2 σ (7 + i) 1 (va_cpy ((σ 6).2 1) ((σ (7 + i)).2 1) (0 : Int32).toNatClampNeg ((σ (7 + i)).1 0).toNatClampNeg ((σ 6).1 0).toNatClampNeg)) 6).1 0))) 6).1 0)) (7 + i)).1 1) + 1)), rfl, e9, by rw [ht]; exact hP, va_K.moved hW.alike hK, hD⟩, hS.F ht⟩) hS.2.2 d_T_append_82
    · rw [if_neg h22] at hM
      have e9 := Option.some.inj hM
      exact W.vret hx hb hr (fun t ht hW => ⟨⟨σ, rfl, e9, by rw [ht]; exact hP, va_K.moved hW.alike hK, hD⟩, hS.F ht⟩) hS.2.2 d_T_append_25

theorem d_T_hasDummy_0 : decode b_T_hasDummy 0 = .ok (.aload_n 0, 1) := by decide +kernel
theorem d_T_hasDummy_1 : decode b_T_hasDummy 1 = .ok (.getfield 25, 3) := by decide +kernel
theorem d_T_hasDummy_4 : decode b_T_hasDummy 4 = .ok (.ifCond .le 7, 3) := by decide +kernel
theorem d_T_hasDummy_7 : decode b_T_hasDummy 7 = .ok (.iconst 1, 1) := by decide +kernel
theorem d_T_hasDummy_8 : decode b_T_hasDummy 8 = .ok (.goto 4, 3) := by decide +kernel
theorem d_T_hasDummy_11 : decode b_T_hasDummy 11 = .ok (.iconst 0, 1) := by decide +kernel
theorem d_T_hasDummy_12 : decode b_T_hasDummy 12 = .ok (.ireturn, 1) := by decide +kernel
def m_T_hasDummy (N : Nat) (σ : SX) (i : Nat) : Option (Int32 × SX) :=
  (if ((σ (7 + i)).1 2) ≤ 0 then some (0, σ) else some (1, σ))

set_option maxHeartbeats 4000000 in
set_option maxRecDepth 100000 in
theorem c_T_hasDummy (l : Launch) (dC : Nat → ClassId) (dI : Nat → Nat → Nat) (ad : Nat → Nat → Nat) (cs : Nat → ClassId) (sz N : Nat) (σ : SX) (i : Nat) (hi : i < 4) {r0 : Int32} {σ0 : SX} (hM : m_T_hasDummy N σ i = some (r0, σ0)) : Met l y_T_hasDummy (wd y_T_hasDummy b_T_hasDummy 1 (some .boolean)) ({ frames := 0, cells := 0, slots := 0, locals := 0 }) (va_Pc [.ref (ad (7 + i) 0)] (preX dC dI ad cs sz σ)) (va_Qi (fun (r : Int32) (u : SX) => r = r0 ∧ u = σ0) (atX dC dI ad cs (va_A (wX ad cs σ) sz)) (va_A (wX ad cs σ) sz)) 0 0 (va_A (wX ad cs σ) sz) := by
  refine Met.ofW (cc := b_T_hasDummy) (maxL := 1) (ret := (some .boolean)) (by decide) rfl ?_
  intro p e s m args below meth c s₁ B hml hv
  obtain ⟨rfl, hsz, hP, hK, hD0, hN⟩ := hv
  have hx := B.exec
  have hb := B.bytes
  have hr := B.returns
  have hts := atoms_spec (ws := (wd y_T_hasDummy b_T_hasDummy 1 (some .boolean))) B.pre
  have htb : ∀ w ∈ tb, w.before _ s = true := fun w h => hts w (List.mem_cons_of_mem _ h)
  have hown : s.vm.findClass R_T = some m.cls := findClass_of_methodNamed B.named
  have hlocks := B.notSynchronized
  subst hsz
  have hD := hD0.self (sz := s.heap.size)
  generalize hAe : va_A (wX ad cs σ) s.heap.size = A at hD ⊢
  have hA : ∀ q : Nat, s.heap.size ≤ q → A q := fun q h => by rw [← hAe]; exact Or.inr h
  have hS : va_S A s.heap s.heap [] := va_S.rf
  have hP : va_P (dC, dI) classes (wX ad cs σ) s.heap := hP
  have hl := lv_entry ([.ref (ad (7 + i) 0)]) (n := 1) (Nat.le_of_ble_eq_true rfl)
  rw [lg_entry_eq]
  generalize (lg_sl ([.ref (ad (7 + i) 0)]) ++ List.replicate (1 - (lg_sl ([.ref (ad (7 + i) 0)])).length) Slot.unset).toArray = ls at hl ⊢
  have hl : lv_has ls 1 [(0, .ref (ad (7 + i) 0))] := hl
  rw [m_T_hasDummy] at hM
  refine lv_aload_n hx hb d_T_hasDummy_0 rfl (lv_at hl 0 rfl) ?_
  refine va_get (D := (dC, dI)) (ci := 6) (v := .int ((σ (7 + i)).1 2)) (C := R_T) (T := F_T) (N := 6) hx hb htb in_T hown hK hP (19 + 3 * i) (g_T hi) rfl 4 (by decide) (htb _ k_133) (fun _ h9 => h9) rfl d_T_hasDummy_1 ?_
  refine lv_if_le (tgt := 11) hx hb d_T_hasDummy_4 (by decide) (fun h4 => ?_) (fun h4 => ?_)
  · rw [if_pos h4] at hM
    refine lv_iconst (v := 0) hx hb d_T_hasDummy_11 (by decide) ?_
    have e9 := Prod.mk.inj (Option.some.inj hM)
    exact W.zret (ty := .boolean) (v := 0) hx hb hr rfl (fun t ht hW => ⟨⟨0, σ, rfl, e9, by rw [ht]; exact hP, va_K.moved hW.alike hK, hD⟩, hS.F ht⟩) hS.2.2 d_T_hasDummy_12
  · rw [if_neg h4] at hM
    refine lv_iconst (v := 1) hx hb d_T_hasDummy_7 (by decide) ?_
    refine lv_goto (tgt := 12) hx hb d_T_hasDummy_8 (by decide) ?_
    have e9 := Prod.mk.inj (Option.some.inj hM)
    exact W.zret (ty := .boolean) (v := 1) hx hb hr rfl (fun t ht hW => ⟨⟨1, σ, rfl, e9, by rw [ht]; exact hP, va_K.moved hW.alike hK, hD⟩, hS.F ht⟩) hS.2.2 d_T_hasDummy_12

theorem d_M_thrown_0 : decode b_M_thrown 0 = .ok (.aload_n 0, 1) := by decide +kernel
theorem d_M_thrown_1 : decode b_M_thrown 1 = .ok (.getfield 70, 3) := by decide +kernel
theorem d_M_thrown_4 : decode b_M_thrown 4 = .ok (.ireturn, 1) := by decide +kernel
def m_M_thrown (N : Nat) (σ : SX) : Option (Int32 × SX) :=
  some (((σ 0).1 0), σ)

set_option maxHeartbeats 4000000 in
set_option maxRecDepth 100000 in
theorem c_M_thrown (l : Launch) (dC : Nat → ClassId) (dI : Nat → Nat → Nat) (ad : Nat → Nat → Nat) (cs : Nat → ClassId) (sz N : Nat) (σ : SX) {r0 : Int32} {σ0 : SX} (hM : m_M_thrown N σ = some (r0, σ0)) : Met l y_M_thrown (wd y_M_thrown b_M_thrown 1 (some .int)) ({ frames := 0, cells := 0, slots := 0, locals := 0 }) (va_Pc [.ref (ad 0 0)] (preM dC dI ad cs sz σ)) (va_Qi (fun (r : Int32) (u : SX) => r = r0 ∧ u = σ0) (atM dC dI ad cs (va_A (wM ad cs σ) sz)) (va_A (wM ad cs σ) sz)) 0 0 (va_A (wM ad cs σ) sz) := by
  refine Met.ofW (cc := b_M_thrown) (maxL := 1) (ret := (some .int)) (by decide) rfl ?_
  intro p e s m args below meth c s₁ B hml hv
  obtain ⟨rfl, hsz, hP, hK, hD0, hN⟩ := hv
  have hx := B.exec
  have hb := B.bytes
  have hr := B.returns
  have hts := atoms_spec (ws := (wd y_M_thrown b_M_thrown 1 (some .int))) B.pre
  have htb : ∀ w ∈ tb, w.before _ s = true := fun w h => hts w (List.mem_cons_of_mem _ h)
  have hown : s.vm.findClass R_M = some m.cls := findClass_of_methodNamed B.named
  have hlocks := B.notSynchronized
  subst hsz
  have hD := hD0.self (sz := s.heap.size)
  generalize hAe : va_A (wM ad cs σ) s.heap.size = A at hD ⊢
  have hA : ∀ q : Nat, s.heap.size ≤ q → A q := fun q h => by rw [← hAe]; exact Or.inr h
  have hS : va_S A s.heap s.heap [] := va_S.rf
  have hP : va_P (dC, dI) classes (wM ad cs σ) s.heap := hP
  have hl := lv_entry ([.ref (ad 0 0)]) (n := 1) (Nat.le_of_ble_eq_true rfl)
  rw [lg_entry_eq]
  generalize (lg_sl ([.ref (ad 0 0)]) ++ List.replicate (1 - (lg_sl ([.ref (ad 0 0)])).length) Slot.unset).toArray = ls at hl ⊢
  have hl : lv_has ls 1 [(0, .ref (ad 0 0))] := hl
  rw [m_M_thrown] at hM
  refine lv_aload_n hx hb d_M_thrown_0 rfl (lv_at hl 0 rfl) ?_
  refine va_get (D := (dC, dI)) (ci := 7) (v := .int ((σ 0).1 0)) (C := R_M) (T := F_M) (N := 33) hx hb htb in_M hown hK hP 0 (g_M) rfl 0 (by decide) (htb _ k_619) (fun _ h9 => h9) rfl d_M_thrown_1 ?_
  have e9 := Prod.mk.inj (Option.some.inj hM)
  exact W.iret (v := ((σ 0).1 0)) hx hb hr (fun t ht hW => ⟨⟨((σ 0).1 0), σ, rfl, e9, by rw [ht]; exact hP, va_K.moved hW.alike hK, hD⟩, hS.F ht⟩) hS.2.2 d_M_thrown_4

theorem d_M_standing_0 : decode b_M_standing 0 = .ok (.iload_n 1, 1) := by decide +kernel
theorem d_M_standing_1 : decode b_M_standing 1 = .ok (.ifCond .ne 6, 3) := by decide +kernel
theorem d_M_standing_4 : decode b_M_standing 4 = .ok (.iload_n 0, 1) := by decide +kernel
theorem d_M_standing_5 : decode b_M_standing 5 = .ok (.i2l, 1) := by decide +kernel
theorem d_M_standing_6 : decode b_M_standing 6 = .ok (.lreturn, 1) := by decide +kernel
theorem d_M_standing_7 : decode b_M_standing 7 = .ok (.iload_n 1, 1) := by decide +kernel
theorem d_M_standing_8 : decode b_M_standing 8 = .ok (.iconst 1, 1) := by decide +kernel
theorem d_M_standing_9 : decode b_M_standing 9 = .ok (.if_icmp .ne 7, 3) := by decide +kernel
theorem d_M_standing_12 : decode b_M_standing 12 = .ok (.iload_n 0, 1) := by decide +kernel
theorem d_M_standing_13 : decode b_M_standing 13 = .ok (.i2l, 1) := by decide +kernel
theorem d_M_standing_14 : decode b_M_standing 14 = .ok (.lneg, 1) := by decide +kernel
theorem d_M_standing_15 : decode b_M_standing 15 = .ok (.lreturn, 1) := by decide +kernel
theorem d_M_standing_16 : decode b_M_standing 16 = .ok (.iload_n 1, 1) := by decide +kernel
theorem d_M_standing_17 : decode b_M_standing 17 = .ok (.iconst 2, 1) := by decide +kernel
theorem d_M_standing_18 : decode b_M_standing 18 = .ok (.if_icmp .ne 12, 3) := by decide +kernel
theorem d_M_standing_21 : decode b_M_standing 21 = .ok (.iload_n 0, 1) := by decide +kernel
theorem d_M_standing_22 : decode b_M_standing 22 = .ok (.i2l, 1) := by decide +kernel
theorem d_M_standing_23 : decode b_M_standing 23 = .ok (.ldc2_w 82, 3) := by decide +kernel
theorem d_M_standing_26 : decode b_M_standing 26 = .ok (.land, 1) := by decide +kernel
theorem d_M_standing_27 : decode b_M_standing 27 = .ok (.goto 15, 3) := by decide +kernel
theorem d_M_standing_30 : decode b_M_standing 30 = .ok (.iload_n 0, 1) := by decide +kernel
theorem d_M_standing_31 : decode b_M_standing 31 = .ok (.ifCond .ge 9, 3) := by decide +kernel
theorem d_M_standing_34 : decode b_M_standing 34 = .ok (.iload_n 0, 1) := by decide +kernel
theorem d_M_standing_35 : decode b_M_standing 35 = .ok (.i2l, 1) := by decide +kernel
theorem d_M_standing_36 : decode b_M_standing 36 = .ok (.lneg, 1) := by decide +kernel
theorem d_M_standing_37 : decode b_M_standing 37 = .ok (.goto 5, 3) := by decide +kernel
theorem d_M_standing_40 : decode b_M_standing 40 = .ok (.iload_n 0, 1) := by decide +kernel
theorem d_M_standing_41 : decode b_M_standing 41 = .ok (.i2l, 1) := by decide +kernel
theorem d_M_standing_42 : decode b_M_standing 42 = .ok (.lreturn, 1) := by decide +kernel
def m_M_standing (a0 : Int32) (a1 : Int32) : Option Int64 :=
  (if a1 = 0 then some a0.toInt64 else (if a1 = 1 then some (-a0.toInt64) else (if a1 = 2 then some (a0.toInt64 &&& 4294967295) else (if 0 ≤ a0 then some a0.toInt64 else some (-a0.toInt64)))))

set_option maxHeartbeats 4000000 in
set_option maxRecDepth 100000 in
theorem c_M_standing (l : Launch) (sz : Nat) (a0 : Int32) (a1 : Int32) {r0 : Int64} (hM : m_M_standing a0 a1 = some r0) : Met l y_M_standing (wd y_M_standing b_M_standing 2 (some .long)) ({ frames := 0, cells := 0, slots := 0, locals := 0 }) (va_Pc [.int a0, .int a1] (fun U => U.heap.size = sz)) (va_Ql (fun (r : Int64) (_ : Unit) => r = r0) (fun _ _ => True) (fun q => sz ≤ q)) 0 0 (fun q => sz ≤ q) := by
  refine Met.ofW (cc := b_M_standing) (maxL := 2) (ret := (some .long)) (by decide) rfl ?_
  intro p e s m args below meth c s₁ B hml hv
  obtain ⟨rfl, hsz⟩ := hv
  have hx := B.exec
  have hb := B.bytes
  have hr := B.returns
  have hts := atoms_spec (ws := (wd y_M_standing b_M_standing 2 (some .long))) B.pre
  have htb : ∀ w ∈ tb, w.before _ s = true := fun w h => hts w (List.mem_cons_of_mem _ h)
  have hown : s.vm.findClass R_M = some m.cls := findClass_of_methodNamed B.named
  have hlocks := B.notSynchronized
  subst hsz
  have hS : va_S (fun q => s.heap.size ≤ q) s.heap s.heap [] := va_S.rf
  have hA : ∀ q : Nat, s.heap.size ≤ q → s.heap.size ≤ q := fun q h => h
  have hl := lv_entry ([.int a0, .int a1]) (n := 2) (Nat.le_of_ble_eq_true rfl)
  rw [lg_entry_eq]
  generalize (lg_sl ([.int a0, .int a1]) ++ List.replicate (2 - (lg_sl ([.int a0, .int a1])).length) Slot.unset).toArray = ls at hl ⊢
  have hl : lv_has ls 2 [(0, .int a0), (1, .int a1)] := hl
  rw [m_M_standing] at hM
  refine lv_iload_n hx hb d_M_standing_0 rfl (lv_at hl 1 rfl) ?_
  refine lv_if_ne (tgt := 7) hx hb d_M_standing_1 (by decide) (fun h1 => ?_) (fun h1 => ?_)
  · rw [if_neg h1] at hM
    refine lv_iload_n hx hb d_M_standing_7 rfl (lv_at hl 1 rfl) ?_
    refine lv_iconst (v := 1) hx hb d_M_standing_8 (by decide) ?_
    refine lv_icmp_ne (tgt := 16) hx hb d_M_standing_9 (by decide) (fun h9 => ?_) (fun h9 => ?_)
    · rw [if_neg h9] at hM
      refine lv_iload_n hx hb d_M_standing_16 rfl (lv_at hl 1 rfl) ?_
      refine lv_iconst (v := 2) hx hb d_M_standing_17 (by decide) ?_
      refine lv_icmp_ne (tgt := 30) hx hb d_M_standing_18 (by decide) (fun h18 => ?_) (fun h18 => ?_)
      · rw [if_neg h18] at hM
        refine lv_iload_n hx hb d_M_standing_30 rfl (lv_at hl 0 rfl) ?_
        refine lv_if_ge (tgt := 40) hx hb d_M_standing_31 (by decide) (fun h31 => ?_) (fun h31 => ?_)
        · rw [if_pos h31] at hM
          refine lv_iload_n hx hb d_M_standing_40 rfl (lv_at hl 0 rfl) ?_
          refine lv_i2l hx hb d_M_standing_41 rfl ?_
          have e9 := Option.some.inj hM
          exact W.lret (v := a0.toInt64) hx hb hr (fun t ht hW => ⟨⟨a0.toInt64, (), rfl, e9, trivial⟩, hS.F ht⟩) hS.2.2 d_M_standing_42
        · rw [if_neg h31] at hM
          refine lv_iload_n hx hb d_M_standing_34 rfl (lv_at hl 0 rfl) ?_
          refine lv_i2l hx hb d_M_standing_35 rfl ?_
          refine lv_lneg hx hb d_M_standing_36 ?_
          refine lv_goto (tgt := 42) hx hb d_M_standing_37 (by decide) ?_
          have e9 := Option.some.inj hM
          exact W.lret (v := (-a0.toInt64)) hx hb hr (fun t ht hW => ⟨⟨(-a0.toInt64), (), rfl, e9, trivial⟩, hS.F ht⟩) hS.2.2 d_M_standing_42
      · rw [if_pos h18] at hM
        refine lv_iload_n hx hb d_M_standing_21 rfl (lv_at hl 0 rfl) ?_
        refine lv_i2l hx hb d_M_standing_22 rfl ?_
        refine lv_ldc2 (own := R_M) (v := 4294967295) hx hb hown (htb _ k_746) d_M_standing_23 ?_
        refine lv_land hx hb d_M_standing_26 ?_
        refine lv_goto (tgt := 42) hx hb d_M_standing_27 (by decide) ?_
        have e9 := Option.some.inj hM
        exact W.lret (v := (a0.toInt64 &&& 4294967295)) hx hb hr (fun t ht hW => ⟨⟨(a0.toInt64 &&& 4294967295), (), rfl, e9, trivial⟩, hS.F ht⟩) hS.2.2 d_M_standing_42
    · rw [if_pos h9] at hM
      refine lv_iload_n hx hb d_M_standing_12 rfl (lv_at hl 0 rfl) ?_
      refine lv_i2l hx hb d_M_standing_13 rfl ?_
      refine lv_lneg hx hb d_M_standing_14 ?_
      have e9 := Option.some.inj hM
      exact W.lret (v := (-a0.toInt64)) hx hb hr (fun t ht hW => ⟨⟨(-a0.toInt64), (), rfl, e9, trivial⟩, hS.F ht⟩) hS.2.2 d_M_standing_15
  · rw [if_pos h1] at hM
    refine lv_iload_n hx hb d_M_standing_4 rfl (lv_at hl 0 rfl) ?_
    refine lv_i2l hx hb d_M_standing_5 rfl ?_
    have e9 := Option.some.inj hM
    exact W.lret (v := a0.toInt64) hx hb hr (fun t ht hW => ⟨⟨a0.toInt64, (), rfl, e9, trivial⟩, hS.F ht⟩) hS.2.2 d_M_standing_6

theorem d_M_comesFirst_0 : decode b_M_comesFirst 0 = .ok (.iconst 0, 1) := by decide +kernel
theorem d_M_comesFirst_1 : decode b_M_comesFirst 1 = .ok (.istore_n 3, 1) := by decide +kernel
theorem d_M_comesFirst_2 : decode b_M_comesFirst 2 = .ok (.iload_n 3, 1) := by decide +kernel
theorem d_M_comesFirst_3 : decode b_M_comesFirst 3 = .ok (.aload_n 0, 1) := by decide +kernel
theorem d_M_comesFirst_4 : decode b_M_comesFirst 4 = .ok (.getfield 79, 3) := by decide +kernel
theorem d_M_comesFirst_7 : decode b_M_comesFirst 7 = .ok (.if_icmp .ge 83, 3) := by decide +kernel
theorem d_M_comesFirst_10 : decode b_M_comesFirst 10 = .ok (.aload_n 0, 1) := by decide +kernel
theorem d_M_comesFirst_11 : decode b_M_comesFirst 11 = .ok (.getfield 7, 3) := by decide +kernel
theorem d_M_comesFirst_14 : decode b_M_comesFirst 14 = .ok (.iconst 2, 1) := by decide +kernel
theorem d_M_comesFirst_15 : decode b_M_comesFirst 15 = .ok (.iload_n 1, 1) := by decide +kernel
theorem d_M_comesFirst_16 : decode b_M_comesFirst 16 = .ok (.imul, 1) := by decide +kernel
theorem d_M_comesFirst_17 : decode b_M_comesFirst 17 = .ok (.aload_n 0, 1) := by decide +kernel
theorem d_M_comesFirst_18 : decode b_M_comesFirst 18 = .ok (.getfield 13, 3) := by decide +kernel
theorem d_M_comesFirst_21 : decode b_M_comesFirst 21 = .ok (.iload_n 3, 1) := by decide +kernel
theorem d_M_comesFirst_22 : decode b_M_comesFirst 22 = .ok (.iaload, 1) := by decide +kernel
theorem d_M_comesFirst_23 : decode b_M_comesFirst 23 = .ok (.iadd, 1) := by decide +kernel
theorem d_M_comesFirst_24 : decode b_M_comesFirst 24 = .ok (.iaload, 1) := by decide +kernel
theorem d_M_comesFirst_25 : decode b_M_comesFirst 25 = .ok (.aload_n 0, 1) := by decide +kernel
theorem d_M_comesFirst_26 : decode b_M_comesFirst 26 = .ok (.getfield 16, 3) := by decide +kernel
theorem d_M_comesFirst_29 : decode b_M_comesFirst 29 = .ok (.iload_n 3, 1) := by decide +kernel
theorem d_M_comesFirst_30 : decode b_M_comesFirst 30 = .ok (.iaload, 1) := by decide +kernel
theorem d_M_comesFirst_31 : decode b_M_comesFirst 31 = .ok (.invokestatic 84, 3) := by decide +kernel
theorem d_M_comesFirst_34 : decode b_M_comesFirst 34 = .ok (.lstore 4, 2) := by decide +kernel
theorem d_M_comesFirst_36 : decode b_M_comesFirst 36 = .ok (.aload_n 0, 1) := by decide +kernel
theorem d_M_comesFirst_37 : decode b_M_comesFirst 37 = .ok (.getfield 7, 3) := by decide +kernel
theorem d_M_comesFirst_40 : decode b_M_comesFirst 40 = .ok (.iconst 2, 1) := by decide +kernel
theorem d_M_comesFirst_41 : decode b_M_comesFirst 41 = .ok (.iload_n 2, 1) := by decide +kernel
theorem d_M_comesFirst_42 : decode b_M_comesFirst 42 = .ok (.imul, 1) := by decide +kernel
theorem d_M_comesFirst_43 : decode b_M_comesFirst 43 = .ok (.aload_n 0, 1) := by decide +kernel
theorem d_M_comesFirst_44 : decode b_M_comesFirst 44 = .ok (.getfield 13, 3) := by decide +kernel
theorem d_M_comesFirst_47 : decode b_M_comesFirst 47 = .ok (.iload_n 3, 1) := by decide +kernel
theorem d_M_comesFirst_48 : decode b_M_comesFirst 48 = .ok (.iaload, 1) := by decide +kernel
theorem d_M_comesFirst_49 : decode b_M_comesFirst 49 = .ok (.iadd, 1) := by decide +kernel
theorem d_M_comesFirst_50 : decode b_M_comesFirst 50 = .ok (.iaload, 1) := by decide +kernel
theorem d_M_comesFirst_51 : decode b_M_comesFirst 51 = .ok (.aload_n 0, 1) := by decide +kernel
theorem d_M_comesFirst_52 : decode b_M_comesFirst 52 = .ok (.getfield 16, 3) := by decide +kernel
theorem d_M_comesFirst_55 : decode b_M_comesFirst 55 = .ok (.iload_n 3, 1) := by decide +kernel
theorem d_M_comesFirst_56 : decode b_M_comesFirst 56 = .ok (.iaload, 1) := by decide +kernel
theorem d_M_comesFirst_57 : decode b_M_comesFirst 57 = .ok (.invokestatic 84, 3) := by decide +kernel
theorem d_M_comesFirst_60 : decode b_M_comesFirst 60 = .ok (.lstore 6, 2) := by decide +kernel
theorem d_M_comesFirst_62 : decode b_M_comesFirst 62 = .ok (.lload 4, 2) := by decide +kernel
theorem d_M_comesFirst_64 : decode b_M_comesFirst 64 = .ok (.lload 6, 2) := by decide +kernel
theorem d_M_comesFirst_66 : decode b_M_comesFirst 66 = .ok (.lcmp, 1) := by decide +kernel
theorem d_M_comesFirst_67 : decode b_M_comesFirst 67 = .ok (.ifCond .eq 17, 3) := by decide +kernel
theorem d_M_comesFirst_70 : decode b_M_comesFirst 70 = .ok (.lload 4, 2) := by decide +kernel
theorem d_M_comesFirst_72 : decode b_M_comesFirst 72 = .ok (.lload 6, 2) := by decide +kernel
theorem d_M_comesFirst_74 : decode b_M_comesFirst 74 = .ok (.lcmp, 1) := by decide +kernel
theorem d_M_comesFirst_75 : decode b_M_comesFirst 75 = .ok (.ifCond .ge 7, 3) := by decide +kernel
theorem d_M_comesFirst_78 : decode b_M_comesFirst 78 = .ok (.iconst 1, 1) := by decide +kernel
theorem d_M_comesFirst_79 : decode b_M_comesFirst 79 = .ok (.goto 4, 3) := by decide +kernel
theorem d_M_comesFirst_82 : decode b_M_comesFirst 82 = .ok (.iconst 0, 1) := by decide +kernel
theorem d_M_comesFirst_83 : decode b_M_comesFirst 83 = .ok (.ireturn, 1) := by decide +kernel
theorem d_M_comesFirst_84 : decode b_M_comesFirst 84 = .ok (.iinc 3 1, 3) := by decide +kernel
theorem d_M_comesFirst_87 : decode b_M_comesFirst 87 = .ok (.goto (-85), 3) := by decide +kernel
theorem d_M_comesFirst_90 : decode b_M_comesFirst 90 = .ok (.iload_n 1, 1) := by decide +kernel
theorem d_M_comesFirst_91 : decode b_M_comesFirst 91 = .ok (.iload_n 2, 1) := by decide +kernel
theorem d_M_comesFirst_92 : decode b_M_comesFirst 92 = .ok (.if_icmp .ge 7, 3) := by decide +kernel
theorem d_M_comesFirst_95 : decode b_M_comesFirst 95 = .ok (.iconst 1, 1) := by decide +kernel
theorem d_M_comesFirst_96 : decode b_M_comesFirst 96 = .ok (.goto 4, 3) := by decide +kernel
theorem d_M_comesFirst_99 : decode b_M_comesFirst 99 = .ok (.iconst 0, 1) := by decide +kernel
theorem d_M_comesFirst_100 : decode b_M_comesFirst 100 = .ok (.ireturn, 1) := by decide +kernel
def m_M_comesFirst_2 (N : Nat) : Nat → SX → Int32 → Int32 → Int32 → Option (Int32 × SX)
  | 0, _, _, _, _ => none
  | n2 + 1, σ, v1, v2, v3 =>
    (if ((σ 0).1 3) ≤ v3 then (if v2 ≤ v1 then some (0, σ) else some (1, σ)) else (if inb v3 3 = true then (if inb ((2 * v1) + ((σ 0).2 2 v3.toNatClampNeg)) 300 = true then (if inb v3 3 = true then (bL (m_M_standing ((σ 0).2 1 ((2 * v1) + ((σ 0).2 2 v3.toNatClampNeg)).toNatClampNeg) ((σ 0).2 3 v3.toNatClampNeg)) fun r31 => (if inb v3 3 = true then (if inb ((2 * v2) + ((σ 0).2 2 v3.toNatClampNeg)) 300 = true then (if inb v3 3 = true then (bL (m_M_standing ((σ 0).2 1 ((2 * v2) + ((σ 0).2 2 v3.toNatClampNeg)).toNatClampNeg) ((σ 0).2 3 v3.toNatClampNeg)) fun r57 => (if (lg_cmp r31 r57) = 0 then m_M_comesFirst_2 N n2 σ v1 v2 (v3 + 1) else (if 0 ≤ (lg_cmp r31 r57) then some (0, σ) else some (1, σ)))) else none) else none) else none)) else none) else none) else none))

def m_M_comesFirst (N : Nat) (σ : SX) (a1 : Int32) (a2 : Int32) : Option (Int32 × SX) :=
  m_M_comesFirst_2 N N σ a1 a2 0

set_option maxHeartbeats 4000000 in
set_option maxRecDepth 100000 in
theorem c_M_comesFirst (l : Launch) (dC : Nat → ClassId) (dI : Nat → Nat → Nat) (ad : Nat → Nat → Nat) (cs : Nat → ClassId) (sz N : Nat) (σ : SX) (a1 : Int32) (a2 : Int32) {r0 : Int32} {σ0 : SX} (hM : m_M_comesFirst N σ a1 a2 = some (r0, σ0)) : Met l y_M_comesFirst (wd y_M_comesFirst b_M_comesFirst 8 (some .boolean)) ({ frames := 1, cells := 0, slots := 0, locals := 21 }) (va_Pc [.ref (ad 0 0), .int a1, .int a2] (preM dC dI ad cs sz σ)) (va_Qi (fun (r : Int32) (u : SX) => r = r0 ∧ u = σ0) (atM dC dI ad cs (va_A (wM ad cs σ) sz)) (va_A (wM ad cs σ) sz)) 0 0 (va_A (wM ad cs σ) sz) := by
  refine Met.ofW (cc := b_M_comesFirst) (maxL := 8) (ret := (some .boolean)) (by decide) rfl ?_
  intro p e s m args below meth c s₁ B hml hv
  obtain ⟨rfl, hsz, hP, hK, hD0, hN⟩ := hv
  have hx := B.exec
  have hb := B.bytes
  have hr := B.returns
  have hts := atoms_spec (ws := (wd y_M_comesFirst b_M_comesFirst 8 (some .boolean))) B.pre
  have htb : ∀ w ∈ tb, w.before _ s = true := fun w h => hts w (List.mem_cons_of_mem _ h)
  have hown : s.vm.findClass R_M = some m.cls := findClass_of_methodNamed B.named
  have hlocks := B.notSynchronized
  subst hsz
  have hD := hD0.self (sz := s.heap.size)
  generalize hAe : va_A (wM ad cs σ) s.heap.size = A at hD ⊢
  have hA : ∀ q : Nat, s.heap.size ≤ q → A q := fun q h => by rw [← hAe]; exact Or.inr h
  have hS : va_S A s.heap s.heap [] := va_S.rf
  have hP : va_P (dC, dI) classes (wM ad cs σ) s.heap := hP
  have hl := lv_entry ([.ref (ad 0 0), .int a1, .int a2]) (n := 8) (Nat.le_of_ble_eq_true rfl)
  rw [lg_entry_eq]
  generalize (lg_sl ([.ref (ad 0 0), .int a1, .int a2]) ++ List.replicate (8 - (lg_sl ([.ref (ad 0 0), .int a1, .int a2])).length) Slot.unset).toArray = ls at hl ⊢
  have hl : lv_has ls 8 [(0, .ref (ad 0 0)), (1, .int a1), (2, .int a2)] := hl
  rw [m_M_comesFirst] at hM
  refine W_loop (pc := 2) (fun n2 H locs ls st => ∃ (σ : SX) (v1 : Int32) (v2 : Int32) (v3 : Int32), st = [] ∧ m_M_comesFirst_2 N n2 σ v1 v2 v3 = some (r0, σ0) ∧ lv_has ls 8 [(0, .ref (ad 0 0)), (1, .int v1), (2, .int v2), (3, .int v3)] ∧ va_P (dC, dI) classes (wM ad cs σ) H ∧ va_D A (wM ad cs σ) ∧ va_S A s.heap H locs) ?_ ?_ ?_
  · rintro H locs ls st ⟨σ, v1, v2, v3, -, hM, -⟩
    rw [m_M_comesFirst_2] at hM; cases hM
  · intro n2 K2 H locs ls st hI
    obtain ⟨σ, v1, v2, v3, rfl, hM, hl, hP, hD, hS⟩ := hI
    rw [m_M_comesFirst_2] at hM
    refine lv_iload_n hx hb d_M_comesFirst_2 rfl (lv_at hl 3 rfl) ?_
    refine lv_aload_n hx hb d_M_comesFirst_3 rfl (lv_at hl 0 rfl) ?_
    refine va_get (D := (dC, dI)) (ci := 7) (v := .int ((σ 0).1 3)) (C := R_M) (T := F_M) (N := 33) hx hb htb in_M hown hK hP 0 (g_M) rfl 4 (by decide) (htb _ k_623) (fun _ h9 => h9) rfl d_M_comesFirst_4 ?_
    refine lv_icmp_ge (tgt := 90) hx hb d_M_comesFirst_7 (by decide) (fun h7 => ?_) (fun h7 => ?_)
    · rw [if_pos h7] at hM
      refine lv_iload_n hx hb d_M_comesFirst_90 rfl (lv_at hl 1 rfl) ?_
      refine lv_iload_n hx hb d_M_comesFirst_91 rfl (lv_at hl 2 rfl) ?_
      refine lv_icmp_ge (tgt := 99) hx hb d_M_comesFirst_92 (by decide) (fun h92 => ?_) (fun h92 => ?_)
      · rw [if_pos h92] at hM
        refine lv_iconst (v := 0) hx hb d_M_comesFirst_99 (by decide) ?_
        have e9 := Prod.mk.inj (Option.some.inj hM)
        exact W.zret (ty := .boolean) (v := 0) hx hb hr rfl (fun t ht hW => ⟨⟨0, σ, rfl, e9, by rw [ht]; exact hP, va_K.moved hW.alike hK, hD⟩, hS.F ht⟩) hS.2.2 d_M_comesFirst_100
      · rw [if_neg h92] at hM
        refine lv_iconst (v := 1) hx hb d_M_comesFirst_95 (by decide) ?_
        refine lv_goto (tgt := 100) hx hb d_M_comesFirst_96 (by decide) ?_
        have e9 := Prod.mk.inj (Option.some.inj hM)
        exact W.zret (ty := .boolean) (v := 1) hx hb hr rfl (fun t ht hW => ⟨⟨1, σ, rfl, e9, by rw [ht]; exact hP, va_K.moved hW.alike hK, hD⟩, hS.F ht⟩) hS.2.2 d_M_comesFirst_100
    · rw [if_neg h7] at hM
      refine lv_aload_n hx hb d_M_comesFirst_10 rfl (lv_at hl 0 rfl) ?_
      refine va_get (D := (dC, dI)) (ci := 7) (v := .ref (ad 0 1)) (C := R_M) (T := F_M) (N := 33) hx hb htb in_M hown hK hP 0 (g_M) rfl 3 (by decide) (htb _ k_622) (fun _ h9 => h9) rfl d_M_comesFirst_11 ?_
      refine lv_iconst (v := 2) hx hb d_M_comesFirst_14 (by decide) ?_
      refine lv_iload_n hx hb d_M_comesFirst_15 rfl (lv_at hl 1 rfl) ?_
      refine lv_imul hx hb d_M_comesFirst_16 ?_
      refine lv_aload_n hx hb d_M_comesFirst_17 rfl (lv_at hl 0 rfl) ?_
      refine va_get (D := (dC, dI)) (ci := 7) (v := .ref (ad 0 2)) (C := R_M) (T := F_M) (N := 33) hx hb htb in_M hown hK hP 0 (g_M) rfl 5 (by decide) (htb _ k_624) (fun _ h9 => h9) rfl d_M_comesFirst_18 ?_
      refine lv_iload_n hx hb d_M_comesFirst_21 rfl (lv_at hl 3 rfl) ?_
      have hg22 := gd_c hM
      have hM := gd_v hM
      refine va_iald hx hb hK hP 2 0 (g_M_a2) rfl (inb_in hg22) d_M_comesFirst_22 ?_
      refine lv_iadd hx hb d_M_comesFirst_23 ?_
      have hg24 := gd_c hM
      have hM := gd_v hM
      refine va_iald hx hb hK hP 1 0 (g_M_a1) rfl (inb_in hg24) d_M_comesFirst_24 ?_
      refine lv_aload_n hx hb d_M_comesFirst_25 rfl (lv_at hl 0 rfl) ?_
      refine va_get (D := (dC, dI)) (ci := 7) (v := .ref (ad 0 3)) (C := R_M) (T := F_M) (N := 33) hx hb htb in_M hown hK hP 0 (g_M) rfl 6 (by decide) (htb _ k_625) (fun _ h9 => h9) rfl d_M_comesFirst_26 ?_
      refine lv_iload_n hx hb d_M_comesFirst_29 rfl (lv_at hl 3 rfl) ?_
      have hg30 := gd_c hM
      have hM := gd_v hM
      refine va_iald hx hb hK hP 3 0 (g_M_a3) rfl (inb_in hg30) d_M_comesFirst_30 ?_
      obtain ⟨x31, hq31, hM⟩ := bL_some hM
      refine va_calll (va_runS (As := [.int ((σ 0).2 1 ((2 * v1) + ((σ 0).2 2 v3.toNatClampNeg)).toNatClampNeg), .int ((σ 0).2 3 v3.toNatClampNeg)]) (rest := []) ⟨hx, hb, hml, hown, hts⟩ (c_M_standing l H.size ((σ 0).2 1 ((2 * v1) + ((σ 0).2 2 v3.toNatClampNeg)).toNatClampNeg) ((σ 0).2 3 v3.toNatClampNeg) hq31) (cwS 2 hts (goodS k_743 k_744 k_8 k_745) rfl rfl rfl ⟨rfl, by decide, by decide, by decide +kernel⟩ ⟨Nat.le_of_ble_eq_true rfl, Nat.le_of_ble_eq_true rfl⟩) ⟨blindS, payS⟩ rfl rfl hl.1 rfl (lv_room (Nat.le_of_ble_eq_true rfl)) d_M_comesFirst_31 ⟨Nat.zero_le _, Nat.zero_le _⟩) hS (fun q h0 h => absurd h0 (Nat.not_lt.mpr h)) (fun q h => hA q (Nat.le_trans hS.1 h)) (fun r31 u t H locs ht hvm hpost hB hz1 hk1 hS => ?_)
      subst hpost
      have hP := keepP hP hk1
      refine lv_lstore hx hb d_M_comesFirst_34 hl (by decide) (lv' := [(4, .long r31), (0, .ref (ad 0 0)), (1, .int v1), (2, .int v2), (3, .int v3)]) rfl (fun ls hl => ?_)
      refine lv_aload_n hx hb d_M_comesFirst_36 rfl (lv_at hl 1 rfl) ?_
      refine va_get (D := (dC, dI)) (ci := 7) (v := .ref (ad 0 1)) (C := R_M) (T := F_M) (N := 33) hx hb htb in_M hown hK hP 0 (g_M) rfl 3 (by decide) (htb _ k_622) (fun _ h9 => h9) rfl d_M_comesFirst_37 ?_
      refine lv_iconst (v := 2) hx hb d_M_comesFirst_40 (by decide) ?_
      refine lv_iload_n hx hb d_M_comesFirst_41 rfl (lv_at hl 3 rfl) ?_
      refine lv_imul hx hb d_M_comesFirst_42 ?_
      refine lv_aload_n hx hb d_M_comesFirst_43 rfl (lv_at hl 1 rfl) ?_
      refine va_get (D := (dC, dI)) (ci := 7) (v := .ref (ad 0 2)) (C := R_M) (T := F_M) (N := 33) hx hb htb in_M hown hK hP 0 (g_M) rfl 5 (by decide) (htb _ k_624) (fun _ h9 => h9) rfl d_M_comesFirst_44 ?_
      refine lv_iload_n hx hb d_M_comesFirst_47 rfl (lv_at hl 4 rfl) ?_
      have hg48 := gd_c hM
      have hM := gd_v hM
      refine va_iald hx hb hK hP 2 0 (g_M_a2) rfl (inb_in hg48) d_M_comesFirst_48 ?_
      refine lv_iadd hx hb d_M_comesFirst_49 ?_
      have hg50 := gd_c hM
      have hM := gd_v hM
      refine va_iald hx hb hK hP 1 0 (g_M_a1) rfl (inb_in hg50) d_M_comesFirst_50 ?_
      refine lv_aload_n hx hb d_M_comesFirst_51 rfl (lv_at hl 1 rfl) ?_
      refine va_get (D := (dC, dI)) (ci := 7) (v := .ref (ad 0 3)) (C := R_M) (T := F_M) (N := 33) hx hb htb in_M hown hK hP 0 (g_M) rfl 6 (by decide) (htb _ k_625) (fun _ h9 => h9) rfl d_M_comesFirst_52 ?_
      refine lv_iload_n hx hb d_M_comesFirst_55 rfl (lv_at hl 4 rfl) ?_
      have hg56 := gd_c hM
      have hM := gd_v hM
      refine va_iald hx hb hK hP 3 0 (g_M_a3) rfl (inb_in hg56) d_M_comesFirst_56 ?_
      obtain ⟨x57, hq57, hM⟩ := bL_some hM
      refine va_calll (va_runS (As := [.int ((σ 0).2 1 ((2 * v2) + ((σ 0).2 2 v3.toNatClampNeg)).toNatClampNeg), .int ((σ 0).2 3 v3.toNatClampNeg)]) (rest := []) ⟨hx, hb, hml, hown, hts⟩ (c_M_standing l H.size ((σ 0).2 1 ((2 * v2) + ((σ 0).2 2 v3.toNatClampNeg)).toNatClampNeg) ((σ 0).2 3 v3.toNatClampNeg) hq57) (cwS 2 hts (goodS k_743 k_744 k_8 k_745) rfl rfl rfl ⟨rfl, by decide, by decide, by decide +kernel⟩ ⟨Nat.le_of_ble_eq_true rfl, Nat.le_of_ble_eq_true rfl⟩) ⟨blindS, payS⟩ rfl rfl hl.1 rfl (lv_room (Nat.le_of_ble_eq_true rfl)) d_M_comesFirst_57 ⟨Nat.zero_le _, Nat.zero_le _⟩) hS (fun q h0 h => absurd h0 (Nat.not_lt.mpr h)) (fun q h => hA q (Nat.le_trans hS.1 h)) (fun r57 u t H locs ht hvm hpost hB hz1 hk1 hS => ?_)
      subst hpost
      have hP := keepP hP hk1
      refine lv_lstore hx hb d_M_comesFirst_60 hl (by decide) (lv' := [(6, .long r57), (4, .long r31), (0, .ref (ad 0 0)), (1, .int v1), (2, .int v2), (3, .int v3)]) rfl (fun ls hl => ?_)
      refine lv_lload hx hb d_M_comesFirst_62 (lv_at hl 1 rfl) ?_
      refine lv_lload hx hb d_M_comesFirst_64 (lv_at hl 0 rfl) ?_
      refine W.lcmp hx hb d_M_comesFirst_66 ?_
      refine lv_if_eq (tgt := 84) hx hb d_M_comesFirst_67 (by decide) (fun h67 => ?_) (fun h67 => ?_)
      · rw [if_pos h67] at hM
        refine lv_iinc (k := 5) (v := (v3 + 1)) hx hb d_M_comesFirst_84 hl rfl rfl (by decide) (lv' := [(3, .int (v3 + 1)), (6, .long r57), (4, .long r31), (0, .ref (ad 0 0)), (1, .int v1), (2, .int v2)]) rfl (fun ls hl => ?_)
        refine lv_goto (tgt := 2) hx hb d_M_comesFirst_87 (by decide) ?_
        exact K2 _ _ _ _ ⟨σ, v1, v2, (v3 + 1), rfl, hM, lv_sub hl [3, 4, 5, 0] rfl, hP, hD, hS⟩
      · rw [if_neg h67] at hM
        refine lv_lload hx hb d_M_comesFirst_70 (lv_at hl 1 rfl) ?_
        refine lv_lload hx hb d_M_comesFirst_72 (lv_at hl 0 rfl) ?_
        refine W.lcmp hx hb d_M_comesFirst_74 ?_
        refine lv_if_ge (tgt := 82) hx hb d_M_comesFirst_75 (by decide) (fun h75 => ?_) (fun h75 => ?_)
        · rw [if_pos h75] at hM
          refine lv_iconst (v := 0) hx hb d_M_comesFirst_82 (by decide) ?_
          have e9 := Prod.mk.inj (Option.some.inj hM)
          exact W.zret (ty := .boolean) (v := 0) hx hb hr rfl (fun t ht hW => ⟨⟨0, σ, rfl, e9, by rw [ht]; exact hP, va_K.moved hW.alike hK, hD⟩, hS.F ht⟩) hS.2.2 d_M_comesFirst_83
        · rw [if_neg h75] at hM
          refine lv_iconst (v := 1) hx hb d_M_comesFirst_78 (by decide) ?_
          refine lv_goto (tgt := 83) hx hb d_M_comesFirst_79 (by decide) ?_
          have e9 := Prod.mk.inj (Option.some.inj hM)
          exact W.zret (ty := .boolean) (v := 1) hx hb hr rfl (fun t ht hW => ⟨⟨1, σ, rfl, e9, by rw [ht]; exact hP, va_K.moved hW.alike hK, hD⟩, hS.F ht⟩) hS.2.2 d_M_comesFirst_83
  intro K2
  refine lv_iconst (v := 0) hx hb d_M_comesFirst_0 (by decide) ?_
  refine lv_istore_n hx hb d_M_comesFirst_1 rfl hl (by decide) (lv' := [(3, .int 0), (0, .ref (ad 0 0)), (1, .int a1), (2, .int a2)]) rfl (fun ls hl => ?_)
  exact K2 N _ _ _ _ ⟨σ, a1, a2, 0, rfl, hM, lv_sub hl [1, 2, 3, 0] rfl, hP, hD, hS⟩

theorem d_M_write_0 : decode b_M_write 0 = .ok (.aload_n 0, 1) := by decide +kernel
theorem d_M_write_1 : decode b_M_write 1 = .ok (.getfield 23, 3) := by decide +kernel
theorem d_M_write_4 : decode b_M_write 4 = .ok (.ifCond .ne 15, 3) := by decide +kernel
theorem d_M_write_7 : decode b_M_write 7 = .ok (.aload_n 0, 1) := by decide +kernel
theorem d_M_write_8 : decode b_M_write 8 = .ok (.iconst 0, 1) := by decide +kernel
theorem d_M_write_9 : decode b_M_write 9 = .ok (.putfield 19, 3) := by decide +kernel
theorem d_M_write_12 : decode b_M_write 12 = .ok (.aload_n 0, 1) := by decide +kernel
theorem d_M_write_13 : decode b_M_write 13 = .ok (.iconst (-1), 1) := by decide +kernel
theorem d_M_write_14 : decode b_M_write 14 = .ok (.putfield 23, 3) := by decide +kernel
theorem d_M_write_17 : decode b_M_write 17 = .ok (.iconst 0, 1) := by decide +kernel
theorem d_M_write_18 : decode b_M_write 18 = .ok (.ireturn, 1) := by decide +kernel
theorem d_M_write_19 : decode b_M_write 19 = .ok (.aload_n 0, 1) := by decide +kernel
theorem d_M_write_20 : decode b_M_write 20 = .ok (.aload_n 0, 1) := by decide +kernel
theorem d_M_write_21 : decode b_M_write 21 = .ok (.getfield 23, 3) := by decide +kernel
theorem d_M_write_24 : decode b_M_write 24 = .ok (.ifCond .le 12, 3) := by decide +kernel
theorem d_M_write_27 : decode b_M_write 27 = .ok (.aload_n 0, 1) := by decide +kernel
theorem d_M_write_28 : decode b_M_write 28 = .ok (.getfield 23, 3) := by decide +kernel
theorem d_M_write_31 : decode b_M_write 31 = .ok (.iconst 1, 1) := by decide +kernel
theorem d_M_write_32 : decode b_M_write 32 = .ok (.isub, 1) := by decide +kernel
theorem d_M_write_33 : decode b_M_write 33 = .ok (.goto 7, 3) := by decide +kernel
theorem d_M_write_36 : decode b_M_write 36 = .ok (.aload_n 0, 1) := by decide +kernel
theorem d_M_write_37 : decode b_M_write 37 = .ok (.getfield 23, 3) := by decide +kernel
theorem d_M_write_40 : decode b_M_write 40 = .ok (.putfield 23, 3) := by decide +kernel
theorem d_M_write_43 : decode b_M_write 43 = .ok (.aload_n 0, 1) := by decide +kernel
theorem d_M_write_44 : decode b_M_write 44 = .ok (.aload_n 0, 1) := by decide +kernel
theorem d_M_write_45 : decode b_M_write 45 = .ok (.getfield 114, 3) := by decide +kernel
theorem d_M_write_48 : decode b_M_write 48 = .ok (.iconst 1, 1) := by decide +kernel
theorem d_M_write_49 : decode b_M_write 49 = .ok (.iadd, 1) := by decide +kernel
theorem d_M_write_50 : decode b_M_write 50 = .ok (.putfield 114, 3) := by decide +kernel
theorem d_M_write_53 : decode b_M_write 53 = .ok (.aload_n 0, 1) := by decide +kernel
theorem d_M_write_54 : decode b_M_write 54 = .ok (.getfield 61, 3) := by decide +kernel
theorem d_M_write_57 : decode b_M_write 57 = .ok (.aload_n 0, 1) := by decide +kernel
theorem d_M_write_58 : decode b_M_write 58 = .ok (.getfield 120, 3) := by decide +kernel
theorem d_M_write_61 : decode b_M_write 61 = .ok (.iload_n 1, 1) := by decide +kernel
theorem d_M_write_62 : decode b_M_write 62 = .ok (.iastore, 1) := by decide +kernel
theorem d_M_write_63 : decode b_M_write 63 = .ok (.aload_n 0, 1) := by decide +kernel
theorem d_M_write_64 : decode b_M_write 64 = .ok (.aload_n 0, 1) := by decide +kernel
theorem d_M_write_65 : decode b_M_write 65 = .ok (.getfield 120, 3) := by decide +kernel
theorem d_M_write_68 : decode b_M_write 68 = .ok (.iconst 1, 1) := by decide +kernel
theorem d_M_write_69 : decode b_M_write 69 = .ok (.iadd, 1) := by decide +kernel
theorem d_M_write_70 : decode b_M_write 70 = .ok (.putfield 120, 3) := by decide +kernel
theorem d_M_write_73 : decode b_M_write 73 = .ok (.iconst 1, 1) := by decide +kernel
theorem d_M_write_74 : decode b_M_write 74 = .ok (.ireturn, 1) := by decide +kernel
def m_M_write_40 (N : Nat) (σ : SX) (v1 : Int32) (s0 : Int32) : Option (Int32 × SX) :=
    (if inb (((w1 (w1 σ 0 6 s0) 0 7 ((((w1 σ 0 6 s0) 0).1 7) + 1)) 0).1 16) 150 = true then some (1, (w1 (w3 (w1 (w1 σ 0 6 s0) 0 7 ((((w1 σ 0 6 s0) 0).1 7) + 1)) 0 15 (((w1 (w1 σ 0 6 s0) 0 7 ((((w1 σ 0 6 s0) 0).1 7) + 1)) 0).1 16) v1) 0 16 ((((w3 (w1 (w1 σ 0 6 s0) 0 7 ((((w1 σ 0 6 s0) 0).1 7) + 1)) 0 15 (((w1 (w1 σ 0 6 s0) 0 7 ((((w1 σ 0 6 s0) 0).1 7) + 1)) 0).1 16) v1) 0).1 16) + 1))) else none)

def m_M_write (N : Nat) (σ : SX) (a1 : Int32) : Option (Int32 × SX) :=
  (if ((σ 0).1 6) = 0 then some (0, (w1 (w1 σ 0 5 0) 0 6 (-1))) else (if ((σ 0).1 6) ≤ 0 then m_M_write_40 N σ a1 ((σ 0).1 6) else m_M_write_40 N σ a1 (((σ 0).1 6) - 1)))

set_option maxHeartbeats 4000000 in
set_option maxRecDepth 100000 in
theorem c_M_write (l : Launch) (dC : Nat → ClassId) (dI : Nat → Nat → Nat) (ad : Nat → Nat → Nat) (cs : Nat → ClassId) (sz N : Nat) (σ : SX) (a1 : Int32) {r0 : Int32} {σ0 : SX} (hM : m_M_write N σ a1 = some (r0, σ0)) : Met l y_M_write (wd y_M_write b_M_write 2 (some .boolean)) ({ frames := 0, cells := 0, slots := 0, locals := 0 }) (va_Pc [.ref (ad 0 0), .int a1] (preM dC dI ad cs sz σ)) (va_Qi (fun (r : Int32) (u : SX) => r = r0 ∧ u = σ0) (atM dC dI ad cs (va_A (wM ad cs σ) sz)) (va_A (wM ad cs σ) sz)) 0 0 (va_A (wM ad cs σ) sz) := by
  refine Met.ofW (cc := b_M_write) (maxL := 2) (ret := (some .boolean)) (by decide) rfl ?_
  intro p e s m args below meth c s₁ B hml hv
  obtain ⟨rfl, hsz, hP, hK, hD0, hN⟩ := hv
  have hx := B.exec
  have hb := B.bytes
  have hr := B.returns
  have hts := atoms_spec (ws := (wd y_M_write b_M_write 2 (some .boolean))) B.pre
  have htb : ∀ w ∈ tb, w.before _ s = true := fun w h => hts w (List.mem_cons_of_mem _ h)
  have hown : s.vm.findClass R_M = some m.cls := findClass_of_methodNamed B.named
  have hlocks := B.notSynchronized
  subst hsz
  have hD := hD0.self (sz := s.heap.size)
  generalize hAe : va_A (wM ad cs σ) s.heap.size = A at hD ⊢
  have hA : ∀ q : Nat, s.heap.size ≤ q → A q := fun q h => by rw [← hAe]; exact Or.inr h
  have hS : va_S A s.heap s.heap [] := va_S.rf
  have hP : va_P (dC, dI) classes (wM ad cs σ) s.heap := hP
  have hl := lv_entry ([.ref (ad 0 0), .int a1]) (n := 2) (Nat.le_of_ble_eq_true rfl)
  rw [lg_entry_eq]
  generalize (lg_sl ([.ref (ad 0 0), .int a1]) ++ List.replicate (2 - (lg_sl ([.ref (ad 0 0), .int a1])).length) Slot.unset).toArray = ls at hl ⊢
  have hl : lv_has ls 2 [(0, .ref (ad 0 0)), (1, .int a1)] := hl
  rw [m_M_write] at hM
  refine W_cut (pc := 40) (fun H locs ls st => ∃ (σ : SX) (v1 : Int32) (s0 : Int32), st = [.int s0, .ref (ad 0 0)] ∧ m_M_write_40 N σ v1 s0 = some (r0, σ0) ∧ lv_has ls 2 [(0, .ref (ad 0 0)), (1, .int v1)] ∧ va_P (dC, dI) classes (wM ad cs σ) H ∧ va_D A (wM ad cs σ) ∧ va_S A s.heap H locs) ?_ ?_
  · intro H locs ls st hI
    obtain ⟨σ, v1, s0, rfl, hM, hl, hP, hD, hS⟩ := hI
    rw [m_M_write_40] at hM
    refine va_put (D := (dC, dI)) (ci := 7) (v := .int s0) (ty := .int) (C := R_M) (T := F_M) (N := 33) hx hb htb in_M ft_M ft_M_ok n_M hown hK hP hD hS 0 (g_M) rfl 9 (by decide) (htb _ k_628) (fun _ h9 => h9) rfl (by decide +kernel) rfl rfl (Nat.le_of_ble_eq_true rfl) d_M_write_40 (fun H locs hP hD hS => ?_)
    have hP := P_eq (s_M_6) hP
    have hD := D_eq (s_M_6) hD
    refine lv_aload_n hx hb d_M_write_43 rfl (lv_at hl 0 rfl) ?_
    refine lv_aload_n hx hb d_M_write_44 rfl (lv_at hl 0 rfl) ?_
    refine va_get (D := (dC, dI)) (ci := 7) (v := .int (((w1 σ 0 6 s0) 0).1 7)) (C := R_M) (T := F_M) (N := 33) hx hb htb in_M hown hK hP 0 (g_M) rfl 10 (by decide) (htb _ k_629) (fun _ h9 => h9) rfl d_M_write_45 ?_
    refine lv_iconst (v := 1) hx hb d_M_write_48 (by decide) ?_
    refine lv_iadd hx hb d_M_write_49 ?_
    refine va_put (D := (dC, dI)) (ci := 7) (v := .int ((((w1 σ 0 6 s0) 0).1 7) + 1)) (ty := .int) (C := R_M) (T := F_M) (N := 33) hx hb htb in_M ft_M ft_M_ok n_M hown hK hP hD hS 0 (g_M) rfl 10 (by decide) (htb _ k_629) (fun _ h9 => h9) rfl (by decide +kernel) rfl rfl (Nat.le_of_ble_eq_true rfl) d_M_write_50 (fun H locs hP hD hS => ?_)
    have hP := P_eq (s_M_7) hP
    have hD := D_eq (s_M_7) hD
    refine lv_aload_n hx hb d_M_write_53 rfl (lv_at hl 0 rfl) ?_
    refine va_get (D := (dC, dI)) (ci := 7) (v := .ref (ad 0 15)) (C := R_M) (T := F_M) (N := 33) hx hb htb in_M hown hK hP 0 (g_M) rfl 31 (by decide) (htb _ k_650) (fun _ h9 => h9) rfl d_M_write_54 ?_
    refine lv_aload_n hx hb d_M_write_57 rfl (lv_at hl 0 rfl) ?_
    refine va_get (D := (dC, dI)) (ci := 7) (v := .int (((w1 (w1 σ 0 6 s0) 0 7 ((((w1 σ 0 6 s0) 0).1 7) + 1)) 0).1 16)) (C := R_M) (T := F_M) (N := 33) hx hb htb in_M hown hK hP 0 (g_M) rfl 30 (by decide) (htb _ k_649) (fun _ h9 => h9) rfl d_M_write_58 ?_
    refine lv_iload_n hx hb d_M_write_61 rfl (lv_at hl 1 rfl) ?_
    have hg62 := gd_c hM
    have hM := gd_v hM
    refine va_iast (i := (((w1 (w1 σ 0 6 s0) 0 7 ((((w1 σ 0 6 s0) 0).1 7) + 1)) 0).1 16)) (x := v1) hx hb hK hP hD hS 15 0 (g_M_a15) rfl (inb_in hg62) d_M_write_62 (fun H locs hP hD hS => ?_)
    have hP := P_eq (t_M_15) hP
    have hD := D_eq (t_M_15) hD
    refine lv_aload_n hx hb d_M_write_63 rfl (lv_at hl 0 rfl) ?_
    refine lv_aload_n hx hb d_M_write_64 rfl (lv_at hl 0 rfl) ?_
    refine va_get (D := (dC, dI)) (ci := 7) (v := .int (((w3 (w1 (w1 σ 0 6 s0) 0 7 ((((w1 σ 0 6 s0) 0).1 7) + 1)) 0 15 (((w1 (w1 σ 0 6 s0) 0 7 ((((w1 σ 0 6 s0) 0).1 7) + 1)) 0).1 16) v1) 0).1 16)) (C := R_M) (T := F_M) (N := 33) hx hb htb in_M hown hK hP 0 (g_M) rfl 30 (by decide) (htb _ k_649) (fun _ h9 => h9) rfl d_M_write_65 ?_
    refine lv_iconst (v := 1) hx hb d_M_write_68 (by decide) ?_
    refine lv_iadd hx hb d_M_write_69 ?_
    refine va_put (D := (dC, dI)) (ci := 7) (v := .int ((((w3 (w1 (w1 σ 0 6 s0) 0 7 ((((w1 σ 0 6 s0) 0).1 7) + 1)) 0 15 (((w1 (w1 σ 0 6 s0) 0 7 ((((w1 σ 0 6 s0) 0).1 7) + 1)) 0).1 16) v1) 0).1 16) + 1)) (ty := .int) (C := R_M) (T := F_M) (N := 33) hx hb htb in_M ft_M ft_M_ok n_M hown hK hP hD hS 0 (g_M) rfl 30 (by decide) (htb _ k_649) (fun _ h9 => h9) rfl (by decide +kernel) rfl rfl (Nat.le_of_ble_eq_true rfl) d_M_write_70 (fun H locs hP hD hS => ?_)
    have hP := P_eq (s_M_16) hP
    have hD := D_eq (s_M_16) hD
    refine lv_iconst (v := 1) hx hb d_M_write_73 (by decide) ?_
    have e9 := Prod.mk.inj (Option.some.inj hM)
    exact W.zret (ty := .boolean) (v := 1) hx hb hr rfl (fun t ht hW => ⟨⟨1, (w1 (w3 (w1 (w1 σ 0 6 s0) 0 7 ((((w1 σ 0 6 s0) 0).1 7) + 1)) 0 15 (((w1 (w1 σ 0 6 s0) 0 7 ((((w1 σ 0 6 s0) 0).1 7) + 1)) 0).1 16) v1) 0 16 ((((w3 (w1 (w1 σ 0 6 s0) 0 7 ((((w1 σ 0 6 s0) 0).1 7) + 1)) 0 15 (((w1 (w1 σ 0 6 s0) 0 7 ((((w1 σ 0 6 s0) 0).1 7) + 1)) 0).1 16) v1) 0).1 16) + 1)), rfl, e9, by rw [ht]; exact hP, va_K.moved hW.alike hK, hD⟩, hS.F ht⟩) hS.2.2 d_M_write_74
  intro K40
  refine lv_aload_n hx hb d_M_write_0 rfl (lv_at hl 0 rfl) ?_
  refine va_get (D := (dC, dI)) (ci := 7) (v := .int ((σ 0).1 6)) (C := R_M) (T := F_M) (N := 33) hx hb htb in_M hown hK hP 0 (g_M) rfl 9 (by decide) (htb _ k_628) (fun _ h9 => h9) rfl d_M_write_1 ?_
  refine lv_if_ne (tgt := 19) hx hb d_M_write_4 (by decide) (fun h4 => ?_) (fun h4 => ?_)
  · rw [if_neg h4] at hM
    refine lv_aload_n hx hb d_M_write_19 rfl (lv_at hl 0 rfl) ?_
    refine lv_aload_n hx hb d_M_write_20 rfl (lv_at hl 0 rfl) ?_
    refine va_get (D := (dC, dI)) (ci := 7) (v := .int ((σ 0).1 6)) (C := R_M) (T := F_M) (N := 33) hx hb htb in_M hown hK hP 0 (g_M) rfl 9 (by decide) (htb _ k_628) (fun _ h9 => h9) rfl d_M_write_21 ?_
    refine lv_if_le (tgt := 36) hx hb d_M_write_24 (by decide) (fun h24 => ?_) (fun h24 => ?_)
    · rw [if_pos h24] at hM
      refine lv_aload_n hx hb d_M_write_36 rfl (lv_at hl 0 rfl) ?_
      refine va_get (D := (dC, dI)) (ci := 7) (v := .int ((σ 0).1 6)) (C := R_M) (T := F_M) (N := 33) hx hb htb in_M hown hK hP 0 (g_M) rfl 9 (by decide) (htb _ k_628) (fun _ h9 => h9) rfl d_M_write_37 ?_
      exact K40 _ _ _ _ ⟨σ, a1, ((σ 0).1 6), rfl, hM, lv_sub hl [0, 1] rfl, hP, hD, hS⟩
    · rw [if_neg h24] at hM
      refine lv_aload_n hx hb d_M_write_27 rfl (lv_at hl 0 rfl) ?_
      refine va_get (D := (dC, dI)) (ci := 7) (v := .int ((σ 0).1 6)) (C := R_M) (T := F_M) (N := 33) hx hb htb in_M hown hK hP 0 (g_M) rfl 9 (by decide) (htb _ k_628) (fun _ h9 => h9) rfl d_M_write_28 ?_
      refine lv_iconst (v := 1) hx hb d_M_write_31 (by decide) ?_
      refine lv_isub hx hb d_M_write_32 ?_
      refine lv_goto (tgt := 40) hx hb d_M_write_33 (by decide) ?_
      exact K40 _ _ _ _ ⟨σ, a1, (((σ 0).1 6) - 1), rfl, hM, lv_sub hl [0, 1] rfl, hP, hD, hS⟩
  · rw [if_pos h4] at hM
    refine lv_aload_n hx hb d_M_write_7 rfl (lv_at hl 0 rfl) ?_
    refine lv_iconst (v := 0) hx hb d_M_write_8 (by decide) ?_
    refine va_put (D := (dC, dI)) (ci := 7) (v := .int 0) (ty := .boolean) (C := R_M) (T := F_M) (N := 33) hx hb htb in_M ft_M ft_M_ok n_M hown hK hP hD hS 0 (g_M) rfl 8 (by decide) (htb _ k_627) (fun _ h9 => h9) rfl (by decide +kernel) rfl rfl (Nat.le_of_ble_eq_true rfl) d_M_write_9 (fun H locs hP hD hS => ?_)
    have hP := P_eq (s_M_5) hP
    have hD := D_eq (s_M_5) hD
    refine lv_aload_n hx hb d_M_write_12 rfl (lv_at hl 0 rfl) ?_
    refine lv_iconst (v := (-1)) hx hb d_M_write_13 (by decide) ?_
    refine va_put (D := (dC, dI)) (ci := 7) (v := .int (-1)) (ty := .int) (C := R_M) (T := F_M) (N := 33) hx hb htb in_M ft_M ft_M_ok n_M hown hK hP hD hS 0 (g_M) rfl 9 (by decide) (htb _ k_628) (fun _ h9 => h9) rfl (by decide +kernel) rfl rfl (Nat.le_of_ble_eq_true rfl) d_M_write_14 (fun H locs hP hD hS => ?_)
    have hP := P_eq (s_M_6) hP
    have hD := D_eq (s_M_6) hD
    refine lv_iconst (v := 0) hx hb d_M_write_17 (by decide) ?_
    have e9 := Prod.mk.inj (Option.some.inj hM)
    exact W.zret (ty := .boolean) (v := 0) hx hb hr rfl (fun t ht hW => ⟨⟨0, (w1 (w1 σ 0 5 0) 0 6 (-1)), rfl, e9, by rw [ht]; exact hP, va_K.moved hW.alike hK, hD⟩, hS.F ht⟩) hS.2.2 d_M_write_18
end
section
theorem d_M_first_0 : decode b_M_first 0 = .ok (.iconst (-1), 1) := by decide +kernel
theorem d_M_first_1 : decode b_M_first 1 = .ok (.istore_n 1, 1) := by decide +kernel
theorem d_M_first_2 : decode b_M_first 2 = .ok (.iconst 0, 1) := by decide +kernel
theorem d_M_first_3 : decode b_M_first 3 = .ok (.istore_n 2, 1) := by decide +kernel
theorem d_M_first_4 : decode b_M_first 4 = .ok (.iload_n 2, 1) := by decide +kernel
theorem d_M_first_5 : decode b_M_first 5 = .ok (.aload_n 0, 1) := by decide +kernel
theorem d_M_first_6 : decode b_M_first 6 = .ok (.getfield 123, 3) := by decide +kernel
theorem d_M_first_9 : decode b_M_first 9 = .ok (.if_icmp .ge 47, 3) := by decide +kernel
theorem d_M_first_12 : decode b_M_first 12 = .ok (.aload_n 0, 1) := by decide +kernel
theorem d_M_first_13 : decode b_M_first 13 = .ok (.getfield 58, 3) := by decide +kernel
theorem d_M_first_16 : decode b_M_first 16 = .ok (.iload_n 2, 1) := by decide +kernel
theorem d_M_first_17 : decode b_M_first 17 = .ok (.baload, 1) := by decide +kernel
theorem d_M_first_18 : decode b_M_first 18 = .ok (.ifCond .ne 30, 3) := by decide +kernel
theorem d_M_first_21 : decode b_M_first 21 = .ok (.iload_n 1, 1) := by decide +kernel
theorem d_M_first_22 : decode b_M_first 22 = .ok (.ifCond .lt 22, 3) := by decide +kernel
theorem d_M_first_25 : decode b_M_first 25 = .ok (.aload_n 0, 1) := by decide +kernel
theorem d_M_first_26 : decode b_M_first 26 = .ok (.aload_n 0, 1) := by decide +kernel
theorem d_M_first_27 : decode b_M_first 27 = .ok (.getfield 55, 3) := by decide +kernel
theorem d_M_first_30 : decode b_M_first 30 = .ok (.iload_n 2, 1) := by decide +kernel
theorem d_M_first_31 : decode b_M_first 31 = .ok (.iaload, 1) := by decide +kernel
theorem d_M_first_32 : decode b_M_first 32 = .ok (.aload_n 0, 1) := by decide +kernel
theorem d_M_first_33 : decode b_M_first 33 = .ok (.getfield 55, 3) := by decide +kernel
theorem d_M_first_36 : decode b_M_first 36 = .ok (.iload_n 1, 1) := by decide +kernel
theorem d_M_first_37 : decode b_M_first 37 = .ok (.iaload, 1) := by decide +kernel
theorem d_M_first_38 : decode b_M_first 38 = .ok (.invokevirtual 92, 3) := by decide +kernel
theorem d_M_first_41 : decode b_M_first 41 = .ok (.ifCond .eq 7, 3) := by decide +kernel
theorem d_M_first_44 : decode b_M_first 44 = .ok (.iload_n 2, 1) := by decide +kernel
theorem d_M_first_45 : decode b_M_first 45 = .ok (.goto 4, 3) := by decide +kernel
theorem d_M_first_48 : decode b_M_first 48 = .ok (.iload_n 1, 1) := by decide +kernel
theorem d_M_first_49 : decode b_M_first 49 = .ok (.istore_n 1, 1) := by decide +kernel
theorem d_M_first_50 : decode b_M_first 50 = .ok (.iinc 2 1, 3) := by decide +kernel
theorem d_M_first_53 : decode b_M_first 53 = .ok (.goto (-49), 3) := by decide +kernel
theorem d_M_first_56 : decode b_M_first 56 = .ok (.iload_n 1, 1) := by decide +kernel
theorem d_M_first_57 : decode b_M_first 57 = .ok (.ireturn, 1) := by decide +kernel
def m_M_first_4 (N : Nat) : Nat → SX → Int32 → Int32 → Option (Int32 × SX)
  | 0, _, _, _ => none
  | n4 + 1, σ, v1, v2 =>
    (if ((σ 0).1 14) ≤ v2 then some (v1, σ) else (if inb v2 8 = true then (if ((σ 0).2 14 v2.toNatClampNeg) = 0 then (if v1 < 0 then m_M_first_4 N n4 σ v2 (v2 + 1) else (if inb v2 8 = true then (if inb v1 8 = true then (bI (m_M_comesFirst N σ ((σ 0).2 13 v2.toNatClampNeg) ((σ 0).2 13 v1.toNatClampNeg)) fun r38 σ38 => (if r38 = 0 then m_M_first_4 N n4 σ38 v1 (v2 + 1) else m_M_first_4 N n4 σ38 v2 (v2 + 1))) else none) else none)) else m_M_first_4 N n4 σ v1 (v2 + 1)) else none))

def m_M_first (N : Nat) (σ : SX) : Option (Int32 × SX) :=
  m_M_first_4 N N σ (-1) 0

set_option maxHeartbeats 4000000 in
set_option maxRecDepth 100000 in
theorem c_M_first (l : Launch) (dC : Nat → ClassId) (dI : Nat → Nat → Nat) (ad : Nat → Nat → Nat) (cs : Nat → ClassId) (sz N : Nat) (σ : SX) {r0 : Int32} {σ0 : SX} (hM : m_M_first N σ = some (r0, σ0)) : Met l y_M_first (wd y_M_first b_M_first 3 (some .int)) ({ frames := 2, cells := 0, slots := 0, locals := 48 }) (va_Pc [.ref (ad 0 0)] (preM dC dI ad cs sz σ)) (va_Qi (fun (r : Int32) (u : SX) => r = r0 ∧ u = σ0) (atM dC dI ad cs (va_A (wM ad cs σ) sz)) (va_A (wM ad cs σ) sz)) 0 0 (va_A (wM ad cs σ) sz) := by
  refine Met.ofW (cc := b_M_first) (maxL := 3) (ret := (some .int)) (by decide) rfl ?_
  intro p e s m args below meth c s₁ B hml hv
  obtain ⟨rfl, hsz, hP, hK, hD0, hN⟩ := hv
  have hx := B.exec
  have hb := B.bytes
  have hr := B.returns
  have hts := atoms_spec (ws := (wd y_M_first b_M_first 3 (some .int))) B.pre
  have htb : ∀ w ∈ tb, w.before _ s = true := fun w h => hts w (List.mem_cons_of_mem _ h)
  have hown : s.vm.findClass R_M = some m.cls := findClass_of_methodNamed B.named
  have hlocks := B.notSynchronized
  subst hsz
  have hD := hD0.self (sz := s.heap.size)
  generalize hAe : va_A (wM ad cs σ) s.heap.size = A at hD ⊢
  have hA : ∀ q : Nat, s.heap.size ≤ q → A q := fun q h => by rw [← hAe]; exact Or.inr h
  have hS : va_S A s.heap s.heap [] := va_S.rf
  have hP : va_P (dC, dI) classes (wM ad cs σ) s.heap := hP
  have hl := lv_entry ([.ref (ad 0 0)]) (n := 3) (Nat.le_of_ble_eq_true rfl)
  rw [lg_entry_eq]
  generalize (lg_sl ([.ref (ad 0 0)]) ++ List.replicate (3 - (lg_sl ([.ref (ad 0 0)])).length) Slot.unset).toArray = ls at hl ⊢
  have hl : lv_has ls 3 [(0, .ref (ad 0 0))] := hl
  rw [m_M_first] at hM
  refine W_loop (pc := 4) (fun n4 H locs ls st => ∃ (σ : SX) (v1 : Int32) (v2 : Int32), st = [] ∧ m_M_first_4 N n4 σ v1 v2 = some (r0, σ0) ∧ lv_has ls 3 [(0, .ref (ad 0 0)), (1, .int v1), (2, .int v2)] ∧ va_P (dC, dI) classes (wM ad cs σ) H ∧ va_D A (wM ad cs σ) ∧ va_S A s.heap H locs) ?_ ?_ ?_
  · rintro H locs ls st ⟨σ, v1, v2, -, hM, -⟩
    rw [m_M_first_4] at hM; cases hM
  · intro n4 K4 H locs ls st hI
    obtain ⟨σ, v1, v2, rfl, hM, hl, hP, hD, hS⟩ := hI
    rw [m_M_first_4] at hM
    refine lv_iload_n hx hb d_M_first_4 rfl (lv_at hl 2 rfl) ?_
    refine lv_aload_n hx hb d_M_first_5 rfl (lv_at hl 0 rfl) ?_
    refine va_get (D := (dC, dI)) (ci := 7) (v := .int ((σ 0).1 14)) (C := R_M) (T := F_M) (N := 33) hx hb htb in_M hown hK hP 0 (g_M) rfl 26 (by decide) (htb _ k_645) (fun _ h9 => h9) rfl d_M_first_6 ?_
    refine lv_icmp_ge (tgt := 56) hx hb d_M_first_9 (by decide) (fun h9 => ?_) (fun h9 => ?_)
    · rw [if_pos h9] at hM
      refine lv_iload_n hx hb d_M_first_56 rfl (lv_at hl 1 rfl) ?_
      have e9 := Prod.mk.inj (Option.some.inj hM)
      exact W.iret (v := v1) hx hb hr (fun t ht hW => ⟨⟨v1, σ, rfl, e9, by rw [ht]; exact hP, va_K.moved hW.alike hK, hD⟩, hS.F ht⟩) hS.2.2 d_M_first_57
    · rw [if_neg h9] at hM
      refine lv_aload_n hx hb d_M_first_12 rfl (lv_at hl 0 rfl) ?_
      refine va_get (D := (dC, dI)) (ci := 7) (v := .ref (ad 0 14)) (C := R_M) (T := F_M) (N := 33) hx hb htb in_M hown hK hP 0 (g_M) rfl 28 (by decide) (htb _ k_647) (fun _ h9 => h9) rfl d_M_first_13 ?_
      refine lv_iload_n hx hb d_M_first_16 rfl (lv_at hl 2 rfl) ?_
      have hg17 := gd_c hM
      have hM := gd_v hM
      refine va_zald hx hb hK hP 14 1 (g_M_a14) rfl (inb_in hg17) d_M_first_17 ?_
      refine lv_if_ne (tgt := 48) hx hb d_M_first_18 (by decide) (fun h18 => ?_) (fun h18 => ?_)
      · rw [if_neg h18] at hM
        refine lv_iload_n hx hb d_M_first_48 rfl (lv_at hl 1 rfl) ?_
        refine lv_istore_n hx hb d_M_first_49 rfl hl (by decide) (lv' := [(1, .int v1), (0, .ref (ad 0 0)), (2, .int v2)]) rfl (fun ls hl => ?_)
        refine lv_iinc (k := 2) (v := (v2 + 1)) hx hb d_M_first_50 hl rfl rfl (by decide) (lv' := [(2, .int (v2 + 1)), (1, .int v1), (0, .ref (ad 0 0))]) rfl (fun ls hl => ?_)
        refine lv_goto (tgt := 4) hx hb d_M_first_53 (by decide) ?_
        exact K4 _ _ _ _ ⟨σ, v1, (v2 + 1), rfl, hM, lv_sub hl [2, 1, 0] rfl, hP, hD, hS⟩
      · rw [if_pos h18] at hM
        refine lv_iload_n hx hb d_M_first_21 rfl (lv_at hl 1 rfl) ?_
        refine lv_if_lt (tgt := 44) hx hb d_M_first_22 (by decide) (fun h22 => ?_) (fun h22 => ?_)
        · rw [if_pos h22] at hM
          refine lv_iload_n hx hb d_M_first_44 rfl (lv_at hl 2 rfl) ?_
          refine lv_goto (tgt := 49) hx hb d_M_first_45 (by decide) ?_
          refine lv_istore_n hx hb d_M_first_49 rfl hl (by decide) (lv' := [(1, .int v2), (0, .ref (ad 0 0)), (2, .int v2)]) rfl (fun ls hl => ?_)
          refine lv_iinc (k := 2) (v := (v2 + 1)) hx hb d_M_first_50 hl rfl rfl (by decide) (lv' := [(2, .int (v2 + 1)), (1, .int v2), (0, .ref (ad 0 0))]) rfl (fun ls hl => ?_)
          refine lv_goto (tgt := 4) hx hb d_M_first_53 (by decide) ?_
          exact K4 _ _ _ _ ⟨σ, v2, (v2 + 1), rfl, hM, lv_sub hl [2, 1, 0] rfl, hP, hD, hS⟩
        · rw [if_neg h22] at hM
          refine lv_aload_n hx hb d_M_first_25 rfl (lv_at hl 0 rfl) ?_
          refine lv_aload_n hx hb d_M_first_26 rfl (lv_at hl 0 rfl) ?_
          refine va_get (D := (dC, dI)) (ci := 7) (v := .ref (ad 0 13)) (C := R_M) (T := F_M) (N := 33) hx hb htb in_M hown hK hP 0 (g_M) rfl 27 (by decide) (htb _ k_646) (fun _ h9 => h9) rfl d_M_first_27 ?_
          refine lv_iload_n hx hb d_M_first_30 rfl (lv_at hl 2 rfl) ?_
          have hg31 := gd_c hM
          have hM := gd_v hM
          refine va_iald hx hb hK hP 13 0 (g_M_a13) rfl (inb_in hg31) d_M_first_31 ?_
          refine lv_aload_n hx hb d_M_first_32 rfl (lv_at hl 0 rfl) ?_
          refine va_get (D := (dC, dI)) (ci := 7) (v := .ref (ad 0 13)) (C := R_M) (T := F_M) (N := 33) hx hb htb in_M hown hK hP 0 (g_M) rfl 27 (by decide) (htb _ k_646) (fun _ h9 => h9) rfl d_M_first_33 ?_
          refine lv_iload_n hx hb d_M_first_36 rfl (lv_at hl 1 rfl) ?_
          have hg37 := gd_c hM
          have hM := gd_v hM
          refine va_iald hx hb hK hP 13 0 (g_M_a13) rfl (inb_in hg37) d_M_first_37 ?_
          have hF1 := free_all hD hS hA
          obtain ⟨x38, y38, hq38, hM⟩ := bI_some hM
          refine va_calli (va_runV (As := [.int ((σ 0).2 13 v2.toNatClampNeg), .int ((σ 0).2 13 v1.toNatClampNeg)]) (rest := []) ⟨hx, hb, hml, hown, hts⟩ (c_M_comesFirst l dC dI ad cs H.size N σ ((σ 0).2 13 v2.toNatClampNeg) ((σ 0).2 13 v1.toNatClampNeg) hq38) (cwV 2 hts (goodV k_739 k_741 ks_M_comesFirst k_8 k_742) rfl rfl rfl ⟨rfl, by decide, by decide, by decide +kernel⟩ ⟨Nat.le_of_ble_eq_true rfl, Nat.le_of_ble_eq_true rfl⟩) ⟨blindM, va_recv hK hP rfl (g_M), payM hP hK hD hN⟩ rfl rfl hl.1 rfl (lv_room (Nat.le_of_ble_eq_true rfl)) d_M_first_38 ⟨Nat.zero_le _, Nat.zero_le _⟩) hS (fun q _ h => hF1 q h) hF1 (fun r38 σ38 t H locs ht hvm hpost hB hz1 hk1 hS => ?_)
          obtain ⟨e1, e2⟩ := hpost
          subst e1
          subst e2
          obtain ⟨hP1, hK1, hD1⟩ := hB
          rw [ht] at hP1
          have hP := hP1
          have hD := hD1.weaken (fun _ _ _ h => hF1 _ h)
          refine lv_if_eq (tgt := 48) hx hb d_M_first_41 (by decide) (fun h41 => ?_) (fun h41 => ?_)
          · rw [if_pos h41] at hM
            refine lv_iload_n hx hb d_M_first_48 rfl (lv_at hl 1 rfl) ?_
            refine lv_istore_n hx hb d_M_first_49 rfl hl (by decide) (lv' := [(1, .int v1), (0, .ref (ad 0 0)), (2, .int v2)]) rfl (fun ls hl => ?_)
            refine lv_iinc (k := 2) (v := (v2 + 1)) hx hb d_M_first_50 hl rfl rfl (by decide) (lv' := [(2, .int (v2 + 1)), (1, .int v1), (0, .ref (ad 0 0))]) rfl (fun ls hl => ?_)
            refine lv_goto (tgt := 4) hx hb d_M_first_53 (by decide) ?_
            exact K4 _ _ _ _ ⟨σ38, v1, (v2 + 1), rfl, hM, lv_sub hl [2, 1, 0] rfl, hP, hD, hS⟩
          · rw [if_neg h41] at hM
            refine lv_iload_n hx hb d_M_first_44 rfl (lv_at hl 2 rfl) ?_
            refine lv_goto (tgt := 49) hx hb d_M_first_45 (by decide) ?_
            refine lv_istore_n hx hb d_M_first_49 rfl hl (by decide) (lv' := [(1, .int v2), (0, .ref (ad 0 0)), (2, .int v2)]) rfl (fun ls hl => ?_)
            refine lv_iinc (k := 2) (v := (v2 + 1)) hx hb d_M_first_50 hl rfl rfl (by decide) (lv' := [(2, .int (v2 + 1)), (1, .int v2), (0, .ref (ad 0 0))]) rfl (fun ls hl => ?_)
            refine lv_goto (tgt := 4) hx hb d_M_first_53 (by decide) ?_
            exact K4 _ _ _ _ ⟨σ38, v2, (v2 + 1), rfl, hM, lv_sub hl [2, 1, 0] rfl, hP, hD, hS⟩
  intro K4
  refine lv_iconst (v := (-1)) hx hb d_M_first_0 (by decide) ?_
  refine lv_istore_n hx hb d_M_first_1 rfl hl (by decide) (lv' := [(1, .int (-1)), (0, .ref (ad 0 0))]) rfl (fun ls hl => ?_)
  refine lv_iconst (v := 0) hx hb d_M_first_2 (by decide) ?_
  refine lv_istore_n hx hb d_M_first_3 rfl hl (by decide) (lv' := [(2, .int 0), (1, .int (-1)), (0, .ref (ad 0 0))]) rfl (fun ls hl => ?_)
  exact K4 N _ _ _ _ ⟨σ, (-1), 0, rfl, hM, lv_sub hl [2, 1, 0] rfl, hP, hD, hS⟩

theorem d_M_isTape_0 : decode b_M_isTape 0 = .ok (.iload_n 0, 1) := by decide +kernel
theorem d_M_isTape_1 : decode b_M_isTape 1 = .ok (.ifCond .lt 12, 3) := by decide +kernel
theorem d_M_isTape_4 : decode b_M_isTape 4 = .ok (.iload_n 0, 1) := by decide +kernel
theorem d_M_isTape_5 : decode b_M_isTape 5 = .ok (.iconst 4, 1) := by decide +kernel
theorem d_M_isTape_6 : decode b_M_isTape 6 = .ok (.if_icmp .ge 7, 3) := by decide +kernel
theorem d_M_isTape_9 : decode b_M_isTape 9 = .ok (.iconst 1, 1) := by decide +kernel
theorem d_M_isTape_10 : decode b_M_isTape 10 = .ok (.goto 4, 3) := by decide +kernel
theorem d_M_isTape_13 : decode b_M_isTape 13 = .ok (.iconst 0, 1) := by decide +kernel
theorem d_M_isTape_14 : decode b_M_isTape 14 = .ok (.ireturn, 1) := by decide +kernel
def m_M_isTape (a0 : Int32) : Option Int32 :=
  (if a0 < 0 then some 0 else (if 4 ≤ a0 then some 0 else some 1))

set_option maxHeartbeats 4000000 in
set_option maxRecDepth 100000 in
theorem c_M_isTape (l : Launch) (sz : Nat) (a0 : Int32) {r0 : Int32} (hM : m_M_isTape a0 = some r0) : Met l y_M_isTape (wd y_M_isTape b_M_isTape 1 (some .boolean)) ({ frames := 0, cells := 0, slots := 0, locals := 0 }) (va_Pc [.int a0] (fun U => U.heap.size = sz)) (va_Qi (fun (r : Int32) (_ : Unit) => r = r0) (fun _ _ => True) (fun q => sz ≤ q)) 0 0 (fun q => sz ≤ q) := by
  refine Met.ofW (cc := b_M_isTape) (maxL := 1) (ret := (some .boolean)) (by decide) rfl ?_
  intro p e s m args below meth c s₁ B hml hv
  obtain ⟨rfl, hsz⟩ := hv
  have hx := B.exec
  have hb := B.bytes
  have hr := B.returns
  have hts := atoms_spec (ws := (wd y_M_isTape b_M_isTape 1 (some .boolean))) B.pre
  have htb : ∀ w ∈ tb, w.before _ s = true := fun w h => hts w (List.mem_cons_of_mem _ h)
  have hown : s.vm.findClass R_M = some m.cls := findClass_of_methodNamed B.named
  have hlocks := B.notSynchronized
  subst hsz
  have hS : va_S (fun q => s.heap.size ≤ q) s.heap s.heap [] := va_S.rf
  have hA : ∀ q : Nat, s.heap.size ≤ q → s.heap.size ≤ q := fun q h => h
  have hl := lv_entry ([.int a0]) (n := 1) (Nat.le_of_ble_eq_true rfl)
  rw [lg_entry_eq]
  generalize (lg_sl ([.int a0]) ++ List.replicate (1 - (lg_sl ([.int a0])).length) Slot.unset).toArray = ls at hl ⊢
  have hl : lv_has ls 1 [(0, .int a0)] := hl
  rw [m_M_isTape] at hM
  refine lv_iload_n hx hb d_M_isTape_0 rfl (lv_at hl 0 rfl) ?_
  refine lv_if_lt (tgt := 13) hx hb d_M_isTape_1 (by decide) (fun h1 => ?_) (fun h1 => ?_)
  · rw [if_pos h1] at hM
    refine lv_iconst (v := 0) hx hb d_M_isTape_13 (by decide) ?_
    have e9 := Option.some.inj hM
    exact W.zret (ty := .boolean) (v := 0) hx hb hr rfl (fun t ht hW => ⟨⟨0, (), rfl, e9, trivial⟩, hS.F ht⟩) hS.2.2 d_M_isTape_14
  · rw [if_neg h1] at hM
    refine lv_iload_n hx hb d_M_isTape_4 rfl (lv_at hl 0 rfl) ?_
    refine lv_iconst (v := 4) hx hb d_M_isTape_5 (by decide) ?_
    refine lv_icmp_ge (tgt := 13) hx hb d_M_isTape_6 (by decide) (fun h6 => ?_) (fun h6 => ?_)
    · rw [if_pos h6] at hM
      refine lv_iconst (v := 0) hx hb d_M_isTape_13 (by decide) ?_
      have e9 := Option.some.inj hM
      exact W.zret (ty := .boolean) (v := 0) hx hb hr rfl (fun t ht hW => ⟨⟨0, (), rfl, e9, trivial⟩, hS.F ht⟩) hS.2.2 d_M_isTape_14
    · rw [if_neg h6] at hM
      refine lv_iconst (v := 1) hx hb d_M_isTape_9 (by decide) ?_
      refine lv_goto (tgt := 14) hx hb d_M_isTape_10 (by decide) ?_
      have e9 := Option.some.inj hM
      exact W.zret (ty := .boolean) (v := 1) hx hb hr rfl (fun t ht hW => ⟨⟨1, (), rfl, e9, trivial⟩, hS.F ht⟩) hS.2.2 d_M_isTape_14

theorem d_M_phase_0 : decode b_M_phase 0 = .ok (.aload_n 0, 1) := by decide +kernel
theorem d_M_phase_1 : decode b_M_phase 1 = .ok (.iconst 0, 1) := by decide +kernel
theorem d_M_phase_2 : decode b_M_phase 2 = .ok (.putfield 70, 3) := by decide +kernel
theorem d_M_phase_5 : decode b_M_phase 5 = .ok (.aload_n 0, 1) := by decide +kernel
theorem d_M_phase_6 : decode b_M_phase 6 = .ok (.getfield 19, 3) := by decide +kernel
theorem d_M_phase_9 : decode b_M_phase 9 = .ok (.ifCond .eq 10, 3) := by decide +kernel
theorem d_M_phase_12 : decode b_M_phase 12 = .ok (.aload_n 0, 1) := by decide +kernel
theorem d_M_phase_13 : decode b_M_phase 13 = .ok (.getfield 73, 3) := by decide +kernel
theorem d_M_phase_16 : decode b_M_phase 16 = .ok (.goto 9, 3) := by decide +kernel
theorem d_M_phase_19 : decode b_M_phase 19 = .ok (.aload_n 0, 1) := by decide +kernel
theorem d_M_phase_20 : decode b_M_phase 20 = .ok (.getfield 73, 3) := by decide +kernel
theorem d_M_phase_23 : decode b_M_phase 23 = .ok (.iconst 4, 1) := by decide +kernel
theorem d_M_phase_24 : decode b_M_phase 24 = .ok (.iadd, 1) := by decide +kernel
theorem d_M_phase_25 : decode b_M_phase 25 = .ok (.ireturn, 1) := by decide +kernel
def m_M_phase (N : Nat) (σ : SX) : Option (Int32 × SX) :=
  (if (((w1 σ 0 0 0) 0).1 5) = 0 then some (((((w1 σ 0 0 0) 0).1 4) + 4), (w1 σ 0 0 0)) else some ((((w1 σ 0 0 0) 0).1 4), (w1 σ 0 0 0)))

set_option maxHeartbeats 4000000 in
set_option maxRecDepth 100000 in
theorem c_M_phase (l : Launch) (dC : Nat → ClassId) (dI : Nat → Nat → Nat) (ad : Nat → Nat → Nat) (cs : Nat → ClassId) (sz N : Nat) (σ : SX) {r0 : Int32} {σ0 : SX} (hM : m_M_phase N σ = some (r0, σ0)) : Met l y_M_phase (wd y_M_phase b_M_phase 1 (some .int)) ({ frames := 0, cells := 0, slots := 0, locals := 0 }) (va_Pc [.ref (ad 0 0)] (preM dC dI ad cs sz σ)) (va_Qi (fun (r : Int32) (u : SX) => r = r0 ∧ u = σ0) (atM dC dI ad cs (va_A (wM ad cs σ) sz)) (va_A (wM ad cs σ) sz)) 0 0 (va_A (wM ad cs σ) sz) := by
  refine Met.ofW (cc := b_M_phase) (maxL := 1) (ret := (some .int)) (by decide) rfl ?_
  intro p e s m args below meth c s₁ B hml hv
  obtain ⟨rfl, hsz, hP, hK, hD0, hN⟩ := hv
  have hx := B.exec
  have hb := B.bytes
  have hr := B.returns
  have hts := atoms_spec (ws := (wd y_M_phase b_M_phase 1 (some .int))) B.pre
  have htb : ∀ w ∈ tb, w.before _ s = true := fun w h => hts w (List.mem_cons_of_mem _ h)
  have hown : s.vm.findClass R_M = some m.cls := findClass_of_methodNamed B.named
  have hlocks := B.notSynchronized
  subst hsz
  have hD := hD0.self (sz := s.heap.size)
  generalize hAe : va_A (wM ad cs σ) s.heap.size = A at hD ⊢
  have hA : ∀ q : Nat, s.heap.size ≤ q → A q := fun q h => by rw [← hAe]; exact Or.inr h
  have hS : va_S A s.heap s.heap [] := va_S.rf
  have hP : va_P (dC, dI) classes (wM ad cs σ) s.heap := hP
  have hl := lv_entry ([.ref (ad 0 0)]) (n := 1) (Nat.le_of_ble_eq_true rfl)
  rw [lg_entry_eq]
  generalize (lg_sl ([.ref (ad 0 0)]) ++ List.replicate (1 - (lg_sl ([.ref (ad 0 0)])).length) Slot.unset).toArray = ls at hl ⊢
  have hl : lv_has ls 1 [(0, .ref (ad 0 0))] := hl
  rw [m_M_phase] at hM
  refine lv_aload_n hx hb d_M_phase_0 rfl (lv_at hl 0 rfl) ?_
  refine lv_iconst (v := 0) hx hb d_M_phase_1 (by decide) ?_
  refine va_put (D := (dC, dI)) (ci := 7) (v := .int 0) (ty := .int) (C := R_M) (T := F_M) (N := 33) hx hb htb in_M ft_M ft_M_ok n_M hown hK hP hD hS 0 (g_M) rfl 0 (by decide) (htb _ k_619) (fun _ h9 => h9) rfl (by decide +kernel) rfl rfl (Nat.le_of_ble_eq_true rfl) d_M_phase_2 (fun H locs hP hD hS => ?_)
  have hP := P_eq (s_M_0) hP
  have hD := D_eq (s_M_0) hD
  refine lv_aload_n hx hb d_M_phase_5 rfl (lv_at hl 0 rfl) ?_
  refine va_get (D := (dC, dI)) (ci := 7) (v := .int (((w1 σ 0 0 0) 0).1 5)) (C := R_M) (T := F_M) (N := 33) hx hb htb in_M hown hK hP 0 (g_M) rfl 8 (by decide) (htb _ k_627) (fun _ h9 => h9) rfl d_M_phase_6 ?_
  refine lv_if_eq (tgt := 19) hx hb d_M_phase_9 (by decide) (fun h9 => ?_) (fun h9 => ?_)
  · rw [if_pos h9] at hM
    refine lv_aload_n hx hb d_M_phase_19 rfl (lv_at hl 0 rfl) ?_
    refine va_get (D := (dC, dI)) (ci := 7) (v := .int (((w1 σ 0 0 0) 0).1 4)) (C := R_M) (T := F_M) (N := 33) hx hb htb in_M hown hK hP 0 (g_M) rfl 7 (by decide) (htb _ k_626) (fun _ h9 => h9) rfl d_M_phase_20 ?_
    refine lv_iconst (v := 4) hx hb d_M_phase_23 (by decide) ?_
    refine lv_iadd hx hb d_M_phase_24 ?_
    have e9 := Prod.mk.inj (Option.some.inj hM)
    exact W.iret (v := ((((w1 σ 0 0 0) 0).1 4) + 4)) hx hb hr (fun t ht hW => ⟨⟨((((w1 σ 0 0 0) 0).1 4) + 4), (w1 σ 0 0 0), rfl, e9, by rw [ht]; exact hP, va_K.moved hW.alike hK, hD⟩, hS.F ht⟩) hS.2.2 d_M_phase_25
  · rw [if_neg h9] at hM
    refine lv_aload_n hx hb d_M_phase_12 rfl (lv_at hl 0 rfl) ?_
    refine va_get (D := (dC, dI)) (ci := 7) (v := .int (((w1 σ 0 0 0) 0).1 4)) (C := R_M) (T := F_M) (N := 33) hx hb htb in_M hown hK hP 0 (g_M) rfl 7 (by decide) (htb _ k_626) (fun _ h9 => h9) rfl d_M_phase_13 ?_
    refine lv_goto (tgt := 25) hx hb d_M_phase_16 (by decide) ?_
    have e9 := Prod.mk.inj (Option.some.inj hM)
    exact W.iret (v := (((w1 σ 0 0 0) 0).1 4)) hx hb hr (fun t ht hW => ⟨⟨(((w1 σ 0 0 0) 0).1 4), (w1 σ 0 0 0), rfl, e9, by rw [ht]; exact hP, va_K.moved hW.alike hK, hD⟩, hS.F ht⟩) hS.2.2 d_M_phase_25

theorem d_M_level_0 : decode b_M_level 0 = .ok (.aload_n 0, 1) := by decide +kernel
theorem d_M_level_1 : decode b_M_level 1 = .ok (.iconst 0, 1) := by decide +kernel
theorem d_M_level_2 : decode b_M_level 2 = .ok (.putfield 70, 3) := by decide +kernel
theorem d_M_level_5 : decode b_M_level 5 = .ok (.aload_n 0, 1) := by decide +kernel
theorem d_M_level_6 : decode b_M_level 6 = .ok (.getfield 105, 3) := by decide +kernel
theorem d_M_level_9 : decode b_M_level 9 = .ok (.ireturn, 1) := by decide +kernel
def m_M_level (N : Nat) (σ : SX) : Option (Int32 × SX) :=
  some ((((w1 σ 0 0 0) 0).1 12), (w1 σ 0 0 0))

set_option maxHeartbeats 4000000 in
set_option maxRecDepth 100000 in
theorem c_M_level (l : Launch) (dC : Nat → ClassId) (dI : Nat → Nat → Nat) (ad : Nat → Nat → Nat) (cs : Nat → ClassId) (sz N : Nat) (σ : SX) {r0 : Int32} {σ0 : SX} (hM : m_M_level N σ = some (r0, σ0)) : Met l y_M_level (wd y_M_level b_M_level 1 (some .int)) ({ frames := 0, cells := 0, slots := 0, locals := 0 }) (va_Pc [.ref (ad 0 0)] (preM dC dI ad cs sz σ)) (va_Qi (fun (r : Int32) (u : SX) => r = r0 ∧ u = σ0) (atM dC dI ad cs (va_A (wM ad cs σ) sz)) (va_A (wM ad cs σ) sz)) 0 0 (va_A (wM ad cs σ) sz) := by
  refine Met.ofW (cc := b_M_level) (maxL := 1) (ret := (some .int)) (by decide) rfl ?_
  intro p e s m args below meth c s₁ B hml hv
  obtain ⟨rfl, hsz, hP, hK, hD0, hN⟩ := hv
  have hx := B.exec
  have hb := B.bytes
  have hr := B.returns
  have hts := atoms_spec (ws := (wd y_M_level b_M_level 1 (some .int))) B.pre
  have htb : ∀ w ∈ tb, w.before _ s = true := fun w h => hts w (List.mem_cons_of_mem _ h)
  have hown : s.vm.findClass R_M = some m.cls := findClass_of_methodNamed B.named
  have hlocks := B.notSynchronized
  subst hsz
  have hD := hD0.self (sz := s.heap.size)
  generalize hAe : va_A (wM ad cs σ) s.heap.size = A at hD ⊢
  have hA : ∀ q : Nat, s.heap.size ≤ q → A q := fun q h => by rw [← hAe]; exact Or.inr h
  have hS : va_S A s.heap s.heap [] := va_S.rf
  have hP : va_P (dC, dI) classes (wM ad cs σ) s.heap := hP
  have hl := lv_entry ([.ref (ad 0 0)]) (n := 1) (Nat.le_of_ble_eq_true rfl)
  rw [lg_entry_eq]
  generalize (lg_sl ([.ref (ad 0 0)]) ++ List.replicate (1 - (lg_sl ([.ref (ad 0 0)])).length) Slot.unset).toArray = ls at hl ⊢
  have hl : lv_has ls 1 [(0, .ref (ad 0 0))] := hl
  rw [m_M_level] at hM
  refine lv_aload_n hx hb d_M_level_0 rfl (lv_at hl 0 rfl) ?_
  refine lv_iconst (v := 0) hx hb d_M_level_1 (by decide) ?_
  refine va_put (D := (dC, dI)) (ci := 7) (v := .int 0) (ty := .int) (C := R_M) (T := F_M) (N := 33) hx hb htb in_M ft_M ft_M_ok n_M hown hK hP hD hS 0 (g_M) rfl 0 (by decide) (htb _ k_619) (fun _ h9 => h9) rfl (by decide +kernel) rfl rfl (Nat.le_of_ble_eq_true rfl) d_M_level_2 (fun H locs hP hD hS => ?_)
  have hP := P_eq (s_M_0) hP
  have hD := D_eq (s_M_0) hD
  refine lv_aload_n hx hb d_M_level_5 rfl (lv_at hl 0 rfl) ?_
  refine va_get (D := (dC, dI)) (ci := 7) (v := .int (((w1 σ 0 0 0) 0).1 12)) (C := R_M) (T := F_M) (N := 33) hx hb htb in_M hown hK hP 0 (g_M) rfl 19 (by decide) (htb _ k_638) (fun _ h9 => h9) rfl d_M_level_6 ?_
  have e9 := Prod.mk.inj (Option.some.inj hM)
  exact W.iret (v := (((w1 σ 0 0 0) 0).1 12)) hx hb hr (fun t ht hW => ⟨⟨(((w1 σ 0 0 0) 0).1 12), (w1 σ 0 0 0), rfl, e9, by rw [ht]; exact hP, va_K.moved hW.alike hK, hD⟩, hS.F ht⟩) hS.2.2 d_M_level_9

theorem d_M_runs_0 : decode b_M_runs 0 = .ok (.aload_n 0, 1) := by decide +kernel
theorem d_M_runs_1 : decode b_M_runs 1 = .ok (.iconst 0, 1) := by decide +kernel
theorem d_M_runs_2 : decode b_M_runs 2 = .ok (.putfield 70, 3) := by decide +kernel
theorem d_M_runs_5 : decode b_M_runs 5 = .ok (.iload_n 1, 1) := by decide +kernel
theorem d_M_runs_6 : decode b_M_runs 6 = .ok (.invokestatic 175, 3) := by decide +kernel
theorem d_M_runs_9 : decode b_M_runs 9 = .ok (.ifCond .eq 12, 3) := by decide +kernel
theorem d_M_runs_12 : decode b_M_runs 12 = .ok (.aload_n 0, 1) := by decide +kernel
theorem d_M_runs_13 : decode b_M_runs 13 = .ok (.getfield 46, 3) := by decide +kernel
theorem d_M_runs_16 : decode b_M_runs 16 = .ok (.iload_n 1, 1) := by decide +kernel
theorem d_M_runs_17 : decode b_M_runs 17 = .ok (.iaload, 1) := by decide +kernel
theorem d_M_runs_18 : decode b_M_runs 18 = .ok (.goto 4, 3) := by decide +kernel
theorem d_M_runs_21 : decode b_M_runs 21 = .ok (.iconst (-1), 1) := by decide +kernel
theorem d_M_runs_22 : decode b_M_runs 22 = .ok (.ireturn, 1) := by decide +kernel
def m_M_runs (N : Nat) (σ : SX) (a1 : Int32) : Option (Int32 × SX) :=
  (bP (m_M_isTape a1) fun r6 => (if r6 = 0 then some ((-1), (w1 σ 0 0 0)) else (if inb a1 4 = true then some ((((w1 σ 0 0 0) 0).2 10 a1.toNatClampNeg), (w1 σ 0 0 0)) else none)))

set_option maxHeartbeats 4000000 in
set_option maxRecDepth 100000 in
theorem c_M_runs (l : Launch) (dC : Nat → ClassId) (dI : Nat → Nat → Nat) (ad : Nat → Nat → Nat) (cs : Nat → ClassId) (sz N : Nat) (σ : SX) (a1 : Int32) {r0 : Int32} {σ0 : SX} (hM : m_M_runs N σ a1 = some (r0, σ0)) : Met l y_M_runs (wd y_M_runs b_M_runs 2 (some .int)) ({ frames := 1, cells := 0, slots := 0, locals := 20 }) (va_Pc [.ref (ad 0 0), .int a1] (preM dC dI ad cs sz σ)) (va_Qi (fun (r : Int32) (u : SX) => r = r0 ∧ u = σ0) (atM dC dI ad cs (va_A (wM ad cs σ) sz)) (va_A (wM ad cs σ) sz)) 0 0 (va_A (wM ad cs σ) sz) := by
  refine Met.ofW (cc := b_M_runs) (maxL := 2) (ret := (some .int)) (by decide) rfl ?_
  intro p e s m args below meth c s₁ B hml hv
  obtain ⟨rfl, hsz, hP, hK, hD0, hN⟩ := hv
  have hx := B.exec
  have hb := B.bytes
  have hr := B.returns
  have hts := atoms_spec (ws := (wd y_M_runs b_M_runs 2 (some .int))) B.pre
  have htb : ∀ w ∈ tb, w.before _ s = true := fun w h => hts w (List.mem_cons_of_mem _ h)
  have hown : s.vm.findClass R_M = some m.cls := findClass_of_methodNamed B.named
  have hlocks := B.notSynchronized
  subst hsz
  have hD := hD0.self (sz := s.heap.size)
  generalize hAe : va_A (wM ad cs σ) s.heap.size = A at hD ⊢
  have hA : ∀ q : Nat, s.heap.size ≤ q → A q := fun q h => by rw [← hAe]; exact Or.inr h
  have hS : va_S A s.heap s.heap [] := va_S.rf
  have hP : va_P (dC, dI) classes (wM ad cs σ) s.heap := hP
  have hl := lv_entry ([.ref (ad 0 0), .int a1]) (n := 2) (Nat.le_of_ble_eq_true rfl)
  rw [lg_entry_eq]
  generalize (lg_sl ([.ref (ad 0 0), .int a1]) ++ List.replicate (2 - (lg_sl ([.ref (ad 0 0), .int a1])).length) Slot.unset).toArray = ls at hl ⊢
  have hl : lv_has ls 2 [(0, .ref (ad 0 0)), (1, .int a1)] := hl
  rw [m_M_runs] at hM
  refine lv_aload_n hx hb d_M_runs_0 rfl (lv_at hl 0 rfl) ?_
  refine lv_iconst (v := 0) hx hb d_M_runs_1 (by decide) ?_
  refine va_put (D := (dC, dI)) (ci := 7) (v := .int 0) (ty := .int) (C := R_M) (T := F_M) (N := 33) hx hb htb in_M ft_M ft_M_ok n_M hown hK hP hD hS 0 (g_M) rfl 0 (by decide) (htb _ k_619) (fun _ h9 => h9) rfl (by decide +kernel) rfl rfl (Nat.le_of_ble_eq_true rfl) d_M_runs_2 (fun H locs hP hD hS => ?_)
  have hP := P_eq (s_M_0) hP
  have hD := D_eq (s_M_0) hD
  refine lv_iload_n hx hb d_M_runs_5 rfl (lv_at hl 1 rfl) ?_
  obtain ⟨x6, hq6, hM⟩ := bP_some hM
  refine va_calli (va_runS (As := [.int a1]) (rest := []) ⟨hx, hb, hml, hown, hts⟩ (c_M_isTape l H.size a1 hq6) (cwS 1 hts (goodS k_827 k_828 k_8 k_829) rfl rfl rfl ⟨rfl, by decide, by decide, by decide +kernel⟩ ⟨Nat.le_of_ble_eq_true rfl, Nat.le_of_ble_eq_true rfl⟩) ⟨blindS, payS⟩ rfl rfl hl.1 rfl (lv_room (Nat.le_of_ble_eq_true rfl)) d_M_runs_6 ⟨Nat.zero_le _, Nat.zero_le _⟩) hS (fun q h0 h => absurd h0 (Nat.not_lt.mpr h)) (fun q h => hA q (Nat.le_trans hS.1 h)) (fun r6 u t H locs ht hvm hpost hB hz1 hk1 hS => ?_)
  subst hpost
  have hP := keepP hP hk1
  refine lv_if_eq (tgt := 21) hx hb d_M_runs_9 (by decide) (fun h9 => ?_) (fun h9 => ?_)
  · rw [if_pos h9] at hM
    refine lv_iconst (v := (-1)) hx hb d_M_runs_21 (by decide) ?_
    have e9 := Prod.mk.inj (Option.some.inj hM)
    exact W.iret (v := (-1)) hx hb hr (fun t ht hW => ⟨⟨(-1), (w1 σ 0 0 0), rfl, e9, by rw [ht]; exact hP, va_K.moved hW.alike hK, hD⟩, hS.F ht⟩) hS.2.2 d_M_runs_22
  · rw [if_neg h9] at hM
    refine lv_aload_n hx hb d_M_runs_12 rfl (lv_at hl 0 rfl) ?_
    refine va_get (D := (dC, dI)) (ci := 7) (v := .ref (ad 0 10)) (C := R_M) (T := F_M) (N := 33) hx hb htb in_M hown hK hP 0 (g_M) rfl 23 (by decide) (htb _ k_642) (fun _ h9 => h9) rfl d_M_runs_13 ?_
    refine lv_iload_n hx hb d_M_runs_16 rfl (lv_at hl 1 rfl) ?_
    have hg17 := gd_c hM
    have hM := gd_v hM
    refine va_iald hx hb hK hP 10 0 (g_M_a10) rfl (inb_in hg17) d_M_runs_17 ?_
    refine lv_goto (tgt := 22) hx hb d_M_runs_18 (by decide) ?_
    have e9 := Prod.mk.inj (Option.some.inj hM)
    exact W.iret (v := (((w1 σ 0 0 0) 0).2 10 a1.toNatClampNeg)) hx hb hr (fun t ht hW => ⟨⟨(((w1 σ 0 0 0) 0).2 10 a1.toNatClampNeg), (w1 σ 0 0 0), rfl, e9, by rw [ht]; exact hP, va_K.moved hW.alike hK, hD⟩, hS.F ht⟩) hS.2.2 d_M_runs_22
end
