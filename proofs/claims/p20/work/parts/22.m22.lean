theorem d_M_findPlace_0 : decode b_M_findPlace 0 = .ok (.aload_n 0, 1) := by decide +kernel
theorem d_M_findPlace_1 : decode b_M_findPlace 1 = .ok (.getfield 108, 3) := by decide +kernel
theorem d_M_findPlace_4 : decode b_M_findPlace 4 = .ok (.iconst 2, 1) := by decide +kernel
theorem d_M_findPlace_5 : decode b_M_findPlace 5 = .ok (.if_icmp .ge 37, 3) := by decide +kernel
theorem d_M_findPlace_8 : decode b_M_findPlace 8 = .ok (.aload_n 0, 1) := by decide +kernel
theorem d_M_findPlace_9 : decode b_M_findPlace 9 = .ok (.getfield 49, 3) := by decide +kernel
theorem d_M_findPlace_12 : decode b_M_findPlace 12 = .ok (.aload_n 0, 1) := by decide +kernel
theorem d_M_findPlace_13 : decode b_M_findPlace 13 = .ok (.getfield 108, 3) := by decide +kernel
theorem d_M_findPlace_16 : decode b_M_findPlace 16 = .ok (.iaload, 1) := by decide +kernel
theorem d_M_findPlace_17 : decode b_M_findPlace 17 = .ok (.aload_n 0, 1) := by decide +kernel
theorem d_M_findPlace_18 : decode b_M_findPlace 18 = .ok (.getfield 49, 3) := by decide +kernel
theorem d_M_findPlace_21 : decode b_M_findPlace 21 = .ok (.aload_n 0, 1) := by decide +kernel
theorem d_M_findPlace_22 : decode b_M_findPlace 22 = .ok (.getfield 108, 3) := by decide +kernel
theorem d_M_findPlace_25 : decode b_M_findPlace 25 = .ok (.iconst 1, 1) := by decide +kernel
theorem d_M_findPlace_26 : decode b_M_findPlace 26 = .ok (.iadd, 1) := by decide +kernel
theorem d_M_findPlace_27 : decode b_M_findPlace 27 = .ok (.iaload, 1) := by decide +kernel
theorem d_M_findPlace_28 : decode b_M_findPlace 28 = .ok (.if_icmp .ge 14, 3) := by decide +kernel
theorem d_M_findPlace_31 : decode b_M_findPlace 31 = .ok (.aload_n 0, 1) := by decide +kernel
theorem d_M_findPlace_32 : decode b_M_findPlace 32 = .ok (.aload_n 0, 1) := by decide +kernel
theorem d_M_findPlace_33 : decode b_M_findPlace 33 = .ok (.getfield 108, 3) := by decide +kernel
theorem d_M_findPlace_36 : decode b_M_findPlace 36 = .ok (.iconst 1, 1) := by decide +kernel
theorem d_M_findPlace_37 : decode b_M_findPlace 37 = .ok (.iadd, 1) := by decide +kernel
theorem d_M_findPlace_38 : decode b_M_findPlace 38 = .ok (.putfield 108, 3) := by decide +kernel
theorem d_M_findPlace_41 : decode b_M_findPlace 41 = .ok (.return_, 1) := by decide +kernel
theorem d_M_findPlace_42 : decode b_M_findPlace 42 = .ok (.aload_n 0, 1) := by decide +kernel
theorem d_M_findPlace_43 : decode b_M_findPlace 43 = .ok (.getfield 49, 3) := by decide +kernel
theorem d_M_findPlace_46 : decode b_M_findPlace 46 = .ok (.aload_n 0, 1) := by decide +kernel
theorem d_M_findPlace_47 : decode b_M_findPlace 47 = .ok (.getfield 108, 3) := by decide +kernel
theorem d_M_findPlace_50 : decode b_M_findPlace 50 = .ok (.iaload, 1) := by decide +kernel
theorem d_M_findPlace_51 : decode b_M_findPlace 51 = .ok (.ifCond .ne 107, 3) := by decide +kernel
theorem d_M_findPlace_54 : decode b_M_findPlace 54 = .ok (.aload_n 0, 1) := by decide +kernel
theorem d_M_findPlace_55 : decode b_M_findPlace 55 = .ok (.aload_n 0, 1) := by decide +kernel
theorem d_M_findPlace_56 : decode b_M_findPlace 56 = .ok (.getfield 105, 3) := by decide +kernel
theorem d_M_findPlace_59 : decode b_M_findPlace 59 = .ok (.iconst 1, 1) := by decide +kernel
theorem d_M_findPlace_60 : decode b_M_findPlace 60 = .ok (.iadd, 1) := by decide +kernel
theorem d_M_findPlace_61 : decode b_M_findPlace 61 = .ok (.putfield 105, 3) := by decide +kernel
theorem d_M_findPlace_64 : decode b_M_findPlace 64 = .ok (.aload_n 0, 1) := by decide +kernel
theorem d_M_findPlace_65 : decode b_M_findPlace 65 = .ok (.getfield 37, 3) := by decide +kernel
theorem d_M_findPlace_68 : decode b_M_findPlace 68 = .ok (.iconst 0, 1) := by decide +kernel
theorem d_M_findPlace_69 : decode b_M_findPlace 69 = .ok (.iaload, 1) := by decide +kernel
theorem d_M_findPlace_70 : decode b_M_findPlace 70 = .ok (.istore_n 1, 1) := by decide +kernel
theorem d_M_findPlace_71 : decode b_M_findPlace 71 = .ok (.aload_n 0, 1) := by decide +kernel
theorem d_M_findPlace_72 : decode b_M_findPlace 72 = .ok (.getfield 37, 3) := by decide +kernel
theorem d_M_findPlace_75 : decode b_M_findPlace 75 = .ok (.iconst 1, 1) := by decide +kernel
theorem d_M_findPlace_76 : decode b_M_findPlace 76 = .ok (.iaload, 1) := by decide +kernel
theorem d_M_findPlace_77 : decode b_M_findPlace 77 = .ok (.istore_n 2, 1) := by decide +kernel
theorem d_M_findPlace_78 : decode b_M_findPlace 78 = .ok (.aload_n 0, 1) := by decide +kernel
theorem d_M_findPlace_79 : decode b_M_findPlace 79 = .ok (.getfield 37, 3) := by decide +kernel
theorem d_M_findPlace_82 : decode b_M_findPlace 82 = .ok (.iconst 2, 1) := by decide +kernel
theorem d_M_findPlace_83 : decode b_M_findPlace 83 = .ok (.iaload, 1) := by decide +kernel
theorem d_M_findPlace_84 : decode b_M_findPlace 84 = .ok (.istore_n 3, 1) := by decide +kernel
theorem d_M_findPlace_85 : decode b_M_findPlace 85 = .ok (.aload_n 0, 1) := by decide +kernel
theorem d_M_findPlace_86 : decode b_M_findPlace 86 = .ok (.getfield 37, 3) := by decide +kernel
theorem d_M_findPlace_89 : decode b_M_findPlace 89 = .ok (.iconst 0, 1) := by decide +kernel
theorem d_M_findPlace_90 : decode b_M_findPlace 90 = .ok (.iload_n 1, 1) := by decide +kernel
theorem d_M_findPlace_91 : decode b_M_findPlace 91 = .ok (.iload_n 2, 1) := by decide +kernel
theorem d_M_findPlace_92 : decode b_M_findPlace 92 = .ok (.iadd, 1) := by decide +kernel
theorem d_M_findPlace_93 : decode b_M_findPlace 93 = .ok (.iastore, 1) := by decide +kernel
theorem d_M_findPlace_94 : decode b_M_findPlace 94 = .ok (.aload_n 0, 1) := by decide +kernel
theorem d_M_findPlace_95 : decode b_M_findPlace 95 = .ok (.getfield 37, 3) := by decide +kernel
theorem d_M_findPlace_98 : decode b_M_findPlace 98 = .ok (.iconst 1, 1) := by decide +kernel
theorem d_M_findPlace_99 : decode b_M_findPlace 99 = .ok (.iload_n 1, 1) := by decide +kernel
theorem d_M_findPlace_100 : decode b_M_findPlace 100 = .ok (.iload_n 3, 1) := by decide +kernel
theorem d_M_findPlace_101 : decode b_M_findPlace 101 = .ok (.iadd, 1) := by decide +kernel
theorem d_M_findPlace_102 : decode b_M_findPlace 102 = .ok (.iastore, 1) := by decide +kernel
theorem d_M_findPlace_103 : decode b_M_findPlace 103 = .ok (.aload_n 0, 1) := by decide +kernel
theorem d_M_findPlace_104 : decode b_M_findPlace 104 = .ok (.getfield 37, 3) := by decide +kernel
theorem d_M_findPlace_107 : decode b_M_findPlace 107 = .ok (.iconst 2, 1) := by decide +kernel
theorem d_M_findPlace_108 : decode b_M_findPlace 108 = .ok (.iload_n 1, 1) := by decide +kernel
theorem d_M_findPlace_109 : decode b_M_findPlace 109 = .ok (.iastore, 1) := by decide +kernel
theorem d_M_findPlace_110 : decode b_M_findPlace 110 = .ok (.aload_n 0, 1) := by decide +kernel
theorem d_M_findPlace_111 : decode b_M_findPlace 111 = .ok (.getfield 49, 3) := by decide +kernel
theorem d_M_findPlace_114 : decode b_M_findPlace 114 = .ok (.iconst 0, 1) := by decide +kernel
theorem d_M_findPlace_115 : decode b_M_findPlace 115 = .ok (.aload_n 0, 1) := by decide +kernel
theorem d_M_findPlace_116 : decode b_M_findPlace 116 = .ok (.getfield 49, 3) := by decide +kernel
theorem d_M_findPlace_119 : decode b_M_findPlace 119 = .ok (.iconst 0, 1) := by decide +kernel
theorem d_M_findPlace_120 : decode b_M_findPlace 120 = .ok (.iaload, 1) := by decide +kernel
theorem d_M_findPlace_121 : decode b_M_findPlace 121 = .ok (.iload_n 2, 1) := by decide +kernel
theorem d_M_findPlace_122 : decode b_M_findPlace 122 = .ok (.iadd, 1) := by decide +kernel
theorem d_M_findPlace_123 : decode b_M_findPlace 123 = .ok (.iastore, 1) := by decide +kernel
theorem d_M_findPlace_124 : decode b_M_findPlace 124 = .ok (.aload_n 0, 1) := by decide +kernel
theorem d_M_findPlace_125 : decode b_M_findPlace 125 = .ok (.getfield 49, 3) := by decide +kernel
theorem d_M_findPlace_128 : decode b_M_findPlace 128 = .ok (.iconst 1, 1) := by decide +kernel
theorem d_M_findPlace_129 : decode b_M_findPlace 129 = .ok (.aload_n 0, 1) := by decide +kernel
theorem d_M_findPlace_130 : decode b_M_findPlace 130 = .ok (.getfield 49, 3) := by decide +kernel
theorem d_M_findPlace_133 : decode b_M_findPlace 133 = .ok (.iconst 1, 1) := by decide +kernel
theorem d_M_findPlace_134 : decode b_M_findPlace 134 = .ok (.iaload, 1) := by decide +kernel
theorem d_M_findPlace_135 : decode b_M_findPlace 135 = .ok (.iload_n 1, 1) := by decide +kernel
theorem d_M_findPlace_136 : decode b_M_findPlace 136 = .ok (.iadd, 1) := by decide +kernel
theorem d_M_findPlace_137 : decode b_M_findPlace 137 = .ok (.iload_n 3, 1) := by decide +kernel
theorem d_M_findPlace_138 : decode b_M_findPlace 138 = .ok (.iadd, 1) := by decide +kernel
theorem d_M_findPlace_139 : decode b_M_findPlace 139 = .ok (.iload_n 2, 1) := by decide +kernel
theorem d_M_findPlace_140 : decode b_M_findPlace 140 = .ok (.isub, 1) := by decide +kernel
theorem d_M_findPlace_141 : decode b_M_findPlace 141 = .ok (.iastore, 1) := by decide +kernel
theorem d_M_findPlace_142 : decode b_M_findPlace 142 = .ok (.aload_n 0, 1) := by decide +kernel
theorem d_M_findPlace_143 : decode b_M_findPlace 143 = .ok (.getfield 49, 3) := by decide +kernel
theorem d_M_findPlace_146 : decode b_M_findPlace 146 = .ok (.iconst 2, 1) := by decide +kernel
theorem d_M_findPlace_147 : decode b_M_findPlace 147 = .ok (.aload_n 0, 1) := by decide +kernel
theorem d_M_findPlace_148 : decode b_M_findPlace 148 = .ok (.getfield 49, 3) := by decide +kernel
theorem d_M_findPlace_151 : decode b_M_findPlace 151 = .ok (.iconst 2, 1) := by decide +kernel
theorem d_M_findPlace_152 : decode b_M_findPlace 152 = .ok (.iaload, 1) := by decide +kernel
theorem d_M_findPlace_153 : decode b_M_findPlace 153 = .ok (.iload_n 1, 1) := by decide +kernel
theorem d_M_findPlace_154 : decode b_M_findPlace 154 = .ok (.iadd, 1) := by decide +kernel
theorem d_M_findPlace_155 : decode b_M_findPlace 155 = .ok (.iload_n 3, 1) := by decide +kernel
theorem d_M_findPlace_156 : decode b_M_findPlace 156 = .ok (.isub, 1) := by decide +kernel
theorem d_M_findPlace_157 : decode b_M_findPlace 157 = .ok (.iastore, 1) := by decide +kernel
theorem d_M_findPlace_158 : decode b_M_findPlace 158 = .ok (.aload_n 0, 1) := by decide +kernel
theorem d_M_findPlace_159 : decode b_M_findPlace 159 = .ok (.iconst 0, 1) := by decide +kernel
theorem d_M_findPlace_160 : decode b_M_findPlace 160 = .ok (.putfield 108, 3) := by decide +kernel
theorem d_M_findPlace_163 : decode b_M_findPlace 163 = .ok (.return_, 1) := by decide +kernel
def m_M_findPlace_42 (N : Nat) (σ : SX) : Option (SX) :=
    (if inb ((σ 0).1 13) 4 = true then (if ((σ 0).2 11 ((σ 0).1 13).toNatClampNeg) = 0 then some (w1 (w3 (w3 (w3 (w3 (w3 (w3 (w1 σ 0 12 (((σ 0).1 12) + 1)) 0 7 0 ((((w1 σ 0 12 (((σ 0).1 12) + 1)) 0).2 7 (0 : Int32).toNatClampNeg) + (((w1 σ 0 12 (((σ 0).1 12) + 1)) 0).2 7 (1 : Int32).toNatClampNeg))) 0 7 1 ((((w1 σ 0 12 (((σ 0).1 12) + 1)) 0).2 7 (0 : Int32).toNatClampNeg) + (((w1 σ 0 12 (((σ 0).1 12) + 1)) 0).2 7 (2 : Int32).toNatClampNeg))) 0 7 2 (((w1 σ 0 12 (((σ 0).1 12) + 1)) 0).2 7 (0 : Int32).toNatClampNeg)) 0 11 0 ((((w3 (w3 (w3 (w1 σ 0 12 (((σ 0).1 12) + 1)) 0 7 0 ((((w1 σ 0 12 (((σ 0).1 12) + 1)) 0).2 7 (0 : Int32).toNatClampNeg) + (((w1 σ 0 12 (((σ 0).1 12) + 1)) 0).2 7 (1 : Int32).toNatClampNeg))) 0 7 1 ((((w1 σ 0 12 (((σ 0).1 12) + 1)) 0).2 7 (0 : Int32).toNatClampNeg) + (((w1 σ 0 12 (((σ 0).1 12) + 1)) 0).2 7 (2 : Int32).toNatClampNeg))) 0 7 2 (((w1 σ 0 12 (((σ 0).1 12) + 1)) 0).2 7 (0 : Int32).toNatClampNeg)) 0).2 11 (0 : Int32).toNatClampNeg) + (((w1 σ 0 12 (((σ 0).1 12) + 1)) 0).2 7 (1 : Int32).toNatClampNeg))) 0 11 1 ((((((w3 (w3 (w3 (w3 (w1 σ 0 12 (((σ 0).1 12) + 1)) 0 7 0 ((((w1 σ 0 12 (((σ 0).1 12) + 1)) 0).2 7 (0 : Int32).toNatClampNeg) + (((w1 σ 0 12 (((σ 0).1 12) + 1)) 0).2 7 (1 : Int32).toNatClampNeg))) 0 7 1 ((((w1 σ 0 12 (((σ 0).1 12) + 1)) 0).2 7 (0 : Int32).toNatClampNeg) + (((w1 σ 0 12 (((σ 0).1 12) + 1)) 0).2 7 (2 : Int32).toNatClampNeg))) 0 7 2 (((w1 σ 0 12 (((σ 0).1 12) + 1)) 0).2 7 (0 : Int32).toNatClampNeg)) 0 11 0 ((((w3 (w3 (w3 (w1 σ 0 12 (((σ 0).1 12) + 1)) 0 7 0 ((((w1 σ 0 12 (((σ 0).1 12) + 1)) 0).2 7 (0 : Int32).toNatClampNeg) + (((w1 σ 0 12 (((σ 0).1 12) + 1)) 0).2 7 (1 : Int32).toNatClampNeg))) 0 7 1 ((((w1 σ 0 12 (((σ 0).1 12) + 1)) 0).2 7 (0 : Int32).toNatClampNeg) + (((w1 σ 0 12 (((σ 0).1 12) + 1)) 0).2 7 (2 : Int32).toNatClampNeg))) 0 7 2 (((w1 σ 0 12 (((σ 0).1 12) + 1)) 0).2 7 (0 : Int32).toNatClampNeg)) 0).2 11 (0 : Int32).toNatClampNeg) + (((w1 σ 0 12 (((σ 0).1 12) + 1)) 0).2 7 (1 : Int32).toNatClampNeg))) 0).2 11 (1 : Int32).toNatClampNeg) + (((w1 σ 0 12 (((σ 0).1 12) + 1)) 0).2 7 (0 : Int32).toNatClampNeg)) + (((w1 σ 0 12 (((σ 0).1 12) + 1)) 0).2 7 (2 : Int32).toNatClampNeg)) - (((w1 σ 0 12 (((σ 0).1 12) + 1)) 0).2 7 (1 : Int32).toNatClampNeg))) 0 11 2 (((((w3 (w3 (w3 (w3 (w3 (w1 σ 0 12 (((σ 0).1 12) + 1)) 0 7 0 ((((w1 σ 0 12 (((σ 0).1 12) + 1)) 0).2 7 (0 : Int32).toNatClampNeg) + (((w1 σ 0 12 (((σ 0).1 12) + 1)) 0).2 7 (1 : Int32).toNatClampNeg))) 0 7 1 ((((w1 σ 0 12 (((σ 0).1 12) + 1)) 0).2 7 (0 : Int32).toNatClampNeg) + (((w1 σ 0 12 (((σ 0).1 12) + 1)) 0).2 7 (2 : Int32).toNatClampNeg))) 0 7 2 (((w1 σ 0 12 (((σ 0).1 12) + 1)) 0).2 7 (0 : Int32).toNatClampNeg)) 0 11 0 ((((w3 (w3 (w3 (w1 σ 0 12 (((σ 0).1 12) + 1)) 0 7 0 ((((w1 σ 0 12 (((σ 0).1 12) + 1)) 0).2 7 (0 : Int32).toNatClampNeg) + (((w1 σ 0 12 (((σ 0).1 12) + 1)) 0).2 7 (1 : Int32).toNatClampNeg))) 0 7 1 ((((w1 σ 0 12 (((σ 0).1 12) + 1)) 0).2 7 (0 : Int32).toNatClampNeg) + (((w1 σ 0 12 (((σ 0).1 12) + 1)) 0).2 7 (2 : Int32).toNatClampNeg))) 0 7 2 (((w1 σ 0 12 (((σ 0).1 12) + 1)) 0).2 7 (0 : Int32).toNatClampNeg)) 0).2 11 (0 : Int32).toNatClampNeg) + (((w1 σ 0 12 (((σ 0).1 12) + 1)) 0).2 7 (1 : Int32).toNatClampNeg))) 0 11 1 ((((((w3 (w3 (w3 (w3 (w1 σ 0 12 (((σ 0).1 12) + 1)) 0 7 0 ((((w1 σ 0 12 (((σ 0).1 12) + 1)) 0).2 7 (0 : Int32).toNatClampNeg) + (((w1 σ 0 12 (((σ 0).1 12) + 1)) 0).2 7 (1 : Int32).toNatClampNeg))) 0 7 1 ((((w1 σ 0 12 (((σ 0).1 12) + 1)) 0).2 7 (0 : Int32).toNatClampNeg) + (((w1 σ 0 12 (((σ 0).1 12) + 1)) 0).2 7 (2 : Int32).toNatClampNeg))) 0 7 2 (((w1 σ 0 12 (((σ 0).1 12) + 1)) 0).2 7 (0 : Int32).toNatClampNeg)) 0 11 0 ((((w3 (w3 (w3 (w1 σ 0 12 (((σ 0).1 12) + 1)) 0 7 0 ((((w1 σ 0 12 (((σ 0).1 12) + 1)) 0).2 7 (0 : Int32).toNatClampNeg) + (((w1 σ 0 12 (((σ 0).1 12) + 1)) 0).2 7 (1 : Int32).toNatClampNeg))) 0 7 1 ((((w1 σ 0 12 (((σ 0).1 12) + 1)) 0).2 7 (0 : Int32).toNatClampNeg) + (((w1 σ 0 12 (((σ 0).1 12) + 1)) 0).2 7 (2 : Int32).toNatClampNeg))) 0 7 2 (((w1 σ 0 12 (((σ 0).1 12) + 1)) 0).2 7 (0 : Int32).toNatClampNeg)) 0).2 11 (0 : Int32).toNatClampNeg) + (((w1 σ 0 12 (((σ 0).1 12) + 1)) 0).2 7 (1 : Int32).toNatClampNeg))) 0).2 11 (1 : Int32).toNatClampNeg) + (((w1 σ 0 12 (((σ 0).1 12) + 1)) 0).2 7 (0 : Int32).toNatClampNeg)) + (((w1 σ 0 12 (((σ 0).1 12) + 1)) 0).2 7 (2 : Int32).toNatClampNeg)) - (((w1 σ 0 12 (((σ 0).1 12) + 1)) 0).2 7 (1 : Int32).toNatClampNeg))) 0).2 11 (2 : Int32).toNatClampNeg) + (((w1 σ 0 12 (((σ 0).1 12) + 1)) 0).2 7 (0 : Int32).toNatClampNeg)) - (((w1 σ 0 12 (((σ 0).1 12) + 1)) 0).2 7 (2 : Int32).toNatClampNeg))) 0 13 0) else some (w1 σ 0 13 0)) else none)

def m_M_findPlace (N : Nat) (σ : SX) : Option (SX) :=
  (if 2 ≤ ((σ 0).1 13) then m_M_findPlace_42 N σ else (if inb ((σ 0).1 13) 4 = true then (if inb (((σ 0).1 13) + 1) 4 = true then (if ((σ 0).2 11 (((σ 0).1 13) + 1).toNatClampNeg) ≤ ((σ 0).2 11 ((σ 0).1 13).toNatClampNeg) then m_M_findPlace_42 N σ else some (w1 σ 0 13 (((σ 0).1 13) + 1))) else none) else none))

set_option maxHeartbeats 4000000 in
set_option maxRecDepth 100000 in
theorem c_M_findPlace (l : Launch) (dC : Nat → ClassId) (dI : Nat → Nat → Nat) (ad : Nat → Nat → Nat) (cs : Nat → ClassId) (sz N : Nat) (σ : SX) {σ0 : SX} (hM : m_M_findPlace N σ = some σ0) : Met l y_M_findPlace (wd y_M_findPlace b_M_findPlace 4 none) ({ frames := 0, cells := 0, slots := 0, locals := 0 }) (va_Pc [.ref (ad 0 0)] (preM dC dI ad cs sz σ)) (va_Qv (fun (u : SX) => u = σ0) (atM dC dI ad cs (va_A (wM ad cs σ) sz)) (va_A (wM ad cs σ) sz)) 0 0 (va_A (wM ad cs σ) sz) := by
  refine Met.ofW (cc := b_M_findPlace) (maxL := 4) (ret := none) (by decide) rfl ?_
  intro p e s m args below meth c s₁ B hml hv
  obtain ⟨rfl, hsz, hP, hK, hD0, hN⟩ := hv
  have hx := B.exec
  have hb := B.bytes
  have hr := B.returns
  have hts := atoms_spec (ws := (wd y_M_findPlace b_M_findPlace 4 none)) B.pre
  have htb : ∀ w ∈ tb, w.before _ s = true := fun w h => hts w (List.mem_cons_of_mem _ h)
  have hown : s.vm.findClass R_M = some m.cls := findClass_of_methodNamed B.named
  have hlocks := B.notSynchronized
  subst hsz
  have hD := hD0.self (sz := s.heap.size)
  generalize hAe : va_A (wM ad cs σ) s.heap.size = A at hD ⊢
  have hA : ∀ q : Nat, s.heap.size ≤ q → A q := fun q h => by rw [← hAe]; exact Or.inr h
  have hS : va_S A s.heap s.heap [] := va_S.rf
  have hP : va_P (dC, dI) classes (wM ad cs σ) s.heap := hP
  have hl := lv_entry ([.ref (ad 0 0)]) (n := 4) (Nat.le_of_ble_eq_true rfl)
  rw [lg_entry_eq]
  generalize (lg_sl ([.ref (ad 0 0)]) ++ List.replicate (4 - (lg_sl ([.ref (ad 0 0)])).length) Slot.unset).toArray = ls at hl ⊢
  have hl : lv_has ls 4 [(0, .ref (ad 0 0))] := hl
  rw [m_M_findPlace] at hM
  refine W_cut (pc := 42) (fun H locs ls st => ∃ (σ : SX), st = [] ∧ m_M_findPlace_42 N σ = some σ0 ∧ lv_has ls 4 [(0, .ref (ad 0 0))] ∧ va_P (dC, dI) classes (wM ad cs σ) H ∧ va_D A (wM ad cs σ) ∧ va_S A s.heap H locs) ?_ ?_
  · intro H locs ls st hI
    obtain ⟨σ, rfl, hM, hl, hP, hD, hS⟩ := hI
    rw [m_M_findPlace_42] at hM
    refine lv_aload_n hx hb d_M_findPlace_42 rfl (lv_at hl 0 rfl) ?_
    refine va_get (D := (dC, dI)) (ci := 7) (v := .ref (ad 0 11)) (C := R_M) (T := F_M) (N := 33) hx hb htb in_M hown hK hP 0 (g_M) rfl 24 (by decide) (htb _ k_643) (fun _ h9 => h9) rfl d_M_findPlace_43 ?_
    refine lv_aload_n hx hb d_M_findPlace_46 rfl (lv_at hl 0 rfl) ?_
    refine va_get (D := (dC, dI)) (ci := 7) (v := .int ((σ 0).1 13)) (C := R_M) (T := F_M) (N := 33) hx hb htb in_M hown hK hP 0 (g_M) rfl 20 (by decide) (htb _ k_639) (fun _ h9 => h9) rfl d_M_findPlace_47 ?_
    have hg50 := gd_c hM
    have hM := gd_v hM
    refine va_iald hx hb hK hP 11 0 (g_M_a11) rfl (inb_in hg50) d_M_findPlace_50 ?_
    refine lv_if_ne (tgt := 158) hx hb d_M_findPlace_51 (by decide) (fun h51 => ?_) (fun h51 => ?_)
    · rw [if_neg h51] at hM
      refine lv_aload_n hx hb d_M_findPlace_158 rfl (lv_at hl 0 rfl) ?_
      refine lv_iconst (v := 0) hx hb d_M_findPlace_159 (by decide) ?_
      refine va_put (D := (dC, dI)) (ci := 7) (v := .int 0) (ty := .int) (C := R_M) (T := F_M) (N := 33) hx hb htb in_M ft_M ft_M_ok n_M hown hK hP hD hS 0 (g_M) rfl 20 (by decide) (htb _ k_639) (fun _ h9 => h9) rfl (by decide +kernel) rfl rfl (Nat.le_of_ble_eq_true rfl) d_M_findPlace_160 (fun H locs hP hD hS => ?_)
      have hP := P_eq (s_M_13) hP
      have hD := D_eq (s_M_13) hD
      have e9 := Option.some.inj hM
      exact W.vret hx hb hr (fun t ht hW => ⟨⟨(w1 σ 0 13 0), rfl, e9, by rw [ht]; exact hP, va_K.moved hW.alike hK, hD⟩, hS.F ht⟩) hS.2.2 d_M_findPlace_163
    · rw [if_pos h51] at hM
      refine lv_aload_n hx hb d_M_findPlace_54 rfl (lv_at hl 0 rfl) ?_
      refine lv_aload_n hx hb d_M_findPlace_55 rfl (lv_at hl 0 rfl) ?_
      refine va_get (D := (dC, dI)) (ci := 7) (v := .int ((σ 0).1 12)) (C := R_M) (T := F_M) (N := 33) hx hb htb in_M hown hK hP 0 (g_M) rfl 19 (by decide) (htb _ k_638) (fun _ h9 => h9) rfl d_M_findPlace_56 ?_
      refine lv_iconst (v := 1) hx hb d_M_findPlace_59 (by decide) ?_
      refine lv_iadd hx hb d_M_findPlace_60 ?_
      refine va_put (D := (dC, dI)) (ci := 7) (v := .int (((σ 0).1 12) + 1)) (ty := .int) (C := R_M) (T := F_M) (N := 33) hx hb htb in_M ft_M ft_M_ok n_M hown hK hP hD hS 0 (g_M) rfl 19 (by decide) (htb _ k_638) (fun _ h9 => h9) rfl (by decide +kernel) rfl rfl (Nat.le_of_ble_eq_true rfl) d_M_findPlace_61 (fun H locs hP hD hS => ?_)
      have hP := P_eq (s_M_12) hP
      have hD := D_eq (s_M_12) hD
      refine lv_aload_n hx hb d_M_findPlace_64 rfl (lv_at hl 0 rfl) ?_
      refine va_get (D := (dC, dI)) (ci := 7) (v := .ref (ad 0 7)) (C := R_M) (T := F_M) (N := 33) hx hb htb in_M hown hK hP 0 (g_M) rfl 18 (by decide) (htb _ k_637) (fun _ h9 => h9) rfl d_M_findPlace_65 ?_
      refine lv_iconst (v := 0) hx hb d_M_findPlace_68 (by decide) ?_
      refine va_iald hx hb hK hP 7 0 (g_M_a7) rfl (inb_in (by decide)) d_M_findPlace_69 ?_
      refine lv_istore_n hx hb d_M_findPlace_70 rfl hl (by decide) (lv' := [(1, .int (((w1 σ 0 12 (((σ 0).1 12) + 1)) 0).2 7 (0 : Int32).toNatClampNeg)), (0, .ref (ad 0 0))]) rfl (fun ls hl => ?_)
      refine lv_aload_n hx hb d_M_findPlace_71 rfl (lv_at hl 1 rfl) ?_
      refine va_get (D := (dC, dI)) (ci := 7) (v := .ref (ad 0 7)) (C := R_M) (T := F_M) (N := 33) hx hb htb in_M hown hK hP 0 (g_M) rfl 18 (by decide) (htb _ k_637) (fun _ h9 => h9) rfl d_M_findPlace_72 ?_
      refine lv_iconst (v := 1) hx hb d_M_findPlace_75 (by decide) ?_
      refine va_iald hx hb hK hP 7 0 (g_M_a7) rfl (inb_in (by decide)) d_M_findPlace_76 ?_
      refine lv_istore_n hx hb d_M_findPlace_77 rfl hl (by decide) (lv' := [(2, .int (((w1 σ 0 12 (((σ 0).1 12) + 1)) 0).2 7 (1 : Int32).toNatClampNeg)), (1, .int (((w1 σ 0 12 (((σ 0).1 12) + 1)) 0).2 7 (0 : Int32).toNatClampNeg)), (0, .ref (ad 0 0))]) rfl (fun ls hl => ?_)
      refine lv_aload_n hx hb d_M_findPlace_78 rfl (lv_at hl 2 rfl) ?_
      refine va_get (D := (dC, dI)) (ci := 7) (v := .ref (ad 0 7)) (C := R_M) (T := F_M) (N := 33) hx hb htb in_M hown hK hP 0 (g_M) rfl 18 (by decide) (htb _ k_637) (fun _ h9 => h9) rfl d_M_findPlace_79 ?_
      refine lv_iconst (v := 2) hx hb d_M_findPlace_82 (by decide) ?_
      refine va_iald hx hb hK hP 7 0 (g_M_a7) rfl (inb_in (by decide)) d_M_findPlace_83 ?_
      refine lv_istore_n hx hb d_M_findPlace_84 rfl hl (by decide) (lv' := [(3, .int (((w1 σ 0 12 (((σ 0).1 12) + 1)) 0).2 7 (2 : Int32).toNatClampNeg)), (2, .int (((w1 σ 0 12 (((σ 0).1 12) + 1)) 0).2 7 (1 : Int32).toNatClampNeg)), (1, .int (((w1 σ 0 12 (((σ 0).1 12) + 1)) 0).2 7 (0 : Int32).toNatClampNeg)), (0, .ref (ad 0 0))]) rfl (fun ls hl => ?_)
      refine lv_aload_n hx hb d_M_findPlace_85 rfl (lv_at hl 3 rfl) ?_
      refine va_get (D := (dC, dI)) (ci := 7) (v := .ref (ad 0 7)) (C := R_M) (T := F_M) (N := 33) hx hb htb in_M hown hK hP 0 (g_M) rfl 18 (by decide) (htb _ k_637) (fun _ h9 => h9) rfl d_M_findPlace_86 ?_
      refine lv_iconst (v := 0) hx hb d_M_findPlace_89 (by decide) ?_
      refine lv_iload_n hx hb d_M_findPlace_90 rfl (lv_at hl 2 rfl) ?_
      refine lv_iload_n hx hb d_M_findPlace_91 rfl (lv_at hl 1 rfl) ?_
      refine lv_iadd hx hb d_M_findPlace_92 ?_
      refine va_iast (i := 0) (x := ((((w1 σ 0 12 (((σ 0).1 12) + 1)) 0).2 7 (0 : Int32).toNatClampNeg) + (((w1 σ 0 12 (((σ 0).1 12) + 1)) 0).2 7 (1 : Int32).toNatClampNeg))) hx hb hK hP hD hS 7 0 (g_M_a7) rfl (inb_in (by decide)) d_M_findPlace_93 (fun H locs hP hD hS => ?_)
      have hP := P_eq (t_M_7) hP
      have hD := D_eq (t_M_7) hD
      refine lv_aload_n hx hb d_M_findPlace_94 rfl (lv_at hl 3 rfl) ?_
      refine va_get (D := (dC, dI)) (ci := 7) (v := .ref (ad 0 7)) (C := R_M) (T := F_M) (N := 33) hx hb htb in_M hown hK hP 0 (g_M) rfl 18 (by decide) (htb _ k_637) (fun _ h9 => h9) rfl d_M_findPlace_95 ?_
      refine lv_iconst (v := 1) hx hb d_M_findPlace_98 (by decide) ?_
      refine lv_iload_n hx hb d_M_findPlace_99 rfl (lv_at hl 2 rfl) ?_
      refine lv_iload_n hx hb d_M_findPlace_100 rfl (lv_at hl 0 rfl) ?_
      refine lv_iadd hx hb d_M_findPlace_101 ?_
      refine va_iast (i := 1) (x := ((((w1 σ 0 12 (((σ 0).1 12) + 1)) 0).2 7 (0 : Int32).toNatClampNeg) + (((w1 σ 0 12 (((σ 0).1 12) + 1)) 0).2 7 (2 : Int32).toNatClampNeg))) hx hb hK hP hD hS 7 0 (g_M_a7) rfl (inb_in (by decide)) d_M_findPlace_102 (fun H locs hP hD hS => ?_)
      have hP := P_eq (t_M_7) hP
      have hD := D_eq (t_M_7) hD
      refine lv_aload_n hx hb d_M_findPlace_103 rfl (lv_at hl 3 rfl) ?_
      refine va_get (D := (dC, dI)) (ci := 7) (v := .ref (ad 0 7)) (C := R_M) (T := F_M) (N := 33) hx hb htb in_M hown hK hP 0 (g_M) rfl 18 (by decide) (htb _ k_637) (fun _ h9 => h9) rfl d_M_findPlace_104 ?_
      refine lv_iconst (v := 2) hx hb d_M_findPlace_107 (by decide) ?_
      refine lv_iload_n hx hb d_M_findPlace_108 rfl (lv_at hl 2 rfl) ?_
      refine va_iast (i := 2) (x := (((w1 σ 0 12 (((σ 0).1 12) + 1)) 0).2 7 (0 : Int32).toNatClampNeg)) hx hb hK hP hD hS 7 0 (g_M_a7) rfl (inb_in (by decide)) d_M_findPlace_109 (fun H locs hP hD hS => ?_)
      have hP := P_eq (t_M_7) hP
      have hD := D_eq (t_M_7) hD
      refine lv_aload_n hx hb d_M_findPlace_110 rfl (lv_at hl 3 rfl) ?_
      refine va_get (D := (dC, dI)) (ci := 7) (v := .ref (ad 0 11)) (C := R_M) (T := F_M) (N := 33) hx hb htb in_M hown hK hP 0 (g_M) rfl 24 (by decide) (htb _ k_643) (fun _ h9 => h9) rfl d_M_findPlace_111 ?_
      refine lv_iconst (v := 0) hx hb d_M_findPlace_114 (by decide) ?_
      refine lv_aload_n hx hb d_M_findPlace_115 rfl (lv_at hl 3 rfl) ?_
      refine va_get (D := (dC, dI)) (ci := 7) (v := .ref (ad 0 11)) (C := R_M) (T := F_M) (N := 33) hx hb htb in_M hown hK hP 0 (g_M) rfl 24 (by decide) (htb _ k_643) (fun _ h9 => h9) rfl d_M_findPlace_116 ?_
      refine lv_iconst (v := 0) hx hb d_M_findPlace_119 (by decide) ?_
      refine va_iald hx hb hK hP 11 0 (g_M_a11) rfl (inb_in (by decide)) d_M_findPlace_120 ?_
      refine lv_iload_n hx hb d_M_findPlace_121 rfl (lv_at hl 1 rfl) ?_
      refine lv_iadd hx hb d_M_findPlace_122 ?_
      refine va_iast (i := 0) (x := ((((w3 (w3 (w3 (w1 σ 0 12 (((σ 0).1 12) + 1)) 0 7 0 ((((w1 σ 0 12 (((σ 0).1 12) + 1)) 0).2 7 (0 : Int32).toNatClampNeg) + (((w1 σ 0 12 (((σ 0).1 12) + 1)) 0).2 7 (1 : Int32).toNatClampNeg))) 0 7 1 ((((w1 σ 0 12 (((σ 0).1 12) + 1)) 0).2 7 (0 : Int32).toNatClampNeg) + (((w1 σ 0 12 (((σ 0).1 12) + 1)) 0).2 7 (2 : Int32).toNatClampNeg))) 0 7 2 (((w1 σ 0 12 (((σ 0).1 12) + 1)) 0).2 7 (0 : Int32).toNatClampNeg)) 0).2 11 (0 : Int32).toNatClampNeg) + (((w1 σ 0 12 (((σ 0).1 12) + 1)) 0).2 7 (1 : Int32).toNatClampNeg))) hx hb hK hP hD hS 11 0 (g_M_a11) rfl (inb_in (by decide)) d_M_findPlace_123 (fun H locs hP hD hS => ?_)
      have hP := P_eq (t_M_11) hP
      have hD := D_eq (t_M_11) hD
      refine lv_aload_n hx hb d_M_findPlace_124 rfl (lv_at hl 3 rfl) ?_
      refine va_get (D := (dC, dI)) (ci := 7) (v := .ref (ad 0 11)) (C := R_M) (T := F_M) (N := 33) hx hb htb in_M hown hK hP 0 (g_M) rfl 24 (by decide) (htb _ k_643) (fun _ h9 => h9) rfl d_M_findPlace_125 ?_
      refine lv_iconst (v := 1) hx hb d_M_findPlace_128 (by decide) ?_
      refine lv_aload_n hx hb d_M_findPlace_129 rfl (lv_at hl 3 rfl) ?_
      refine va_get (D := (dC, dI)) (ci := 7) (v := .ref (ad 0 11)) (C := R_M) (T := F_M) (N := 33) hx hb htb in_M hown hK hP 0 (g_M) rfl 24 (by decide) (htb _ k_643) (fun _ h9 => h9) rfl d_M_findPlace_130 ?_
      refine lv_iconst (v := 1) hx hb d_M_findPlace_133 (by decide) ?_
      refine va_iald hx hb hK hP 11 0 (g_M_a11) rfl (inb_in (by decide)) d_M_findPlace_134 ?_
      refine lv_iload_n hx hb d_M_findPlace_135 rfl (lv_at hl 2 rfl) ?_
      refine lv_iadd hx hb d_M_findPlace_136 ?_
      refine lv_iload_n hx hb d_M_findPlace_137 rfl (lv_at hl 0 rfl) ?_
      refine lv_iadd hx hb d_M_findPlace_138 ?_
      refine lv_iload_n hx hb d_M_findPlace_139 rfl (lv_at hl 1 rfl) ?_
      refine lv_isub hx hb d_M_findPlace_140 ?_
      refine va_iast (i := 1) (x := ((((((w3 (w3 (w3 (w3 (w1 σ 0 12 (((σ 0).1 12) + 1)) 0 7 0 ((((w1 σ 0 12 (((σ 0).1 12) + 1)) 0).2 7 (0 : Int32).toNatClampNeg) + (((w1 σ 0 12 (((σ 0).1 12) + 1)) 0).2 7 (1 : Int32).toNatClampNeg))) 0 7 1 ((((w1 σ 0 12 (((σ 0).1 12) + 1)) 0).2 7 (0 : Int32).toNatClampNeg) + (((w1 σ 0 12 (((σ 0).1 12) + 1)) 0).2 7 (2 : Int32).toNatClampNeg))) 0 7 2 (((w1 σ 0 12 (((σ 0).1 12) + 1)) 0).2 7 (0 : Int32).toNatClampNeg)) 0 11 0 ((((w3 (w3 (w3 (w1 σ 0 12 (((σ 0).1 12) + 1)) 0 7 0 ((((w1 σ 0 12 (((σ 0).1 12) + 1)) 0).2 7 (0 : Int32).toNatClampNeg) + (((w1 σ 0 12 (((σ 0).1 12) + 1)) 0).2 7 (1 : Int32).toNatClampNeg))) 0 7 1 ((((w1 σ 0 12 (((σ 0).1 12) + 1)) 0).2 7 (0 : Int32).toNatClampNeg) + (((w1 σ 0 12 (((σ 0).1 12) + 1)) 0).2 7 (2 : Int32).toNatClampNeg))) 0 7 2 (((w1 σ 0 12 (((σ 0).1 12) + 1)) 0).2 7 (0 : Int32).toNatClampNeg)) 0).2 11 (0 : Int32).toNatClampNeg) + (((w1 σ 0 12 (((σ 0).1 12) + 1)) 0).2 7 (1 : Int32).toNatClampNeg))) 0).2 11 (1 : Int32).toNatClampNeg) + (((w1 σ 0 12 (((σ 0).1 12) + 1)) 0).2 7 (0 : Int32).toNatClampNeg)) + (((w1 σ 0 12 (((σ 0).1 12) + 1)) 0).2 7 (2 : Int32).toNatClampNeg)) - (((w1 σ 0 12 (((σ 0).1 12) + 1)) 0).2 7 (1 : Int32).toNatClampNeg))) hx hb hK hP hD hS 11 0 (g_M_a11) rfl (inb_in (by decide)) d_M_findPlace_141 (fun H locs hP hD hS => ?_)
      have hP := P_eq (t_M_11) hP
      have hD := D_eq (t_M_11) hD
      refine lv_aload_n hx hb d_M_findPlace_142 rfl (lv_at hl 3 rfl) ?_
      refine va_get (D := (dC, dI)) (ci := 7) (v := .ref (ad 0 11)) (C := R_M) (T := F_M) (N := 33) hx hb htb in_M hown hK hP 0 (g_M) rfl 24 (by decide) (htb _ k_643) (fun _ h9 => h9) rfl d_M_findPlace_143 ?_
      refine lv_iconst (v := 2) hx hb d_M_findPlace_146 (by decide) ?_
      refine lv_aload_n hx hb d_M_findPlace_147 rfl (lv_at hl 3 rfl) ?_
      refine va_get (D := (dC, dI)) (ci := 7) (v := .ref (ad 0 11)) (C := R_M) (T := F_M) (N := 33) hx hb htb in_M hown hK hP 0 (g_M) rfl 24 (by decide) (htb _ k_643) (fun _ h9 => h9) rfl d_M_findPlace_148 ?_
      refine lv_iconst (v := 2) hx hb d_M_findPlace_151 (by decide) ?_
      refine va_iald hx hb hK hP 11 0 (g_M_a11) rfl (inb_in (by decide)) d_M_findPlace_152 ?_
      refine lv_iload_n hx hb d_M_findPlace_153 rfl (lv_at hl 2 rfl) ?_
      refine lv_iadd hx hb d_M_findPlace_154 ?_
      refine lv_iload_n hx hb d_M_findPlace_155 rfl (lv_at hl 0 rfl) ?_
      refine lv_isub hx hb d_M_findPlace_156 ?_
      refine va_iast (i := 2) (x := (((((w3 (w3 (w3 (w3 (w3 (w1 σ 0 12 (((σ 0).1 12) + 1)) 0 7 0 ((((w1 σ 0 12 (((σ 0).1 12) + 1)) 0).2 7 (0 : Int32).toNatClampNeg) + (((w1 σ 0 12 (((σ 0).1 12) + 1)) 0).2 7 (1 : Int32).toNatClampNeg))) 0 7 1 ((((w1 σ 0 12 (((σ 0).1 12) + 1)) 0).2 7 (0 : Int32).toNatClampNeg) + (((w1 σ 0 12 (((σ 0).1 12) + 1)) 0).2 7 (2 : Int32).toNatClampNeg))) 0 7 2 (((w1 σ 0 12 (((σ 0).1 12) + 1)) 0).2 7 (0 : Int32).toNatClampNeg)) 0 11 0 ((((w3 (w3 (w3 (w1 σ 0 12 (((σ 0).1 12) + 1)) 0 7 0 ((((w1 σ 0 12 (((σ 0).1 12) + 1)) 0).2 7 (0 : Int32).toNatClampNeg) + (((w1 σ 0 12 (((σ 0).1 12) + 1)) 0).2 7 (1 : Int32).toNatClampNeg))) 0 7 1 ((((w1 σ 0 12 (((σ 0).1 12) + 1)) 0).2 7 (0 : Int32).toNatClampNeg) + (((w1 σ 0 12 (((σ 0).1 12) + 1)) 0).2 7 (2 : Int32).toNatClampNeg))) 0 7 2 (((w1 σ 0 12 (((σ 0).1 12) + 1)) 0).2 7 (0 : Int32).toNatClampNeg)) 0).2 11 (0 : Int32).toNatClampNeg) + (((w1 σ 0 12 (((σ 0).1 12) + 1)) 0).2 7 (1 : Int32).toNatClampNeg))) 0 11 1 ((((((w3 (w3 (w3 (w3 (w1 σ 0 12 (((σ 0).1 12) + 1)) 0 7 0 ((((w1 σ 0 12 (((σ 0).1 12) + 1)) 0).2 7 (0 : Int32).toNatClampNeg) + (((w1 σ 0 12 (((σ 0).1 12) + 1)) 0).2 7 (1 : Int32).toNatClampNeg))) 0 7 1 ((((w1 σ 0 12 (((σ 0).1 12) + 1)) 0).2 7 (0 : Int32).toNatClampNeg) + (((w1 σ 0 12 (((σ 0).1 12) + 1)) 0).2 7 (2 : Int32).toNatClampNeg))) 0 7 2 (((w1 σ 0 12 (((σ 0).1 12) + 1)) 0).2 7 (0 : Int32).toNatClampNeg)) 0 11 0 ((((w3 (w3 (w3 (w1 σ 0 12 (((σ 0).1 12) + 1)) 0 7 0 ((((w1 σ 0 12 (((σ 0).1 12) + 1)) 0).2 7 (0 : Int32).toNatClampNeg) + (((w1 σ 0 12 (((σ 0).1 12) + 1)) 0).2 7 (1 : Int32).toNatClampNeg))) 0 7 1 ((((w1 σ 0 12 (((σ 0).1 12) + 1)) 0).2 7 (0 : Int32).toNatClampNeg) + (((w1 σ 0 12 (((σ 0).1 12) + 1)) 0).2 7 (2 : Int32).toNatClampNeg))) 0 7 2 (((w1 σ 0 12 (((σ 0).1 12) + 1)) 0).2 7 (0 : Int32).toNatClampNeg)) 0).2 11 (0 : Int32).toNatClampNeg) + (((w1 σ 0 12 (((σ 0).1 12) + 1)) 0).2 7 (1 : Int32).toNatClampNeg))) 0).2 11 (1 : Int32).toNatClampNeg) + (((w1 σ 0 12 (((σ 0).1 12) + 1)) 0).2 7 (0 : Int32).toNatClampNeg)) + (((w1 σ 0 12 (((σ 0).1 12) + 1)) 0).2 7 (2 : Int32).toNatClampNeg)) - (((w1 σ 0 12 (((σ 0).1 12) + 1)) 0).2 7 (1 : Int32).toNatClampNeg))) 0).2 11 (2 : Int32).toNatClampNeg) + (((w1 σ 0 12 (((σ 0).1 12) + 1)) 0).2 7 (0 : Int32).toNatClampNeg)) - (((w1 σ 0 12 (((σ 0).1 12) + 1)) 0).2 7 (2 : Int32).toNatClampNeg))) hx hb hK hP hD hS 11 0 (g_M_a11) rfl (inb_in (by decide)) d_M_findPlace_157 (fun H locs hP hD hS => ?_)
      have hP := P_eq (t_M_11) hP
      have hD := D_eq (t_M_11) hD
      refine lv_aload_n hx hb d_M_findPlace_158 rfl (lv_at hl 3 rfl) ?_
      refine lv_iconst (v := 0) hx hb d_M_findPlace_159 (by decide) ?_
      refine va_put (D := (dC, dI)) (ci := 7) (v := .int 0) (ty := .int) (C := R_M) (T := F_M) (N := 33) hx hb htb in_M ft_M ft_M_ok n_M hown hK hP hD hS 0 (g_M) rfl 20 (by decide) (htb _ k_639) (fun _ h9 => h9) rfl (by decide +kernel) rfl rfl (Nat.le_of_ble_eq_true rfl) d_M_findPlace_160 (fun H locs hP hD hS => ?_)
      have hP := P_eq (s_M_13) hP
      have hD := D_eq (s_M_13) hD
      have e9 := Option.some.inj hM
      exact W.vret hx hb hr (fun t ht hW => ⟨⟨(w1 (w3 (w3 (w3 (w3 (w3 (w3 (w1 σ 0 12 (((σ 0).1 12) + 1)) 0 7 0 ((((w1 σ 0 12 (((σ 0).1 12) + 1)) 0).2 7 (0 : Int32).toNatClampNeg) + (((w1 σ 0 12 (((σ 0).1 12) + 1)) 0).2 7 (1 : Int32).toNatClampNeg))) 0 7 1 ((((w1 σ 0 12 (((σ 0).1 12) + 1)) 0).2 7 (0 : Int32).toNatClampNeg) + (((w1 σ 0 12 (((σ 0).1 12) + 1)) 0).2 7 (2 : Int32).toNatClampNeg))) 0 7 2 (((w1 σ 0 12 (((σ 0).1 12) + 1)) 0).2 7 (0 : Int32).toNatClampNeg)) 0 11 0 ((((w3 (w3 (w3 (w1 σ 0 12 (((σ 0).1 12) + 1)) 0 7 0 ((((w1 σ 0 12 (((σ 0).1 12) + 1)) 0).2 7 (0 : Int32).toNatClampNeg) + (((w1 σ 0 12 (((σ 0).1 12) + 1)) 0).2 7 (1 : Int32).toNatClampNeg))) 0 7 1 ((((w1 σ 0 12 (((σ 0).1 12) + 1)) 0).2 7 (0 : Int32).toNatClampNeg) + (((w1 σ 0 12 (((σ 0).1 12) + 1)) 0).2 7 (2 : Int32).toNatClampNeg))) 0 7 2 (((w1 σ 0 12 (((σ 0).1 12) + 1)) 0).2 7 (0 : Int32).toNatClampNeg)) 0).2 11 (0 : Int32).toNatClampNeg) + (((w1 σ 0 12 (((σ 0).1 12) + 1)) 0).2 7 (1 : Int32).toNatClampNeg))) 0 11 1 ((((((w3 (w3 (w3 (w3 (w1 σ 0 12 (((σ 0).1 12) + 1)) 0 7 0 ((((w1 σ 0 12 (((σ 0).1 12) + 1)) 0).2 7 (0 : Int32).toNatClampNeg) + (((w1 σ 0 12 (((σ 0).1 12) + 1)) 0).2 7 (1 : Int32).toNatClampNeg))) 0 7 1 ((((w1 σ 0 12 (((σ 0).1 12) + 1)) 0).2 7 (0 : Int32).toNatClampNeg) + (((w1 σ 0 12 (((σ 0).1 12) + 1)) 0).2 7 (2 : Int32).toNatClampNeg))) 0 7 2 (((w1 σ 0 12 (((σ 0).1 12) + 1)) 0).2 7 (0 : Int32).toNatClampNeg)) 0 11 0 ((((w3 (w3 (w3 (w1 σ 0 12 (((σ 0).1 12) + 1)) 0 7 0 ((((w1 σ 0 12 (((σ 0).1 12) + 1)) 0).2 7 (0 : Int32).toNatClampNeg) + (((w1 σ 0 12 (((σ 0).1 12) + 1)) 0).2 7 (1 : Int32).toNatClampNeg))) 0 7 1 ((((w1 σ 0 12 (((σ 0).1 12) + 1)) 0).2 7 (0 : Int32).toNatClampNeg) + (((w1 σ 0 12 (((σ 0).1 12) + 1)) 0).2 7 (2 : Int32).toNatClampNeg))) 0 7 2 (((w1 σ 0 12 (((σ 0).1 12) + 1)) 0).2 7 (0 : Int32).toNatClampNeg)) 0).2 11 (0 : Int32).toNatClampNeg) + (((w1 σ 0 12 (((σ 0).1 12) + 1)) 0).2 7 (1 : Int32).toNatClampNeg))) 0).2 11 (1 : Int32).toNatClampNeg) + (((w1 σ 0 12 (((σ 0).1 12) + 1)) 0).2 7 (0 : Int32).toNatClampNeg)) + (((w1 σ 0 12 (((σ 0).1 12) + 1)) 0).2 7 (2 : Int32).toNatClampNeg)) - (((w1 σ 0 12 (((σ 0).1 12) + 1)) 0).2 7 (1 : Int32).toNatClampNeg))) 0 11 2 (((((w3 (w3 (w3 (w3 (w3 (w1 σ 0 12 (((σ 0).1 12) + 1)) 0 7 0 ((((w1 σ 0 12 (((σ 0).1 12) + 1)) 0).2 7 (0 : Int32).toNatClampNeg) + (((w1 σ 0 12 (((σ 0).1 12) + 1)) 0).2 7 (1 : Int32).toNatClampNeg))) 0 7 1 ((((w1 σ 0 12 (((σ 0).1 12) + 1)) 0).2 7 (0 : Int32).toNatClampNeg) + (((w1 σ 0 12 (((σ 0).1 12) + 1)) 0).2 7 (2 : Int32).toNatClampNeg))) 0 7 2 (((w1 σ 0 12 (((σ 0).1 12) + 1)) 0).2 7 (0 : Int32).toNatClampNeg)) 0 11 0 ((((w3 (w3 (w3 (w1 σ 0 12 (((σ 0).1 12) + 1)) 0 7 0 ((((w1 σ 0 12 (((σ 0).1 12) + 1)) 0).2 7 (0 : Int32).toNatClampNeg) + (((w1 σ 0 12 (((σ 0).1 12) + 1)) 0).2 7 (1 : Int32).toNatClampNeg))) 0 7 1 ((((w1 σ 0 12 (((σ 0).1 12) + 1)) 0).2 7 (0 : Int32).toNatClampNeg) + (((w1 σ 0 12 (((σ 0).1 12) + 1)) 0).2 7 (2 : Int32).toNatClampNeg))) 0 7 2 (((w1 σ 0 12 (((σ 0).1 12) + 1)) 0).2 7 (0 : Int32).toNatClampNeg)) 0).2 11 (0 : Int32).toNatClampNeg) + (((w1 σ 0 12 (((σ 0).1 12) + 1)) 0).2 7 (1 : Int32).toNatClampNeg))) 0 11 1 ((((((w3 (w3 (w3 (w3 (w1 σ 0 12 (((σ 0).1 12) + 1)) 0 7 0 ((((w1 σ 0 12 (((σ 0).1 12) + 1)) 0).2 7 (0 : Int32).toNatClampNeg) + (((w1 σ 0 12 (((σ 0).1 12) + 1)) 0).2 7 (1 : Int32).toNatClampNeg))) 0 7 1 ((((w1 σ 0 12 (((σ 0).1 12) + 1)) 0).2 7 (0 : Int32).toNatClampNeg) + (((w1 σ 0 12 (((σ 0).1 12) + 1)) 0).2 7 (2 : Int32).toNatClampNeg))) 0 7 2 (((w1 σ 0 12 (((σ 0).1 12) + 1)) 0).2 7 (0 : Int32).toNatClampNeg)) 0 11 0 ((((w3 (w3 (w3 (w1 σ 0 12 (((σ 0).1 12) + 1)) 0 7 0 ((((w1 σ 0 12 (((σ 0).1 12) + 1)) 0).2 7 (0 : Int32).toNatClampNeg) + (((w1 σ 0 12 (((σ 0).1 12) + 1)) 0).2 7 (1 : Int32).toNatClampNeg))) 0 7 1 ((((w1 σ 0 12 (((σ 0).1 12) + 1)) 0).2 7 (0 : Int32).toNatClampNeg) + (((w1 σ 0 12 (((σ 0).1 12) + 1)) 0).2 7 (2 : Int32).toNatClampNeg))) 0 7 2 (((w1 σ 0 12 (((σ 0).1 12) + 1)) 0).2 7 (0 : Int32).toNatClampNeg)) 0).2 11 (0 : Int32).toNatClampNeg) + (((w1 σ 0 12 (((σ 0).1 12) + 1)) 0).2 7 (1 : Int32).toNatClampNeg))) 0).2 11 (1 : Int32).toNatClampNeg) + (((w1 σ 0 12 (((σ 0).1 12) + 1)) 0).2 7 (0 : Int32).toNatClampNeg)) + (((w1 σ 0 12 (((σ 0).1 12) + 1)) 0).2 7 (2 : Int32).toNatClampNeg)) - (((w1 σ 0 12 (((σ 0).1 12) + 1)) 0).2 7 (1 : Int32).toNatClampNeg))) 0).2 11 (2 : Int32).toNatClampNeg) + (((w1 σ 0 12 (((σ 0).1 12) + 1)) 0).2 7 (0 : Int32).toNatClampNeg)) - (((w1 σ 0 12 (((σ 0).1 12) + 1)) 0).2 7 (2 : Int32).toNatClampNeg))) 0 13 0), rfl, e9, by rw [ht]; exact hP, va_K.moved hW.alike hK, hD⟩, hS.F ht⟩) hS.2.2 d_M_findPlace_163
  intro K42
  refine lv_aload_n hx hb d_M_findPlace_0 rfl (lv_at hl 0 rfl) ?_
  refine va_get (D := (dC, dI)) (ci := 7) (v := .int ((σ 0).1 13)) (C := R_M) (T := F_M) (N := 33) hx hb htb in_M hown hK hP 0 (g_M) rfl 20 (by decide) (htb _ k_639) (fun _ h9 => h9) rfl d_M_findPlace_1 ?_
  refine lv_iconst (v := 2) hx hb d_M_findPlace_4 (by decide) ?_
  refine lv_icmp_ge (tgt := 42) hx hb d_M_findPlace_5 (by decide) (fun h5 => ?_) (fun h5 => ?_)
  · rw [if_pos h5] at hM
    exact K42 _ _ _ _ ⟨σ, rfl, hM, lv_sub hl [0] rfl, hP, hD, hS⟩
  · rw [if_neg h5] at hM
    refine lv_aload_n hx hb d_M_findPlace_8 rfl (lv_at hl 0 rfl) ?_
    refine va_get (D := (dC, dI)) (ci := 7) (v := .ref (ad 0 11)) (C := R_M) (T := F_M) (N := 33) hx hb htb in_M hown hK hP 0 (g_M) rfl 24 (by decide) (htb _ k_643) (fun _ h9 => h9) rfl d_M_findPlace_9 ?_
    refine lv_aload_n hx hb d_M_findPlace_12 rfl (lv_at hl 0 rfl) ?_
    refine va_get (D := (dC, dI)) (ci := 7) (v := .int ((σ 0).1 13)) (C := R_M) (T := F_M) (N := 33) hx hb htb in_M hown hK hP 0 (g_M) rfl 20 (by decide) (htb _ k_639) (fun _ h9 => h9) rfl d_M_findPlace_13 ?_
    have hg16 := gd_c hM
    have hM := gd_v hM
    refine va_iald hx hb hK hP 11 0 (g_M_a11) rfl (inb_in hg16) d_M_findPlace_16 ?_
    refine lv_aload_n hx hb d_M_findPlace_17 rfl (lv_at hl 0 rfl) ?_
    refine va_get (D := (dC, dI)) (ci := 7) (v := .ref (ad 0 11)) (C := R_M) (T := F_M) (N := 33) hx hb htb in_M hown hK hP 0 (g_M) rfl 24 (by decide) (htb _ k_643) (fun _ h9 => h9) rfl d_M_findPlace_18 ?_
    refine lv_aload_n hx hb d_M_findPlace_21 rfl (lv_at hl 0 rfl) ?_
    refine va_get (D := (dC, dI)) (ci := 7) (v := .int ((σ 0).1 13)) (C := R_M) (T := F_M) (N := 33) hx hb htb in_M hown hK hP 0 (g_M) rfl 20 (by decide) (htb _ k_639) (fun _ h9 => h9) rfl d_M_findPlace_22 ?_
    refine lv_iconst (v := 1) hx hb d_M_findPlace_25 (by decide) ?_
    refine lv_iadd hx hb d_M_findPlace_26 ?_
    have hg27 := gd_c hM
    have hM := gd_v hM
    refine va_iald hx hb hK hP 11 0 (g_M_a11) rfl (inb_in hg27) d_M_findPlace_27 ?_
    refine lv_icmp_ge (tgt := 42) hx hb d_M_findPlace_28 (by decide) (fun h28 => ?_) (fun h28 => ?_)
    · rw [if_pos h28] at hM
      exact K42 _ _ _ _ ⟨σ, rfl, hM, lv_sub hl [0] rfl, hP, hD, hS⟩
    · rw [if_neg h28] at hM
      refine lv_aload_n hx hb d_M_findPlace_31 rfl (lv_at hl 0 rfl) ?_
      refine lv_aload_n hx hb d_M_findPlace_32 rfl (lv_at hl 0 rfl) ?_
      refine va_get (D := (dC, dI)) (ci := 7) (v := .int ((σ 0).1 13)) (C := R_M) (T := F_M) (N := 33) hx hb htb in_M hown hK hP 0 (g_M) rfl 20 (by decide) (htb _ k_639) (fun _ h9 => h9) rfl d_M_findPlace_33 ?_
      refine lv_iconst (v := 1) hx hb d_M_findPlace_36 (by decide) ?_
      refine lv_iadd hx hb d_M_findPlace_37 ?_
      refine va_put (D := (dC, dI)) (ci := 7) (v := .int (((σ 0).1 13) + 1)) (ty := .int) (C := R_M) (T := F_M) (N := 33) hx hb htb in_M ft_M ft_M_ok n_M hown hK hP hD hS 0 (g_M) rfl 20 (by decide) (htb _ k_639) (fun _ h9 => h9) rfl (by decide +kernel) rfl rfl (Nat.le_of_ble_eq_true rfl) d_M_findPlace_38 (fun H locs hP hD hS => ?_)
      have hP := P_eq (s_M_13) hP
      have hD := D_eq (s_M_13) hD
      have e9 := Option.some.inj hM
      exact W.vret hx hb hr (fun t ht hW => ⟨⟨(w1 σ 0 13 (((σ 0).1 13) + 1)), rfl, e9, by rw [ht]; exact hP, va_K.moved hW.alike hK, hD⟩, hS.F ht⟩) hS.2.2 d_M_findPlace_41

theorem d_M_cardsOn_0 : decode b_M_cardsOn 0 = .ok (.iconst 0, 1) := by decide +kernel
theorem d_M_cardsOn_1 : decode b_M_cardsOn 1 = .ok (.istore_n 2, 1) := by decide +kernel
theorem d_M_cardsOn_2 : decode b_M_cardsOn 2 = .ok (.iconst 0, 1) := by decide +kernel
theorem d_M_cardsOn_3 : decode b_M_cardsOn 3 = .ok (.istore_n 3, 1) := by decide +kernel
theorem d_M_cardsOn_4 : decode b_M_cardsOn 4 = .ok (.iload_n 3, 1) := by decide +kernel
theorem d_M_cardsOn_5 : decode b_M_cardsOn 5 = .ok (.aload_n 0, 1) := by decide +kernel
theorem d_M_cardsOn_6 : decode b_M_cardsOn 6 = .ok (.getfield 46, 3) := by decide +kernel
theorem d_M_cardsOn_9 : decode b_M_cardsOn 9 = .ok (.iload_n 1, 1) := by decide +kernel
theorem d_M_cardsOn_10 : decode b_M_cardsOn 10 = .ok (.iaload, 1) := by decide +kernel
theorem d_M_cardsOn_11 : decode b_M_cardsOn 11 = .ok (.if_icmp .ge 24, 3) := by decide +kernel
theorem d_M_cardsOn_14 : decode b_M_cardsOn 14 = .ok (.iload_n 2, 1) := by decide +kernel
theorem d_M_cardsOn_15 : decode b_M_cardsOn 15 = .ok (.aload_n 0, 1) := by decide +kernel
theorem d_M_cardsOn_16 : decode b_M_cardsOn 16 = .ok (.getfield 43, 3) := by decide +kernel
theorem d_M_cardsOn_19 : decode b_M_cardsOn 19 = .ok (.sipush 150, 3) := by decide +kernel
theorem d_M_cardsOn_22 : decode b_M_cardsOn 22 = .ok (.iload_n 1, 1) := by decide +kernel
theorem d_M_cardsOn_23 : decode b_M_cardsOn 23 = .ok (.imul, 1) := by decide +kernel
theorem d_M_cardsOn_24 : decode b_M_cardsOn 24 = .ok (.iload_n 3, 1) := by decide +kernel
theorem d_M_cardsOn_25 : decode b_M_cardsOn 25 = .ok (.iadd, 1) := by decide +kernel
theorem d_M_cardsOn_26 : decode b_M_cardsOn 26 = .ok (.iaload, 1) := by decide +kernel
theorem d_M_cardsOn_27 : decode b_M_cardsOn 27 = .ok (.iadd, 1) := by decide +kernel
theorem d_M_cardsOn_28 : decode b_M_cardsOn 28 = .ok (.istore_n 2, 1) := by decide +kernel
theorem d_M_cardsOn_29 : decode b_M_cardsOn 29 = .ok (.iinc 3 1, 3) := by decide +kernel
theorem d_M_cardsOn_32 : decode b_M_cardsOn 32 = .ok (.goto (-28), 3) := by decide +kernel
theorem d_M_cardsOn_35 : decode b_M_cardsOn 35 = .ok (.iload_n 2, 1) := by decide +kernel
theorem d_M_cardsOn_36 : decode b_M_cardsOn 36 = .ok (.ireturn, 1) := by decide +kernel
def m_M_cardsOn_4 (N : Nat) : Nat → SX → Int32 → Int32 → Int32 → Option (Int32 × SX)
  | 0, _, _, _, _ => none
  | n4 + 1, σ, v1, v2, v3 =>
    (if inb v1 4 = true then (if ((σ 0).2 10 v1.toNatClampNeg) ≤ v3 then some (v2, σ) else (if inb ((150 * v1) + v3) 600 = true then m_M_cardsOn_4 N n4 σ v1 (v2 + ((σ 0).2 9 ((150 * v1) + v3).toNatClampNeg)) (v3 + 1) else none)) else none)

def m_M_cardsOn (N : Nat) (σ : SX) (a1 : Int32) : Option (Int32 × SX) :=
  m_M_cardsOn_4 N N σ a1 0 0

set_option maxHeartbeats 4000000 in
set_option maxRecDepth 100000 in
theorem c_M_cardsOn (l : Launch) (dC : Nat → ClassId) (dI : Nat → Nat → Nat) (ad : Nat → Nat → Nat) (cs : Nat → ClassId) (sz N : Nat) (σ : SX) (a1 : Int32) {r0 : Int32} {σ0 : SX} (hM : m_M_cardsOn N σ a1 = some (r0, σ0)) : Met l y_M_cardsOn (wd y_M_cardsOn b_M_cardsOn 4 (some .int)) ({ frames := 0, cells := 0, slots := 0, locals := 0 }) (va_Pc [.ref (ad 0 0), .int a1] (preM dC dI ad cs sz σ)) (va_Qi (fun (r : Int32) (_ : Unit) => r = r0 ∧ σ = σ0) (fun _ _ => True) (fun q => sz ≤ q)) 0 0 (fun q => sz ≤ q) := by
  refine Met.ofW (cc := b_M_cardsOn) (maxL := 4) (ret := (some .int)) (by decide) rfl ?_
  intro p e s m args below meth c s₁ B hml hv
  obtain ⟨rfl, hsz, hP, hK, hD0, hN⟩ := hv
  have hx := B.exec
  have hb := B.bytes
  have hr := B.returns
  have hts := atoms_spec (ws := (wd y_M_cardsOn b_M_cardsOn 4 (some .int))) B.pre
  have htb : ∀ w ∈ tb, w.before _ s = true := fun w h => hts w (List.mem_cons_of_mem _ h)
  have hown : s.vm.findClass R_M = some m.cls := findClass_of_methodNamed B.named
  have hlocks := B.notSynchronized
  subst hsz
  have hD := hD0
  have hA : ∀ q : Nat, s.heap.size ≤ q → s.heap.size ≤ q := fun q h => h
  have hS : va_S (fun q => s.heap.size ≤ q) s.heap s.heap [] := va_S.rf
  have hP : va_P (dC, dI) classes (wM ad cs σ) s.heap := hP
  have hl := lv_entry ([.ref (ad 0 0), .int a1]) (n := 4) (Nat.le_of_ble_eq_true rfl)
  rw [lg_entry_eq]
  generalize (lg_sl ([.ref (ad 0 0), .int a1]) ++ List.replicate (4 - (lg_sl ([.ref (ad 0 0), .int a1])).length) Slot.unset).toArray = ls at hl ⊢
  have hl : lv_has ls 4 [(0, .ref (ad 0 0)), (1, .int a1)] := hl
  rw [m_M_cardsOn] at hM
  refine W_loop (pc := 4) (fun n4 H locs ls st => ∃ (v1 : Int32) (v2 : Int32) (v3 : Int32), st = [] ∧ m_M_cardsOn_4 N n4 σ v1 v2 v3 = some (r0, σ0) ∧ lv_has ls 4 [(0, .ref (ad 0 0)), (1, .int v1), (2, .int v2), (3, .int v3)] ∧ va_P (dC, dI) classes (wM ad cs σ) H ∧ va_D (fun _ => True) (wM ad cs σ) ∧ va_S (fun q => s.heap.size ≤ q) s.heap H locs) ?_ ?_ ?_
  · rintro H locs ls st ⟨v1, v2, v3, -, hM, -⟩
    rw [m_M_cardsOn_4] at hM; cases hM
  · intro n4 K4 H locs ls st hI
    obtain ⟨v1, v2, v3, rfl, hM, hl, hP, hD, hS⟩ := hI
    rw [m_M_cardsOn_4] at hM
    refine lv_iload_n hx hb d_M_cardsOn_4 rfl (lv_at hl 3 rfl) ?_
    refine lv_aload_n hx hb d_M_cardsOn_5 rfl (lv_at hl 0 rfl) ?_
    refine va_get (D := (dC, dI)) (ci := 7) (v := .ref (ad 0 10)) (C := R_M) (T := F_M) (N := 33) hx hb htb in_M hown hK hP 0 (g_M) rfl 23 (by decide) (htb _ k_642) (fun _ h9 => h9) rfl d_M_cardsOn_6 ?_
    refine lv_iload_n hx hb d_M_cardsOn_9 rfl (lv_at hl 1 rfl) ?_
    have hg10 := gd_c hM
    have hM := gd_v hM
    refine va_iald hx hb hK hP 10 0 (g_M_a10) rfl (inb_in hg10) d_M_cardsOn_10 ?_
    refine lv_icmp_ge (tgt := 35) hx hb d_M_cardsOn_11 (by decide) (fun h11 => ?_) (fun h11 => ?_)
    · rw [if_pos h11] at hM
      refine lv_iload_n hx hb d_M_cardsOn_35 rfl (lv_at hl 2 rfl) ?_
      have e9 := Prod.mk.inj (Option.some.inj hM)
      exact W.iret (v := v2) hx hb hr (fun t ht hW => ⟨⟨v2, (), rfl, e9, trivial⟩, hS.F ht⟩) hS.2.2 d_M_cardsOn_36
    · rw [if_neg h11] at hM
      refine lv_iload_n hx hb d_M_cardsOn_14 rfl (lv_at hl 2 rfl) ?_
      refine lv_aload_n hx hb d_M_cardsOn_15 rfl (lv_at hl 0 rfl) ?_
      refine va_get (D := (dC, dI)) (ci := 7) (v := .ref (ad 0 9)) (C := R_M) (T := F_M) (N := 33) hx hb htb in_M hown hK hP 0 (g_M) rfl 22 (by decide) (htb _ k_641) (fun _ h9 => h9) rfl d_M_cardsOn_16 ?_
      refine lv_sipush (v := 150) hx hb d_M_cardsOn_19 (by decide) ?_
      refine lv_iload_n hx hb d_M_cardsOn_22 rfl (lv_at hl 1 rfl) ?_
      refine lv_imul hx hb d_M_cardsOn_23 ?_
      refine lv_iload_n hx hb d_M_cardsOn_24 rfl (lv_at hl 3 rfl) ?_
      refine lv_iadd hx hb d_M_cardsOn_25 ?_
      have hg26 := gd_c hM
      have hM := gd_v hM
      refine va_iald hx hb hK hP 9 0 (g_M_a9) rfl (inb_in hg26) d_M_cardsOn_26 ?_
      refine lv_iadd hx hb d_M_cardsOn_27 ?_
      refine lv_istore_n hx hb d_M_cardsOn_28 rfl hl (by decide) (lv' := [(2, .int (v2 + ((σ 0).2 9 ((150 * v1) + v3).toNatClampNeg))), (0, .ref (ad 0 0)), (1, .int v1), (3, .int v3)]) rfl (fun ls hl => ?_)
      refine lv_iinc (k := 3) (v := (v3 + 1)) hx hb d_M_cardsOn_29 hl rfl rfl (by decide) (lv' := [(3, .int (v3 + 1)), (2, .int (v2 + ((σ 0).2 9 ((150 * v1) + v3).toNatClampNeg))), (0, .ref (ad 0 0)), (1, .int v1)]) rfl (fun ls hl => ?_)
      refine lv_goto (tgt := 4) hx hb d_M_cardsOn_32 (by decide) ?_
      exact K4 _ _ _ _ ⟨v1, (v2 + ((σ 0).2 9 ((150 * v1) + v3).toNatClampNeg)), (v3 + 1), rfl, hM, lv_sub hl [2, 3, 1, 0] rfl, hP, hD, hS⟩
  intro K4
  refine lv_iconst (v := 0) hx hb d_M_cardsOn_0 (by decide) ?_
  refine lv_istore_n hx hb d_M_cardsOn_1 rfl hl (by decide) (lv' := [(2, .int 0), (0, .ref (ad 0 0)), (1, .int a1)]) rfl (fun ls hl => ?_)
  refine lv_iconst (v := 0) hx hb d_M_cardsOn_2 (by decide) ?_
  refine lv_istore_n hx hb d_M_cardsOn_3 rfl hl (by decide) (lv' := [(3, .int 0), (2, .int 0), (0, .ref (ad 0 0)), (1, .int a1)]) rfl (fun ls hl => ?_)
  exact K4 N _ _ _ _ ⟨a1, 0, 0, rfl, hM, lv_sub hl [2, 3, 1, 0] rfl, hP, hD, hS⟩

theorem d_M_append_0 : decode b_M_append 0 = .ok (.sipush 150, 3) := by decide +kernel
theorem d_M_append_3 : decode b_M_append 3 = .ok (.iload_n 1, 1) := by decide +kernel
theorem d_M_append_4 : decode b_M_append 4 = .ok (.imul, 1) := by decide +kernel
theorem d_M_append_5 : decode b_M_append 5 = .ok (.aload_n 0, 1) := by decide +kernel
theorem d_M_append_6 : decode b_M_append 6 = .ok (.iload_n 1, 1) := by decide +kernel
theorem d_M_append_7 : decode b_M_append 7 = .ok (.invokevirtual 136, 3) := by decide +kernel
theorem d_M_append_10 : decode b_M_append 10 = .ok (.iadd, 1) := by decide +kernel
theorem d_M_append_11 : decode b_M_append 11 = .ok (.istore_n 2, 1) := by decide +kernel
theorem d_M_append_12 : decode b_M_append 12 = .ok (.iconst 0, 1) := by decide +kernel
theorem d_M_append_13 : decode b_M_append 13 = .ok (.istore_n 3, 1) := by decide +kernel
theorem d_M_append_14 : decode b_M_append 14 = .ok (.iload_n 3, 1) := by decide +kernel
theorem d_M_append_15 : decode b_M_append 15 = .ok (.aload_n 0, 1) := by decide +kernel
theorem d_M_append_16 : decode b_M_append 16 = .ok (.getfield 120, 3) := by decide +kernel
theorem d_M_append_19 : decode b_M_append 19 = .ok (.if_icmp .ge 23, 3) := by decide +kernel
theorem d_M_append_22 : decode b_M_append 22 = .ok (.aload_n 0, 1) := by decide +kernel
theorem d_M_append_23 : decode b_M_append 23 = .ok (.getfield 40, 3) := by decide +kernel
theorem d_M_append_26 : decode b_M_append 26 = .ok (.iload_n 2, 1) := by decide +kernel
theorem d_M_append_27 : decode b_M_append 27 = .ok (.iload_n 3, 1) := by decide +kernel
theorem d_M_append_28 : decode b_M_append 28 = .ok (.iadd, 1) := by decide +kernel
theorem d_M_append_29 : decode b_M_append 29 = .ok (.aload_n 0, 1) := by decide +kernel
theorem d_M_append_30 : decode b_M_append 30 = .ok (.getfield 61, 3) := by decide +kernel
theorem d_M_append_33 : decode b_M_append 33 = .ok (.iload_n 3, 1) := by decide +kernel
theorem d_M_append_34 : decode b_M_append 34 = .ok (.iaload, 1) := by decide +kernel
theorem d_M_append_35 : decode b_M_append 35 = .ok (.iastore, 1) := by decide +kernel
theorem d_M_append_36 : decode b_M_append 36 = .ok (.iinc 3 1, 3) := by decide +kernel
theorem d_M_append_39 : decode b_M_append 39 = .ok (.goto (-25), 3) := by decide +kernel
theorem d_M_append_42 : decode b_M_append 42 = .ok (.aload_n 0, 1) := by decide +kernel
theorem d_M_append_43 : decode b_M_append 43 = .ok (.getfield 43, 3) := by decide +kernel
theorem d_M_append_46 : decode b_M_append 46 = .ok (.sipush 150, 3) := by decide +kernel
theorem d_M_append_49 : decode b_M_append 49 = .ok (.iload_n 1, 1) := by decide +kernel
theorem d_M_append_50 : decode b_M_append 50 = .ok (.imul, 1) := by decide +kernel
theorem d_M_append_51 : decode b_M_append 51 = .ok (.aload_n 0, 1) := by decide +kernel
theorem d_M_append_52 : decode b_M_append 52 = .ok (.getfield 46, 3) := by decide +kernel
theorem d_M_append_55 : decode b_M_append 55 = .ok (.iload_n 1, 1) := by decide +kernel
theorem d_M_append_56 : decode b_M_append 56 = .ok (.iaload, 1) := by decide +kernel
theorem d_M_append_57 : decode b_M_append 57 = .ok (.iadd, 1) := by decide +kernel
theorem d_M_append_58 : decode b_M_append 58 = .ok (.aload_n 0, 1) := by decide +kernel
theorem d_M_append_59 : decode b_M_append 59 = .ok (.getfield 120, 3) := by decide +kernel
theorem d_M_append_62 : decode b_M_append 62 = .ok (.iastore, 1) := by decide +kernel
theorem d_M_append_63 : decode b_M_append 63 = .ok (.aload_n 0, 1) := by decide +kernel
theorem d_M_append_64 : decode b_M_append 64 = .ok (.getfield 46, 3) := by decide +kernel
theorem d_M_append_67 : decode b_M_append 67 = .ok (.iload_n 1, 1) := by decide +kernel
theorem d_M_append_68 : decode b_M_append 68 = .ok (.aload_n 0, 1) := by decide +kernel
theorem d_M_append_69 : decode b_M_append 69 = .ok (.getfield 46, 3) := by decide +kernel
theorem d_M_append_72 : decode b_M_append 72 = .ok (.iload_n 1, 1) := by decide +kernel
theorem d_M_append_73 : decode b_M_append 73 = .ok (.iaload, 1) := by decide +kernel
theorem d_M_append_74 : decode b_M_append 74 = .ok (.iconst 1, 1) := by decide +kernel
theorem d_M_append_75 : decode b_M_append 75 = .ok (.iadd, 1) := by decide +kernel
theorem d_M_append_76 : decode b_M_append 76 = .ok (.iastore, 1) := by decide +kernel
theorem d_M_append_77 : decode b_M_append 77 = .ok (.return_, 1) := by decide +kernel
def m_M_append_14 (N : Nat) : Nat → SX → Int32 → Int32 → Int32 → Option (SX)
  | 0, _, _, _, _ => none
  | n14 + 1, σ, v1, v2, v3 =>
    (if ((σ 0).1 16) ≤ v3 then (if inb v1 4 = true then (if inb ((150 * v1) + ((σ 0).2 10 v1.toNatClampNeg)) 600 = true then (if inb v1 4 = true then (if inb v1 4 = true then some (w3 (w3 σ 0 9 ((150 * v1) + ((σ 0).2 10 v1.toNatClampNeg)) ((σ 0).1 16)) 0 10 v1 ((((w3 σ 0 9 ((150 * v1) + ((σ 0).2 10 v1.toNatClampNeg)) ((σ 0).1 16)) 0).2 10 v1.toNatClampNeg) + 1)) else none) else none) else none) else none) else (if inb v3 150 = true then (if inb (v2 + v3) 600 = true then m_M_append_14 N n14 (w3 σ 0 8 (v2 + v3) ((σ 0).2 15 v3.toNatClampNeg)) v1 v2 (v3 + 1) else none) else none))

def m_M_append (N : Nat) (σ : SX) (a1 : Int32) : Option (SX) :=
  (bI (m_M_cardsOn N σ a1) fun r7 σ7 => m_M_append_14 N N σ a1 ((150 * a1) + r7) 0)

set_option maxHeartbeats 4000000 in
set_option maxRecDepth 100000 in
theorem c_M_append (l : Launch) (dC : Nat → ClassId) (dI : Nat → Nat → Nat) (ad : Nat → Nat → Nat) (cs : Nat → ClassId) (sz N : Nat) (σ : SX) (a1 : Int32) {σ0 : SX} (hM : m_M_append N σ a1 = some σ0) : Met l y_M_append (wd y_M_append b_M_append 4 none) ({ frames := 1, cells := 0, slots := 0, locals := 23 }) (va_Pc [.ref (ad 0 0), .int a1] (preM dC dI ad cs sz σ)) (va_Qv (fun (u : SX) => u = σ0) (atM dC dI ad cs (va_A (wM ad cs σ) sz)) (va_A (wM ad cs σ) sz)) 0 0 (va_A (wM ad cs σ) sz) := by
  refine Met.ofW (cc := b_M_append) (maxL := 4) (ret := none) (by decide) rfl ?_
  intro p e s m args below meth c s₁ B hml hv
  obtain ⟨rfl, hsz, hP, hK, hD0, hN⟩ := hv
  have hx := B.exec
  have hb := B.bytes
  have hr := B.returns
  have hts := atoms_spec (ws := (wd y_M_append b_M_append 4 none)) B.pre
  have htb : ∀ w ∈ tb, w.before _ s = true := fun w h => hts w (List.mem_cons_of_mem _ h)
  have hown : s.vm.findClass R_M = some m.cls := findClass_of_methodNamed B.named
  have hlocks := B.notSynchronized
  subst hsz
  have hD := hD0.self (sz := s.heap.size)
  generalize hAe : va_A (wM ad cs σ) s.heap.size = A at hD ⊢
  have hA : ∀ q : Nat, s.heap.size ≤ q → A q := fun q h => by rw [← hAe]; exact Or.inr h
  have hS : va_S A s.heap s.heap [] := va_S.rf
  have hP : va_P (dC, dI) classes (wM ad cs σ) s.heap := hP
  have hl := lv_entry ([.ref (ad 0 0), .int a1]) (n := 4) (Nat.le_of_ble_eq_true rfl)
  rw [lg_entry_eq]
  generalize (lg_sl ([.ref (ad 0 0), .int a1]) ++ List.replicate (4 - (lg_sl ([.ref (ad 0 0), .int a1])).length) Slot.unset).toArray = ls at hl ⊢
  have hl : lv_has ls 4 [(0, .ref (ad 0 0)), (1, .int a1)] := hl
  rw [m_M_append] at hM
  refine W_loop (pc := 14) (fun n14 H locs ls st => ∃ (σ : SX) (v1 : Int32) (v2 : Int32) (v3 : Int32), st = [] ∧ m_M_append_14 N n14 σ v1 v2 v3 = some σ0 ∧ lv_has ls 4 [(0, .ref (ad 0 0)), (1, .int v1), (2, .int v2), (3, .int v3)] ∧ va_P (dC, dI) classes (wM ad cs σ) H ∧ va_D A (wM ad cs σ) ∧ va_S A s.heap H locs) ?_ ?_ ?_
  · rintro H locs ls st ⟨σ, v1, v2, v3, -, hM, -⟩
    rw [m_M_append_14] at hM; cases hM
  · intro n14 K14 H locs ls st hI
    obtain ⟨σ, v1, v2, v3, rfl, hM, hl, hP, hD, hS⟩ := hI
    rw [m_M_append_14] at hM
    refine lv_iload_n hx hb d_M_append_14 rfl (lv_at hl 3 rfl) ?_
    refine lv_aload_n hx hb d_M_append_15 rfl (lv_at hl 0 rfl) ?_
    refine va_get (D := (dC, dI)) (ci := 7) (v := .int ((σ 0).1 16)) (C := R_M) (T := F_M) (N := 33) hx hb htb in_M hown hK hP 0 (g_M) rfl 30 (by decide) (htb _ k_649) (fun _ h9 => h9) rfl d_M_append_16 ?_
    refine lv_icmp_ge (tgt := 42) hx hb d_M_append_19 (by decide) (fun h19 => ?_) (fun h19 => ?_)
    · rw [if_pos h19] at hM
      refine lv_aload_n hx hb d_M_append_42 rfl (lv_at hl 0 rfl) ?_
      refine va_get (D := (dC, dI)) (ci := 7) (v := .ref (ad 0 9)) (C := R_M) (T := F_M) (N := 33) hx hb htb in_M hown hK hP 0 (g_M) rfl 22 (by decide) (htb _ k_641) (fun _ h9 => h9) rfl d_M_append_43 ?_
      refine lv_sipush (v := 150) hx hb d_M_append_46 (by decide) ?_
      refine lv_iload_n hx hb d_M_append_49 rfl (lv_at hl 1 rfl) ?_
      refine lv_imul hx hb d_M_append_50 ?_
      refine lv_aload_n hx hb d_M_append_51 rfl (lv_at hl 0 rfl) ?_
      refine va_get (D := (dC, dI)) (ci := 7) (v := .ref (ad 0 10)) (C := R_M) (T := F_M) (N := 33) hx hb htb in_M hown hK hP 0 (g_M) rfl 23 (by decide) (htb _ k_642) (fun _ h9 => h9) rfl d_M_append_52 ?_
      refine lv_iload_n hx hb d_M_append_55 rfl (lv_at hl 1 rfl) ?_
      have hg56 := gd_c hM
      have hM := gd_v hM
      refine va_iald hx hb hK hP 10 0 (g_M_a10) rfl (inb_in hg56) d_M_append_56 ?_
      refine lv_iadd hx hb d_M_append_57 ?_
      refine lv_aload_n hx hb d_M_append_58 rfl (lv_at hl 0 rfl) ?_
      refine va_get (D := (dC, dI)) (ci := 7) (v := .int ((σ 0).1 16)) (C := R_M) (T := F_M) (N := 33) hx hb htb in_M hown hK hP 0 (g_M) rfl 30 (by decide) (htb _ k_649) (fun _ h9 => h9) rfl d_M_append_59 ?_
      have hg62 := gd_c hM
      have hM := gd_v hM
      refine va_iast (i := ((150 * v1) + ((σ 0).2 10 v1.toNatClampNeg))) (x := ((σ 0).1 16)) hx hb hK hP hD hS 9 0 (g_M_a9) rfl (inb_in hg62) d_M_append_62 (fun H locs hP hD hS => ?_)
      have hP := P_eq (t_M_9) hP
      have hD := D_eq (t_M_9) hD
      refine lv_aload_n hx hb d_M_append_63 rfl (lv_at hl 0 rfl) ?_
      refine va_get (D := (dC, dI)) (ci := 7) (v := .ref (ad 0 10)) (C := R_M) (T := F_M) (N := 33) hx hb htb in_M hown hK hP 0 (g_M) rfl 23 (by decide) (htb _ k_642) (fun _ h9 => h9) rfl d_M_append_64 ?_
      refine lv_iload_n hx hb d_M_append_67 rfl (lv_at hl 1 rfl) ?_
      refine lv_aload_n hx hb d_M_append_68 rfl (lv_at hl 0 rfl) ?_
      refine va_get (D := (dC, dI)) (ci := 7) (v := .ref (ad 0 10)) (C := R_M) (T := F_M) (N := 33) hx hb htb in_M hown hK hP 0 (g_M) rfl 23 (by decide) (htb _ k_642) (fun _ h9 => h9) rfl d_M_append_69 ?_
      refine lv_iload_n hx hb d_M_append_72 rfl (lv_at hl 1 rfl) ?_
      have hg73 := gd_c hM
      have hM := gd_v hM
      refine va_iald hx hb hK hP 10 0 (g_M_a10) rfl (inb_in hg73) d_M_append_73 ?_
      refine lv_iconst (v := 1) hx hb d_M_append_74 (by decide) ?_
      refine lv_iadd hx hb d_M_append_75 ?_
      have hg76 := gd_c hM
      have hM := gd_v hM
      refine va_iast (i := v1) (x := ((((w3 σ 0 9 ((150 * v1) + ((σ 0).2 10 v1.toNatClampNeg)) ((σ 0).1 16)) 0).2 10 v1.toNatClampNeg) + 1)) hx hb hK hP hD hS 10 0 (g_M_a10) rfl (inb_in hg76) d_M_append_76 (fun H locs hP hD hS => ?_)
      have hP := P_eq (t_M_10) hP
      have hD := D_eq (t_M_10) hD
      have e9 := Option.some.inj hM
      exact W.vret hx hb hr (fun t ht hW => ⟨⟨(w3 (w3 σ 0 9 ((150 * v1) + ((σ 0).2 10 v1.toNatClampNeg)) ((σ 0).1 16)) 0 10 v1 ((((w3 σ 0 9 ((150 * v1) + ((σ 0).2 10 v1.toNatClampNeg)) ((σ 0).1 16)) 0).2 10 v1.toNatClampNeg) + 1)), rfl, e9, by rw [ht]; exact hP, va_K.moved hW.alike hK, hD⟩, hS.F ht⟩) hS.2.2 d_M_append_77
    · rw [if_neg h19] at hM
      refine lv_aload_n hx hb d_M_append_22 rfl (lv_at hl 0 rfl) ?_
      refine va_get (D := (dC, dI)) (ci := 7) (v := .ref (ad 0 8)) (C := R_M) (T := F_M) (N := 33) hx hb htb in_M hown hK hP 0 (g_M) rfl 21 (by decide) (htb _ k_640) (fun _ h9 => h9) rfl d_M_append_23 ?_
      refine lv_iload_n hx hb d_M_append_26 rfl (lv_at hl 2 rfl) ?_
      refine lv_iload_n hx hb d_M_append_27 rfl (lv_at hl 3 rfl) ?_
      refine lv_iadd hx hb d_M_append_28 ?_
      refine lv_aload_n hx hb d_M_append_29 rfl (lv_at hl 0 rfl) ?_
      refine va_get (D := (dC, dI)) (ci := 7) (v := .ref (ad 0 15)) (C := R_M) (T := F_M) (N := 33) hx hb htb in_M hown hK hP 0 (g_M) rfl 31 (by decide) (htb _ k_650) (fun _ h9 => h9) rfl d_M_append_30 ?_
      refine lv_iload_n hx hb d_M_append_33 rfl (lv_at hl 3 rfl) ?_
      have hg34 := gd_c hM
      have hM := gd_v hM
      refine va_iald hx hb hK hP 15 0 (g_M_a15) rfl (inb_in hg34) d_M_append_34 ?_
      have hg35 := gd_c hM
      have hM := gd_v hM
      refine va_iast (i := (v2 + v3)) (x := ((σ 0).2 15 v3.toNatClampNeg)) hx hb hK hP hD hS 8 0 (g_M_a8) rfl (inb_in hg35) d_M_append_35 (fun H locs hP hD hS => ?_)
      have hP := P_eq (t_M_8) hP
      have hD := D_eq (t_M_8) hD
      refine lv_iinc (k := 3) (v := (v3 + 1)) hx hb d_M_append_36 hl rfl rfl (by decide) (lv' := [(3, .int (v3 + 1)), (0, .ref (ad 0 0)), (1, .int v1), (2, .int v2)]) rfl (fun ls hl => ?_)
      refine lv_goto (tgt := 14) hx hb d_M_append_39 (by decide) ?_
      exact K14 _ _ _ _ ⟨(w3 σ 0 8 (v2 + v3) ((σ 0).2 15 v3.toNatClampNeg)), v1, v2, (v3 + 1), rfl, hM, lv_sub hl [1, 2, 3, 0] rfl, hP, hD, hS⟩
  intro K14
  refine lv_sipush (v := 150) hx hb d_M_append_0 (by decide) ?_
  refine lv_iload_n hx hb d_M_append_3 rfl (lv_at hl 1 rfl) ?_
  refine lv_imul hx hb d_M_append_4 ?_
  refine lv_aload_n hx hb d_M_append_5 rfl (lv_at hl 0 rfl) ?_
  refine lv_iload_n hx hb d_M_append_6 rfl (lv_at hl 1 rfl) ?_
  obtain ⟨x7, y7, hq7, hM⟩ := bI_some hM
  refine va_calli (va_runV (As := [.int a1]) (rest := [.int (150 * a1)]) ⟨hx, hb, hml, hown, hts⟩ (c_M_cardsOn l dC dI ad cs _ N σ a1 hq7) (cwV 1 hts (goodV k_795 k_797 ks_M_cardsOn k_8 k_798) rfl rfl rfl ⟨rfl, by decide, by decide, by decide +kernel⟩ ⟨Nat.le_of_ble_eq_true rfl, Nat.le_of_ble_eq_true rfl⟩) ⟨blindM, va_recv hK hP rfl (g_M), payM hP hK hD hN⟩ rfl rfl hl.1 rfl (lv_room (Nat.le_of_ble_eq_true rfl)) d_M_append_7 ⟨Nat.zero_le _, Nat.zero_le _⟩) hS (fun q h0 h => absurd h0 (Nat.not_lt.mpr h)) (fun q h => hA q (Nat.le_trans hS.1 h)) (fun r7 u t H locs ht hvm hpost hB hz1 hk1 hS => ?_)
  obtain ⟨e1, e2⟩ := hpost
  subst e1
  subst e2
  have hP := keepP hP hk1
  refine lv_iadd hx hb d_M_append_10 ?_
  refine lv_istore_n hx hb d_M_append_11 rfl hl (by decide) (lv' := [(2, .int ((150 * a1) + r7)), (0, .ref (ad 0 0)), (1, .int a1)]) rfl (fun ls hl => ?_)
  refine lv_iconst (v := 0) hx hb d_M_append_12 (by decide) ?_
  refine lv_istore_n hx hb d_M_append_13 rfl hl (by decide) (lv' := [(3, .int 0), (2, .int ((150 * a1) + r7)), (0, .ref (ad 0 0)), (1, .int a1)]) rfl (fun ls hl => ?_)
  exact K14 N _ _ _ _ ⟨σ, a1, ((150 * a1) + r7), 0, rfl, hM, lv_sub hl [2, 3, 1, 0] rfl, hP, hD, hS⟩

theorem d_M_takeOff_0 : decode b_M_takeOff 0 = .ok (.aload_n 0, 1) := by decide +kernel
theorem d_M_takeOff_1 : decode b_M_takeOff 1 = .ok (.getfield 43, 3) := by decide +kernel
theorem d_M_takeOff_4 : decode b_M_takeOff 4 = .ok (.sipush 150, 3) := by decide +kernel
theorem d_M_takeOff_7 : decode b_M_takeOff 7 = .ok (.iload_n 1, 1) := by decide +kernel
theorem d_M_takeOff_8 : decode b_M_takeOff 8 = .ok (.imul, 1) := by decide +kernel
theorem d_M_takeOff_9 : decode b_M_takeOff 9 = .ok (.iaload, 1) := by decide +kernel
theorem d_M_takeOff_10 : decode b_M_takeOff 10 = .ok (.istore_n 2, 1) := by decide +kernel
theorem d_M_takeOff_11 : decode b_M_takeOff 11 = .ok (.aload_n 0, 1) := by decide +kernel
theorem d_M_takeOff_12 : decode b_M_takeOff 12 = .ok (.iload_n 1, 1) := by decide +kernel
theorem d_M_takeOff_13 : decode b_M_takeOff 13 = .ok (.invokevirtual 136, 3) := by decide +kernel
theorem d_M_takeOff_16 : decode b_M_takeOff 16 = .ok (.istore_n 3, 1) := by decide +kernel
theorem d_M_takeOff_17 : decode b_M_takeOff 17 = .ok (.iload_n 2, 1) := by decide +kernel
theorem d_M_takeOff_18 : decode b_M_takeOff 18 = .ok (.istore 4, 2) := by decide +kernel
theorem d_M_takeOff_20 : decode b_M_takeOff 20 = .ok (.iload 4, 2) := by decide +kernel
theorem d_M_takeOff_22 : decode b_M_takeOff 22 = .ok (.iload_n 3, 1) := by decide +kernel
theorem d_M_takeOff_23 : decode b_M_takeOff 23 = .ok (.if_icmp .ge 37, 3) := by decide +kernel
theorem d_M_takeOff_26 : decode b_M_takeOff 26 = .ok (.aload_n 0, 1) := by decide +kernel
theorem d_M_takeOff_27 : decode b_M_takeOff 27 = .ok (.getfield 40, 3) := by decide +kernel
theorem d_M_takeOff_30 : decode b_M_takeOff 30 = .ok (.sipush 150, 3) := by decide +kernel
theorem d_M_takeOff_33 : decode b_M_takeOff 33 = .ok (.iload_n 1, 1) := by decide +kernel
theorem d_M_takeOff_34 : decode b_M_takeOff 34 = .ok (.imul, 1) := by decide +kernel
theorem d_M_takeOff_35 : decode b_M_takeOff 35 = .ok (.iload 4, 2) := by decide +kernel
theorem d_M_takeOff_37 : decode b_M_takeOff 37 = .ok (.iadd, 1) := by decide +kernel
theorem d_M_takeOff_38 : decode b_M_takeOff 38 = .ok (.iload_n 2, 1) := by decide +kernel
theorem d_M_takeOff_39 : decode b_M_takeOff 39 = .ok (.isub, 1) := by decide +kernel
theorem d_M_takeOff_40 : decode b_M_takeOff 40 = .ok (.aload_n 0, 1) := by decide +kernel
theorem d_M_takeOff_41 : decode b_M_takeOff 41 = .ok (.getfield 40, 3) := by decide +kernel
theorem d_M_takeOff_44 : decode b_M_takeOff 44 = .ok (.sipush 150, 3) := by decide +kernel
theorem d_M_takeOff_47 : decode b_M_takeOff 47 = .ok (.iload_n 1, 1) := by decide +kernel
theorem d_M_takeOff_48 : decode b_M_takeOff 48 = .ok (.imul, 1) := by decide +kernel
theorem d_M_takeOff_49 : decode b_M_takeOff 49 = .ok (.iload 4, 2) := by decide +kernel
theorem d_M_takeOff_51 : decode b_M_takeOff 51 = .ok (.iadd, 1) := by decide +kernel
theorem d_M_takeOff_52 : decode b_M_takeOff 52 = .ok (.iaload, 1) := by decide +kernel
theorem d_M_takeOff_53 : decode b_M_takeOff 53 = .ok (.iastore, 1) := by decide +kernel
theorem d_M_takeOff_54 : decode b_M_takeOff 54 = .ok (.iinc 4 1, 3) := by decide +kernel
theorem d_M_takeOff_57 : decode b_M_takeOff 57 = .ok (.goto (-37), 3) := by decide +kernel
theorem d_M_takeOff_60 : decode b_M_takeOff 60 = .ok (.iconst 1, 1) := by decide +kernel
theorem d_M_takeOff_61 : decode b_M_takeOff 61 = .ok (.istore 4, 2) := by decide +kernel
theorem d_M_takeOff_63 : decode b_M_takeOff 63 = .ok (.iload 4, 2) := by decide +kernel
theorem d_M_takeOff_65 : decode b_M_takeOff 65 = .ok (.aload_n 0, 1) := by decide +kernel
theorem d_M_takeOff_66 : decode b_M_takeOff 66 = .ok (.getfield 46, 3) := by decide +kernel
theorem d_M_takeOff_69 : decode b_M_takeOff 69 = .ok (.iload_n 1, 1) := by decide +kernel
theorem d_M_takeOff_70 : decode b_M_takeOff 70 = .ok (.iaload, 1) := by decide +kernel
theorem d_M_takeOff_71 : decode b_M_takeOff 71 = .ok (.if_icmp .ge 37, 3) := by decide +kernel
theorem d_M_takeOff_74 : decode b_M_takeOff 74 = .ok (.aload_n 0, 1) := by decide +kernel
theorem d_M_takeOff_75 : decode b_M_takeOff 75 = .ok (.getfield 43, 3) := by decide +kernel
theorem d_M_takeOff_78 : decode b_M_takeOff 78 = .ok (.sipush 150, 3) := by decide +kernel
theorem d_M_takeOff_81 : decode b_M_takeOff 81 = .ok (.iload_n 1, 1) := by decide +kernel
theorem d_M_takeOff_82 : decode b_M_takeOff 82 = .ok (.imul, 1) := by decide +kernel
theorem d_M_takeOff_83 : decode b_M_takeOff 83 = .ok (.iload 4, 2) := by decide +kernel
theorem d_M_takeOff_85 : decode b_M_takeOff 85 = .ok (.iadd, 1) := by decide +kernel
theorem d_M_takeOff_86 : decode b_M_takeOff 86 = .ok (.iconst 1, 1) := by decide +kernel
theorem d_M_takeOff_87 : decode b_M_takeOff 87 = .ok (.isub, 1) := by decide +kernel
theorem d_M_takeOff_88 : decode b_M_takeOff 88 = .ok (.aload_n 0, 1) := by decide +kernel
theorem d_M_takeOff_89 : decode b_M_takeOff 89 = .ok (.getfield 43, 3) := by decide +kernel
theorem d_M_takeOff_92 : decode b_M_takeOff 92 = .ok (.sipush 150, 3) := by decide +kernel
theorem d_M_takeOff_95 : decode b_M_takeOff 95 = .ok (.iload_n 1, 1) := by decide +kernel
theorem d_M_takeOff_96 : decode b_M_takeOff 96 = .ok (.imul, 1) := by decide +kernel
theorem d_M_takeOff_97 : decode b_M_takeOff 97 = .ok (.iload 4, 2) := by decide +kernel
theorem d_M_takeOff_99 : decode b_M_takeOff 99 = .ok (.iadd, 1) := by decide +kernel
theorem d_M_takeOff_100 : decode b_M_takeOff 100 = .ok (.iaload, 1) := by decide +kernel
theorem d_M_takeOff_101 : decode b_M_takeOff 101 = .ok (.iastore, 1) := by decide +kernel
theorem d_M_takeOff_102 : decode b_M_takeOff 102 = .ok (.iinc 4 1, 3) := by decide +kernel
theorem d_M_takeOff_105 : decode b_M_takeOff 105 = .ok (.goto (-42), 3) := by decide +kernel
theorem d_M_takeOff_108 : decode b_M_takeOff 108 = .ok (.aload_n 0, 1) := by decide +kernel
theorem d_M_takeOff_109 : decode b_M_takeOff 109 = .ok (.getfield 46, 3) := by decide +kernel
theorem d_M_takeOff_112 : decode b_M_takeOff 112 = .ok (.iload_n 1, 1) := by decide +kernel
theorem d_M_takeOff_113 : decode b_M_takeOff 113 = .ok (.aload_n 0, 1) := by decide +kernel
theorem d_M_takeOff_114 : decode b_M_takeOff 114 = .ok (.getfield 46, 3) := by decide +kernel
theorem d_M_takeOff_117 : decode b_M_takeOff 117 = .ok (.iload_n 1, 1) := by decide +kernel
theorem d_M_takeOff_118 : decode b_M_takeOff 118 = .ok (.iaload, 1) := by decide +kernel
theorem d_M_takeOff_119 : decode b_M_takeOff 119 = .ok (.iconst 1, 1) := by decide +kernel
theorem d_M_takeOff_120 : decode b_M_takeOff 120 = .ok (.isub, 1) := by decide +kernel
theorem d_M_takeOff_121 : decode b_M_takeOff 121 = .ok (.iastore, 1) := by decide +kernel
theorem d_M_takeOff_122 : decode b_M_takeOff 122 = .ok (.return_, 1) := by decide +kernel
def m_M_takeOff_63 (N : Nat) : Nat → SX → Int32 → Int32 → Option (SX)
  | 0, _, _, _ => none
  | n63 + 1, σ, v1, v4 =>
    (if inb v1 4 = true then (if ((σ 0).2 10 v1.toNatClampNeg) ≤ v4 then (if inb v1 4 = true then (if inb v1 4 = true then some (w3 σ 0 10 v1 (((σ 0).2 10 v1.toNatClampNeg) - 1)) else none) else none) else (if inb ((150 * v1) + v4) 600 = true then (if inb (((150 * v1) + v4) - 1) 600 = true then m_M_takeOff_63 N n63 (w3 σ 0 9 (((150 * v1) + v4) - 1) ((σ 0).2 9 ((150 * v1) + v4).toNatClampNeg)) v1 (v4 + 1) else none) else none)) else none)

def m_M_takeOff_20 (N : Nat) : Nat → SX → Int32 → Int32 → Int32 → Int32 → Option (SX)
  | 0, _, _, _, _, _ => none
  | n20 + 1, σ, v1, v2, v3, v4 =>
    (if v3 ≤ v4 then m_M_takeOff_63 N N σ v1 1 else (if inb ((150 * v1) + v4) 600 = true then (if inb (((150 * v1) + v4) - v2) 600 = true then m_M_takeOff_20 N n20 (w3 σ 0 8 (((150 * v1) + v4) - v2) ((σ 0).2 8 ((150 * v1) + v4).toNatClampNeg)) v1 v2 v3 (v4 + 1) else none) else none))

def m_M_takeOff (N : Nat) (σ : SX) (a1 : Int32) : Option (SX) :=
  (if inb (150 * a1) 600 = true then (bI (m_M_cardsOn N σ a1) fun r13 σ13 => m_M_takeOff_20 N N σ a1 ((σ 0).2 9 (150 * a1).toNatClampNeg) r13 ((σ 0).2 9 (150 * a1).toNatClampNeg)) else none)

set_option maxHeartbeats 4000000 in
set_option maxRecDepth 100000 in
theorem c_M_takeOff (l : Launch) (dC : Nat → ClassId) (dI : Nat → Nat → Nat) (ad : Nat → Nat → Nat) (cs : Nat → ClassId) (sz N : Nat) (σ : SX) (a1 : Int32) {σ0 : SX} (hM : m_M_takeOff N σ a1 = some σ0) : Met l y_M_takeOff (wd y_M_takeOff b_M_takeOff 5 none) ({ frames := 1, cells := 0, slots := 0, locals := 23 }) (va_Pc [.ref (ad 0 0), .int a1] (preM dC dI ad cs sz σ)) (va_Qv (fun (u : SX) => u = σ0) (atM dC dI ad cs (va_A (wM ad cs σ) sz)) (va_A (wM ad cs σ) sz)) 0 0 (va_A (wM ad cs σ) sz) := by
  refine Met.ofW (cc := b_M_takeOff) (maxL := 5) (ret := none) (by decide) rfl ?_
  intro p e s m args below meth c s₁ B hml hv
  obtain ⟨rfl, hsz, hP, hK, hD0, hN⟩ := hv
  have hx := B.exec
  have hb := B.bytes
  have hr := B.returns
  have hts := atoms_spec (ws := (wd y_M_takeOff b_M_takeOff 5 none)) B.pre
  have htb : ∀ w ∈ tb, w.before _ s = true := fun w h => hts w (List.mem_cons_of_mem _ h)
  have hown : s.vm.findClass R_M = some m.cls := findClass_of_methodNamed B.named
  have hlocks := B.notSynchronized
  subst hsz
  have hD := hD0.self (sz := s.heap.size)
  generalize hAe : va_A (wM ad cs σ) s.heap.size = A at hD ⊢
  have hA : ∀ q : Nat, s.heap.size ≤ q → A q := fun q h => by rw [← hAe]; exact Or.inr h
  have hS : va_S A s.heap s.heap [] := va_S.rf
  have hP : va_P (dC, dI) classes (wM ad cs σ) s.heap := hP
  have hl := lv_entry ([.ref (ad 0 0), .int a1]) (n := 5) (Nat.le_of_ble_eq_true rfl)
  rw [lg_entry_eq]
  generalize (lg_sl ([.ref (ad 0 0), .int a1]) ++ List.replicate (5 - (lg_sl ([.ref (ad 0 0), .int a1])).length) Slot.unset).toArray = ls at hl ⊢
  have hl : lv_has ls 5 [(0, .ref (ad 0 0)), (1, .int a1)] := hl
  rw [m_M_takeOff] at hM
  refine W_loop (pc := 63) (fun n63 H locs ls st => ∃ (σ : SX) (v1 : Int32) (v4 : Int32), st = [] ∧ m_M_takeOff_63 N n63 σ v1 v4 = some σ0 ∧ lv_has ls 5 [(0, .ref (ad 0 0)), (1, .int v1), (4, .int v4)] ∧ va_P (dC, dI) classes (wM ad cs σ) H ∧ va_D A (wM ad cs σ) ∧ va_S A s.heap H locs) ?_ ?_ ?_
  · rintro H locs ls st ⟨σ, v1, v4, -, hM, -⟩
    rw [m_M_takeOff_63] at hM; cases hM
  · intro n63 K63 H locs ls st hI
    obtain ⟨σ, v1, v4, rfl, hM, hl, hP, hD, hS⟩ := hI
    rw [m_M_takeOff_63] at hM
    refine lv_iload hx hb d_M_takeOff_63 (lv_at hl 2 rfl) ?_
    refine lv_aload_n hx hb d_M_takeOff_65 rfl (lv_at hl 0 rfl) ?_
    refine va_get (D := (dC, dI)) (ci := 7) (v := .ref (ad 0 10)) (C := R_M) (T := F_M) (N := 33) hx hb htb in_M hown hK hP 0 (g_M) rfl 23 (by decide) (htb _ k_642) (fun _ h9 => h9) rfl d_M_takeOff_66 ?_
    refine lv_iload_n hx hb d_M_takeOff_69 rfl (lv_at hl 1 rfl) ?_
    have hg70 := gd_c hM
    have hM := gd_v hM
    refine va_iald hx hb hK hP 10 0 (g_M_a10) rfl (inb_in hg70) d_M_takeOff_70 ?_
    refine lv_icmp_ge (tgt := 108) hx hb d_M_takeOff_71 (by decide) (fun h71 => ?_) (fun h71 => ?_)
    · rw [if_pos h71] at hM
      refine lv_aload_n hx hb d_M_takeOff_108 rfl (lv_at hl 0 rfl) ?_
      refine va_get (D := (dC, dI)) (ci := 7) (v := .ref (ad 0 10)) (C := R_M) (T := F_M) (N := 33) hx hb htb in_M hown hK hP 0 (g_M) rfl 23 (by decide) (htb _ k_642) (fun _ h9 => h9) rfl d_M_takeOff_109 ?_
      refine lv_iload_n hx hb d_M_takeOff_112 rfl (lv_at hl 1 rfl) ?_
      refine lv_aload_n hx hb d_M_takeOff_113 rfl (lv_at hl 0 rfl) ?_
      refine va_get (D := (dC, dI)) (ci := 7) (v := .ref (ad 0 10)) (C := R_M) (T := F_M) (N := 33) hx hb htb in_M hown hK hP 0 (g_M) rfl 23 (by decide) (htb _ k_642) (fun _ h9 => h9) rfl d_M_takeOff_114 ?_
      refine lv_iload_n hx hb d_M_takeOff_117 rfl (lv_at hl 1 rfl) ?_
      have hg118 := gd_c hM
      have hM := gd_v hM
      refine va_iald hx hb hK hP 10 0 (g_M_a10) rfl (inb_in hg118) d_M_takeOff_118 ?_
      refine lv_iconst (v := 1) hx hb d_M_takeOff_119 (by decide) ?_
      refine lv_isub hx hb d_M_takeOff_120 ?_
      have hg121 := gd_c hM
      have hM := gd_v hM
      refine va_iast (i := v1) (x := (((σ 0).2 10 v1.toNatClampNeg) - 1)) hx hb hK hP hD hS 10 0 (g_M_a10) rfl (inb_in hg121) d_M_takeOff_121 (fun H locs hP hD hS => ?_)
      have hP := P_eq (t_M_10) hP
      have hD := D_eq (t_M_10) hD
      have e9 := Option.some.inj hM
      exact W.vret hx hb hr (fun t ht hW => ⟨⟨(w3 σ 0 10 v1 (((σ 0).2 10 v1.toNatClampNeg) - 1)), rfl, e9, by rw [ht]; exact hP, va_K.moved hW.alike hK, hD⟩, hS.F ht⟩) hS.2.2 d_M_takeOff_122
    · rw [if_neg h71] at hM
      refine lv_aload_n hx hb d_M_takeOff_74 rfl (lv_at hl 0 rfl) ?_
      refine va_get (D := (dC, dI)) (ci := 7) (v := .ref (ad 0 9)) (C := R_M) (T := F_M) (N := 33) hx hb htb in_M hown hK hP 0 (g_M) rfl 22 (by decide) (htb _ k_641) (fun _ h9 => h9) rfl d_M_takeOff_75 ?_
      refine lv_sipush (v := 150) hx hb d_M_takeOff_78 (by decide) ?_
      refine lv_iload_n hx hb d_M_takeOff_81 rfl (lv_at hl 1 rfl) ?_
      refine lv_imul hx hb d_M_takeOff_82 ?_
      refine lv_iload hx hb d_M_takeOff_83 (lv_at hl 2 rfl) ?_
      refine lv_iadd hx hb d_M_takeOff_85 ?_
      refine lv_iconst (v := 1) hx hb d_M_takeOff_86 (by decide) ?_
      refine lv_isub hx hb d_M_takeOff_87 ?_
      refine lv_aload_n hx hb d_M_takeOff_88 rfl (lv_at hl 0 rfl) ?_
      refine va_get (D := (dC, dI)) (ci := 7) (v := .ref (ad 0 9)) (C := R_M) (T := F_M) (N := 33) hx hb htb in_M hown hK hP 0 (g_M) rfl 22 (by decide) (htb _ k_641) (fun _ h9 => h9) rfl d_M_takeOff_89 ?_
      refine lv_sipush (v := 150) hx hb d_M_takeOff_92 (by decide) ?_
      refine lv_iload_n hx hb d_M_takeOff_95 rfl (lv_at hl 1 rfl) ?_
      refine lv_imul hx hb d_M_takeOff_96 ?_
      refine lv_iload hx hb d_M_takeOff_97 (lv_at hl 2 rfl) ?_
      refine lv_iadd hx hb d_M_takeOff_99 ?_
      have hg100 := gd_c hM
      have hM := gd_v hM
      refine va_iald hx hb hK hP 9 0 (g_M_a9) rfl (inb_in hg100) d_M_takeOff_100 ?_
      have hg101 := gd_c hM
      have hM := gd_v hM
      refine va_iast (i := (((150 * v1) + v4) - 1)) (x := ((σ 0).2 9 ((150 * v1) + v4).toNatClampNeg)) hx hb hK hP hD hS 9 0 (g_M_a9) rfl (inb_in hg101) d_M_takeOff_101 (fun H locs hP hD hS => ?_)
      have hP := P_eq (t_M_9) hP
      have hD := D_eq (t_M_9) hD
      refine lv_iinc (k := 2) (v := (v4 + 1)) hx hb d_M_takeOff_102 hl rfl rfl (by decide) (lv' := [(4, .int (v4 + 1)), (0, .ref (ad 0 0)), (1, .int v1)]) rfl (fun ls hl => ?_)
      refine lv_goto (tgt := 63) hx hb d_M_takeOff_105 (by decide) ?_
      exact K63 _ _ _ _ ⟨(w3 σ 0 9 (((150 * v1) + v4) - 1) ((σ 0).2 9 ((150 * v1) + v4).toNatClampNeg)), v1, (v4 + 1), rfl, hM, lv_sub hl [1, 2, 0] rfl, hP, hD, hS⟩
  intro K63
  refine W_loop (pc := 20) (fun n20 H locs ls st => ∃ (σ : SX) (v1 : Int32) (v2 : Int32) (v3 : Int32) (v4 : Int32), st = [] ∧ m_M_takeOff_20 N n20 σ v1 v2 v3 v4 = some σ0 ∧ lv_has ls 5 [(0, .ref (ad 0 0)), (1, .int v1), (2, .int v2), (3, .int v3), (4, .int v4)] ∧ va_P (dC, dI) classes (wM ad cs σ) H ∧ va_D A (wM ad cs σ) ∧ va_S A s.heap H locs) ?_ ?_ ?_
  · rintro H locs ls st ⟨σ, v1, v2, v3, v4, -, hM, -⟩
    rw [m_M_takeOff_20] at hM; cases hM
  · intro n20 K20 H locs ls st hI
    obtain ⟨σ, v1, v2, v3, v4, rfl, hM, hl, hP, hD, hS⟩ := hI
    rw [m_M_takeOff_20] at hM
    refine lv_iload hx hb d_M_takeOff_20 (lv_at hl 4 rfl) ?_
    refine lv_iload_n hx hb d_M_takeOff_22 rfl (lv_at hl 3 rfl) ?_
    refine lv_icmp_ge (tgt := 60) hx hb d_M_takeOff_23 (by decide) (fun h23 => ?_) (fun h23 => ?_)
    · rw [if_pos h23] at hM
      refine lv_iconst (v := 1) hx hb d_M_takeOff_60 (by decide) ?_
      refine lv_istore hx hb d_M_takeOff_61 hl (by decide) (lv' := [(4, .int 1), (0, .ref (ad 0 0)), (1, .int v1), (2, .int v2), (3, .int v3)]) rfl (fun ls hl => ?_)
      exact K63 N _ _ _ _ ⟨σ, v1, 1, rfl, hM, lv_sub hl [1, 2, 0] rfl, hP, hD, hS⟩
    · rw [if_neg h23] at hM
      refine lv_aload_n hx hb d_M_takeOff_26 rfl (lv_at hl 0 rfl) ?_
      refine va_get (D := (dC, dI)) (ci := 7) (v := .ref (ad 0 8)) (C := R_M) (T := F_M) (N := 33) hx hb htb in_M hown hK hP 0 (g_M) rfl 21 (by decide) (htb _ k_640) (fun _ h9 => h9) rfl d_M_takeOff_27 ?_
      refine lv_sipush (v := 150) hx hb d_M_takeOff_30 (by decide) ?_
      refine lv_iload_n hx hb d_M_takeOff_33 rfl (lv_at hl 1 rfl) ?_
      refine lv_imul hx hb d_M_takeOff_34 ?_
      refine lv_iload hx hb d_M_takeOff_35 (lv_at hl 4 rfl) ?_
      refine lv_iadd hx hb d_M_takeOff_37 ?_
      refine lv_iload_n hx hb d_M_takeOff_38 rfl (lv_at hl 2 rfl) ?_
      refine lv_isub hx hb d_M_takeOff_39 ?_
      refine lv_aload_n hx hb d_M_takeOff_40 rfl (lv_at hl 0 rfl) ?_
      refine va_get (D := (dC, dI)) (ci := 7) (v := .ref (ad 0 8)) (C := R_M) (T := F_M) (N := 33) hx hb htb in_M hown hK hP 0 (g_M) rfl 21 (by decide) (htb _ k_640) (fun _ h9 => h9) rfl d_M_takeOff_41 ?_
      refine lv_sipush (v := 150) hx hb d_M_takeOff_44 (by decide) ?_
      refine lv_iload_n hx hb d_M_takeOff_47 rfl (lv_at hl 1 rfl) ?_
      refine lv_imul hx hb d_M_takeOff_48 ?_
      refine lv_iload hx hb d_M_takeOff_49 (lv_at hl 4 rfl) ?_
      refine lv_iadd hx hb d_M_takeOff_51 ?_
      have hg52 := gd_c hM
      have hM := gd_v hM
      refine va_iald hx hb hK hP 8 0 (g_M_a8) rfl (inb_in hg52) d_M_takeOff_52 ?_
      have hg53 := gd_c hM
      have hM := gd_v hM
      refine va_iast (i := (((150 * v1) + v4) - v2)) (x := ((σ 0).2 8 ((150 * v1) + v4).toNatClampNeg)) hx hb hK hP hD hS 8 0 (g_M_a8) rfl (inb_in hg53) d_M_takeOff_53 (fun H locs hP hD hS => ?_)
      have hP := P_eq (t_M_8) hP
      have hD := D_eq (t_M_8) hD
      refine lv_iinc (k := 4) (v := (v4 + 1)) hx hb d_M_takeOff_54 hl rfl rfl (by decide) (lv' := [(4, .int (v4 + 1)), (0, .ref (ad 0 0)), (1, .int v1), (2, .int v2), (3, .int v3)]) rfl (fun ls hl => ?_)
      refine lv_goto (tgt := 20) hx hb d_M_takeOff_57 (by decide) ?_
      exact K20 _ _ _ _ ⟨(w3 σ 0 8 (((150 * v1) + v4) - v2) ((σ 0).2 8 ((150 * v1) + v4).toNatClampNeg)), v1, v2, v3, (v4 + 1), rfl, hM, lv_sub hl [1, 2, 3, 4, 0] rfl, hP, hD, hS⟩
  intro K20
  refine lv_aload_n hx hb d_M_takeOff_0 rfl (lv_at hl 0 rfl) ?_
  refine va_get (D := (dC, dI)) (ci := 7) (v := .ref (ad 0 9)) (C := R_M) (T := F_M) (N := 33) hx hb htb in_M hown hK hP 0 (g_M) rfl 22 (by decide) (htb _ k_641) (fun _ h9 => h9) rfl d_M_takeOff_1 ?_
  refine lv_sipush (v := 150) hx hb d_M_takeOff_4 (by decide) ?_
  refine lv_iload_n hx hb d_M_takeOff_7 rfl (lv_at hl 1 rfl) ?_
  refine lv_imul hx hb d_M_takeOff_8 ?_
  have hg9 := gd_c hM
  have hM := gd_v hM
  refine va_iald hx hb hK hP 9 0 (g_M_a9) rfl (inb_in hg9) d_M_takeOff_9 ?_
  refine lv_istore_n hx hb d_M_takeOff_10 rfl hl (by decide) (lv' := [(2, .int ((σ 0).2 9 (150 * a1).toNatClampNeg)), (0, .ref (ad 0 0)), (1, .int a1)]) rfl (fun ls hl => ?_)
  refine lv_aload_n hx hb d_M_takeOff_11 rfl (lv_at hl 1 rfl) ?_
  refine lv_iload_n hx hb d_M_takeOff_12 rfl (lv_at hl 2 rfl) ?_
  obtain ⟨x13, y13, hq13, hM⟩ := bI_some hM
  refine va_calli (va_runV (As := [.int a1]) (rest := []) ⟨hx, hb, hml, hown, hts⟩ (c_M_cardsOn l dC dI ad cs _ N σ a1 hq13) (cwV 1 hts (goodV k_795 k_797 ks_M_cardsOn k_8 k_798) rfl rfl rfl ⟨rfl, by decide, by decide, by decide +kernel⟩ ⟨Nat.le_of_ble_eq_true rfl, Nat.le_of_ble_eq_true rfl⟩) ⟨blindM, va_recv hK hP rfl (g_M), payM hP hK hD hN⟩ rfl rfl hl.1 rfl (lv_room (Nat.le_of_ble_eq_true rfl)) d_M_takeOff_13 ⟨Nat.zero_le _, Nat.zero_le _⟩) hS (fun q h0 h => absurd h0 (Nat.not_lt.mpr h)) (fun q h => hA q (Nat.le_trans hS.1 h)) (fun r13 u t H locs ht hvm hpost hB hz1 hk1 hS => ?_)
  obtain ⟨e1, e2⟩ := hpost
  subst e1
  subst e2
  have hP := keepP hP hk1
  refine lv_istore_n hx hb d_M_takeOff_16 rfl hl (by decide) (lv' := [(3, .int r13), (2, .int ((σ 0).2 9 (150 * a1).toNatClampNeg)), (0, .ref (ad 0 0)), (1, .int a1)]) rfl (fun ls hl => ?_)
  refine lv_iload_n hx hb d_M_takeOff_17 rfl (lv_at hl 1 rfl) ?_
  refine lv_istore hx hb d_M_takeOff_18 hl (by decide) (lv' := [(4, .int ((σ 0).2 9 (150 * a1).toNatClampNeg)), (3, .int r13), (2, .int ((σ 0).2 9 (150 * a1).toNatClampNeg)), (0, .ref (ad 0 0)), (1, .int a1)]) rfl (fun ls hl => ?_)
  exact K20 N _ _ _ _ ⟨σ, a1, ((σ 0).2 9 (150 * a1).toNatClampNeg), r13, ((σ 0).2 9 (150 * a1).toNatClampNeg), rfl, hM, lv_sub hl [3, 4, 2, 1, 0] rfl, hP, hD, hS⟩
