-- the base flow is never begun with one text for all (wip/whole/gen/laws82.py)
def kS (i n : Nat) : Bool := (Nat.beq i 0 && Nat.ble n 5) || (Nat.beq i 2 && (Nat.ble 4 n && Nat.ble n 6)) || (Nat.beq i 81 && (Nat.ble 31 n && Nat.ble n 33)) || (Nat.beq i 92 && (Nat.ble 41 n && Nat.ble n 43)) || (Nat.beq i 96 && (Nat.ble 27 n && Nat.ble n 29)) || (Nat.beq i 97 && (Nat.ble 17 n && Nat.ble n 19)) || (Nat.beq i 115 && (Nat.ble 18 n && Nat.ble n 20)) || (Nat.beq i 117 && (Nat.ble 6 n && Nat.ble n 8))
def kW (i n : Nat) : Bool := (Nat.beq i 2 && Nat.beq n 3) || (Nat.beq i 81 && Nat.beq n 30) || (Nat.beq i 92 && Nat.beq n 40) || (Nat.beq i 96 && Nat.beq n 26) || (Nat.beq i 97 && Nat.beq n 16) || (Nat.beq i 115 && Nat.beq n 17) || (Nat.beq i 117 && Nat.beq n 5)
def kC1 (i n : Nat) (x : rvI) : Bool := match x with
  | (_, op, a, b, _, tb) => (kS i n || ((!(Nat.beq op 11 && (Nat.beq a 0 && Nat.beq b 8))) && ((!(Nat.beq op 23 && Nat.beq a 0)) && (kW i n || ((!(kS i (n + 1)) || (Nat.beq op 21 || (Nat.ble 24 op && Nat.ble op 27))) && ((!(Nat.ble 19 op && Nat.ble op 22) || !(kS i b)) && (!(Nat.beq op 22) || tb.all (fun t => !(kS i t)))))))))
def kCk (i : Nat) : Nat → List rvI → Bool
  | _, [] => true
  | n, x :: r => kC1 i n x && kCk i (n + 1) r
theorem kCk_at {i : Nat} : ∀ {L : List rvI} {n j : Nat} {x : rvI}, kCk i n L = true → L[j]? = some x → kC1 i (n + j) x = true
  | [], n, j, x, h, g => by cases g
  | y :: L, n, 0, x, h, g => by
    have g : some y = some x := g
    cases g
    exact (Bool.and_eq_true_iff.mp h).1
  | y :: L, n, j + 1, x, h, g => by
    have e : n + (j + 1) = n + 1 + j := by omega
    rw [e]
    exact kCk_at (Bool.and_eq_true_iff.mp h).2 g
theorem kCk_0 : kCk 0 0 rvc_0 = true := by decide +kernel
theorem kCk_1 : kCk 1 0 rvc_1 = true := by decide +kernel
theorem kCk_2 : kCk 2 0 rvc_2 = true := by decide +kernel
theorem kCk_3 : kCk 3 0 rvc_3 = true := by decide +kernel
theorem kCk_4 : kCk 4 0 rvc_4 = true := by decide +kernel
theorem kCk_5 : kCk 5 0 rvc_5 = true := by decide +kernel
theorem kCk_6 : kCk 6 0 rvc_6 = true := by decide +kernel
theorem kCk_7 : kCk 7 0 rvc_7 = true := by decide +kernel
theorem kCk_8 : kCk 8 0 rvc_8 = true := by decide +kernel
theorem kCk_9 : kCk 9 0 rvc_9 = true := by decide +kernel
theorem kCk_10 : kCk 10 0 rvc_10 = true := by decide +kernel
theorem kCk_11 : kCk 11 0 rvc_11 = true := by decide +kernel
theorem kCk_12 : kCk 12 0 rvc_12 = true := by decide +kernel
theorem kCk_13 : kCk 13 0 rvc_13 = true := by decide +kernel
theorem kCk_14 : kCk 14 0 rvc_14 = true := by decide +kernel
theorem kCk_15 : kCk 15 0 rvc_15 = true := by decide +kernel
theorem kCk_16 : kCk 16 0 rvc_16 = true := by decide +kernel
theorem kCk_17 : kCk 17 0 rvc_17 = true := by decide +kernel
theorem kCk_18 : kCk 18 0 rvc_18 = true := by decide +kernel
theorem kCk_19 : kCk 19 0 rvc_19 = true := by decide +kernel
theorem kCk_20 : kCk 20 0 rvc_20 = true := by decide +kernel
theorem kCk_21 : kCk 21 0 rvc_21 = true := by decide +kernel
theorem kCk_22 : kCk 22 0 rvc_22 = true := by decide +kernel
theorem kCk_23 : kCk 23 0 rvc_23 = true := by decide +kernel
theorem kCk_24 : kCk 24 0 rvc_24 = true := by decide +kernel
theorem kCk_25 : kCk 25 0 rvc_25 = true := by decide +kernel
theorem kCk_26 : kCk 26 0 rvc_26 = true := by decide +kernel
theorem kCk_27 : kCk 27 0 rvc_27 = true := by decide +kernel
theorem kCk_28 : kCk 28 0 rvc_28 = true := by decide +kernel
theorem kCk_29 : kCk 29 0 rvc_29 = true := by decide +kernel
theorem kCk_30 : kCk 30 0 rvc_30 = true := by decide +kernel
theorem kCk_31 : kCk 31 0 rvc_31 = true := by decide +kernel
theorem kCk_32 : kCk 32 0 rvc_32 = true := by decide +kernel
theorem kCk_33 : kCk 33 0 rvc_33 = true := by decide +kernel
theorem kCk_34 : kCk 34 0 rvc_34 = true := by decide +kernel
theorem kCk_35 : kCk 35 0 rvc_35 = true := by decide +kernel
theorem kCk_36 : kCk 36 0 rvc_36 = true := by decide +kernel
theorem kCk_37 : kCk 37 0 rvc_37 = true := by decide +kernel
theorem kCk_38 : kCk 38 0 rvc_38 = true := by decide +kernel
theorem kCk_39 : kCk 39 0 rvc_39 = true := by decide +kernel
theorem kCk_40 : kCk 40 0 rvc_40 = true := by decide +kernel
theorem kCk_41 : kCk 41 0 rvc_41 = true := by decide +kernel
theorem kCk_42 : kCk 42 0 rvc_42 = true := by decide +kernel
theorem kCk_43 : kCk 43 0 rvc_43 = true := by decide +kernel
theorem kCk_44 : kCk 44 0 rvc_44 = true := by decide +kernel
theorem kCk_45 : kCk 45 0 rvc_45 = true := by decide +kernel
theorem kCk_46 : kCk 46 0 rvc_46 = true := by decide +kernel
theorem kCk_47 : kCk 47 0 rvc_47 = true := by decide +kernel
theorem kCk_48 : kCk 48 0 rvc_48 = true := by decide +kernel
theorem kCk_49 : kCk 49 0 rvc_49 = true := by decide +kernel
theorem kCk_50 : kCk 50 0 rvc_50 = true := by decide +kernel
theorem kCk_51 : kCk 51 0 rvc_51 = true := by decide +kernel
theorem kCk_52 : kCk 52 0 rvc_52 = true := by decide +kernel
theorem kCk_53 : kCk 53 0 rvc_53 = true := by decide +kernel
theorem kCk_54 : kCk 54 0 rvc_54 = true := by decide +kernel
theorem kCk_55 : kCk 55 0 rvc_55 = true := by decide +kernel
theorem kCk_56 : kCk 56 0 rvc_56 = true := by decide +kernel
theorem kCk_57 : kCk 57 0 rvc_57 = true := by decide +kernel
theorem kCk_58 : kCk 58 0 rvc_58 = true := by decide +kernel
theorem kCk_59 : kCk 59 0 rvc_59 = true := by decide +kernel
theorem kCk_60 : kCk 60 0 rvc_60 = true := by decide +kernel
theorem kCk_61 : kCk 61 0 rvc_61 = true := by decide +kernel
theorem kCk_62 : kCk 62 0 rvc_62 = true := by decide +kernel
theorem kCk_63 : kCk 63 0 rvc_63 = true := by decide +kernel
theorem kCk_64 : kCk 64 0 rvc_64 = true := by decide +kernel
theorem kCk_65 : kCk 65 0 rvc_65 = true := by decide +kernel
theorem kCk_66 : kCk 66 0 rvc_66 = true := by decide +kernel
theorem kCk_67 : kCk 67 0 rvc_67 = true := by decide +kernel
theorem kCk_68 : kCk 68 0 rvc_68 = true := by decide +kernel
theorem kCk_69 : kCk 69 0 rvc_69 = true := by decide +kernel
theorem kCk_70 : kCk 70 0 rvc_70 = true := by decide +kernel
theorem kCk_71 : kCk 71 0 rvc_71 = true := by decide +kernel
theorem kCk_72 : kCk 72 0 rvc_72 = true := by decide +kernel
theorem kCk_73 : kCk 73 0 rvc_73 = true := by decide +kernel
theorem kCk_74 : kCk 74 0 rvc_74 = true := by decide +kernel
theorem kCk_75 : kCk 75 0 rvc_75 = true := by decide +kernel
theorem kCk_76 : kCk 76 0 rvc_76 = true := by decide +kernel
theorem kCk_77 : kCk 77 0 rvc_77 = true := by decide +kernel
theorem kCk_78 : kCk 78 0 rvc_78 = true := by decide +kernel
theorem kCk_79 : kCk 79 0 rvc_79 = true := by decide +kernel
theorem kCk_80 : kCk 80 0 rvc_80 = true := by decide +kernel
theorem kCk_81 : kCk 81 0 rvc_81 = true := by decide +kernel
theorem kCk_82 : kCk 82 0 rvc_82 = true := by decide +kernel
theorem kCk_83 : kCk 83 0 rvc_83 = true := by decide +kernel
theorem kCk_84 : kCk 84 0 rvc_84 = true := by decide +kernel
theorem kCk_85 : kCk 85 0 rvc_85 = true := by decide +kernel
theorem kCk_86 : kCk 86 0 rvc_86 = true := by decide +kernel
theorem kCk_87 : kCk 87 0 rvc_87 = true := by decide +kernel
theorem kCk_88 : kCk 88 0 rvc_88 = true := by decide +kernel
theorem kCk_89 : kCk 89 0 rvc_89 = true := by decide +kernel
theorem kCk_90 : kCk 90 0 rvc_90 = true := by decide +kernel
theorem kCk_91 : kCk 91 0 rvc_91 = true := by decide +kernel
theorem kCk_92 : kCk 92 0 rvc_92 = true := by decide +kernel
theorem kCk_93 : kCk 93 0 rvc_93 = true := by decide +kernel
theorem kCk_94 : kCk 94 0 rvc_94 = true := by decide +kernel
theorem kCk_95 : kCk 95 0 rvc_95 = true := by decide +kernel
theorem kCk_96 : kCk 96 0 rvc_96 = true := by decide +kernel
theorem kCk_97 : kCk 97 0 rvc_97 = true := by decide +kernel
theorem kCk_98 : kCk 98 0 rvc_98 = true := by decide +kernel
theorem kCk_99 : kCk 99 0 rvc_99 = true := by decide +kernel
theorem kCk_100 : kCk 100 0 rvc_100 = true := by decide +kernel
theorem kCk_101 : kCk 101 0 rvc_101 = true := by decide +kernel
theorem kCk_102 : kCk 102 0 rvc_102 = true := by decide +kernel
theorem kCk_103 : kCk 103 0 rvc_103 = true := by decide +kernel
theorem kCk_104 : kCk 104 0 rvc_104 = true := by decide +kernel
theorem kCk_105 : kCk 105 0 rvc_105 = true := by decide +kernel
theorem kCk_106 : kCk 106 0 rvc_106 = true := by decide +kernel
theorem kCk_107 : kCk 107 0 rvc_107 = true := by decide +kernel
theorem kCk_108 : kCk 108 0 rvc_108 = true := by decide +kernel
theorem kCk_109 : kCk 109 0 rvc_109 = true := by decide +kernel
theorem kCk_110 : kCk 110 0 rvc_110 = true := by decide +kernel
theorem kCk_111 : kCk 111 0 rvc_111 = true := by decide +kernel
theorem kCk_112 : kCk 112 0 rvc_112 = true := by decide +kernel
theorem kCk_113 : kCk 113 0 rvc_113 = true := by decide +kernel
theorem kCk_114 : kCk 114 0 rvc_114 = true := by decide +kernel
theorem kCk_115 : kCk 115 0 rvc_115 = true := by decide +kernel
theorem kCk_116 : kCk 116 0 rvc_116 = true := by decide +kernel
theorem kCk_117 : kCk 117 0 rvc_117 = true := by decide +kernel
theorem kCk_118 : kCk 118 0 rvc_118 = true := by decide +kernel
theorem kCk_119 : kCk 119 0 rvc_119 = true := by decide +kernel
theorem kCk_120 : kCk 120 0 rvc_120 = true := by decide +kernel
theorem kCk_121 : kCk 121 0 rvc_121 = true := by decide +kernel
theorem kCk_122 : kCk 122 0 rvc_122 = true := by decide +kernel
theorem kCk_123 : kCk 123 0 rvc_123 = true := by decide +kernel
theorem kCk_124 : kCk 124 0 rvc_124 = true := by decide +kernel
theorem kCk_125 : kCk 125 0 rvc_125 = true := by decide +kernel
theorem kCk_126 : kCk 126 0 rvc_126 = true := by decide +kernel
theorem kCk_127 : kCk 127 0 rvc_127 = true := by decide +kernel
theorem kCk_128 : kCk 128 0 rvc_128 = true := by decide +kernel
theorem kCk_129 : kCk 129 0 rvc_129 = true := by decide +kernel
theorem kCk_130 : kCk 130 0 rvc_130 = true := by decide +kernel
theorem kCk_131 : kCk 131 0 rvc_131 = true := by decide +kernel
theorem kCk_132 : kCk 132 0 rvc_132 = true := by decide +kernel
theorem kCk_133 : kCk 133 0 rvc_133 = true := by decide +kernel
theorem kCk_134 : kCk 134 0 rvc_134 = true := by decide +kernel
theorem kCk_135 : kCk 135 0 rvc_135 = true := by decide +kernel
theorem kCk_136 : kCk 136 0 rvc_136 = true := by decide +kernel
theorem kCk_137 : kCk 137 0 rvc_137 = true := by decide +kernel
theorem kCk_138 : kCk 138 0 rvc_138 = true := by decide +kernel
theorem kCk_139 : kCk 139 0 rvc_139 = true := by decide +kernel
theorem kCk_140 : kCk 140 0 rvc_140 = true := by decide +kernel
theorem kCk_141 : kCk 141 0 rvc_141 = true := by decide +kernel
theorem kCk_142 : kCk 142 0 rvc_142 = true := by decide +kernel
theorem kCk_143 : kCk 143 0 rvc_143 = true := by decide +kernel
theorem kCk_144 : kCk 144 0 rvc_144 = true := by decide +kernel
theorem kCk_145 : kCk 145 0 rvc_145 = true := by decide +kernel
theorem kCk_146 : kCk 146 0 rvc_146 = true := by decide +kernel
theorem kCk_147 : kCk 147 0 rvc_147 = true := by decide +kernel
theorem kCk_148 : kCk 148 0 rvc_148 = true := by decide +kernel
theorem kCk_149 : kCk 149 0 rvc_149 = true := by decide +kernel
theorem kCk_150 : kCk 150 0 rvc_150 = true := by decide +kernel
theorem kCk_151 : kCk 151 0 rvc_151 = true := by decide +kernel
theorem kCk_152 : kCk 152 0 rvc_152 = true := by decide +kernel
theorem kCk_153 : kCk 153 0 rvc_153 = true := by decide +kernel
theorem kCk_154 : kCk 154 0 rvc_154 = true := by decide +kernel
theorem kCk_155 : kCk 155 0 rvc_155 = true := by decide +kernel
theorem kCk_156 : kCk 156 0 rvc_156 = true := by decide +kernel
theorem kCk_157 : kCk 157 0 rvc_157 = true := by decide +kernel
theorem kCk_158 : kCk 158 0 rvc_158 = true := by decide +kernel
theorem kCk_159 : kCk 159 0 rvc_159 = true := by decide +kernel
theorem kCk_160 : kCk 160 0 rvc_160 = true := by decide +kernel
theorem kCk_161 : kCk 161 0 rvc_161 = true := by decide +kernel
theorem kCk_162 : kCk 162 0 rvc_162 = true := by decide +kernel
theorem kCk_163 : kCk 163 0 rvc_163 = true := by decide +kernel
theorem kCk_164 : kCk 164 0 rvc_164 = true := by decide +kernel
theorem kCk_165 : kCk 165 0 rvc_165 = true := by decide +kernel
theorem kCk_166 : kCk 166 0 rvc_166 = true := by decide +kernel
theorem kCk_167 : kCk 167 0 rvc_167 = true := by decide +kernel
theorem kCk_168 : kCk 168 0 rvc_168 = true := by decide +kernel
theorem kCk_169 : kCk 169 0 rvc_169 = true := by decide +kernel
theorem kCk_170 : kCk 170 0 rvc_170 = true := by decide +kernel
theorem kCk_171 : kCk 171 0 rvc_171 = true := by decide +kernel
theorem kCk_172 : kCk 172 0 rvc_172 = true := by decide +kernel
theorem kCk_173 : kCk 173 0 rvc_173 = true := by decide +kernel
theorem kCk_174 : kCk 174 0 rvc_174 = true := by decide +kernel
theorem kCk_175 : kCk 175 0 rvc_175 = true := by decide +kernel
theorem kCk_176 : kCk 176 0 rvc_176 = true := by decide +kernel
theorem kCk_177 : kCk 177 0 rvc_177 = true := by decide +kernel
theorem kCk_178 : kCk 178 0 rvc_178 = true := by decide +kernel
theorem kCk_179 : kCk 179 0 rvc_179 = true := by decide +kernel
theorem kCk_180 : kCk 180 0 rvc_180 = true := by decide +kernel
theorem kCk_181 : kCk 181 0 rvc_181 = true := by decide +kernel
theorem kCk_182 : kCk 182 0 rvc_182 = true := by decide +kernel
theorem kCk_183 : kCk 183 0 rvc_183 = true := by decide +kernel
theorem kCk_184 : kCk 184 0 rvc_184 = true := by decide +kernel
theorem kCk_185 : kCk 185 0 rvc_185 = true := by decide +kernel
theorem kCk_186 : kCk 186 0 rvc_186 = true := by decide +kernel
theorem kCk_187 : kCk 187 0 rvc_187 = true := by decide +kernel
theorem kCk_188 : kCk 188 0 rvc_188 = true := by decide +kernel
theorem kCk_189 : kCk 189 0 rvc_189 = true := by decide +kernel
theorem kCk_190 : kCk 190 0 rvc_190 = true := by decide +kernel
theorem kCk_191 : kCk 191 0 rvc_191 = true := by decide +kernel
def kAll : Nat → List (List rvI) → Prop
  | _, [] => True
  | i, c :: r => kCk i 0 c = true ∧ kAll (i + 1) r
theorem kAll_at : ∀ {L : List (List rvI)} {i j : Nat} {c : List rvI}, kAll i L → L[j]? = some c → kCk (i + j) 0 c = true
  | [], i, j, c, h, g => by cases g
  | y :: L, i, 0, c, h, g => by
    have g : some y = some c := g
    cases g
    exact h.1
  | y :: L, i, j + 1, c, h, g => by
    have e : i + (j + 1) = i + 1 + j := by omega
    rw [e]
    exact kAll_at h.2 g
theorem kAll_ok : kAll 0 rvCodes := ⟨kCk_0, kCk_1, kCk_2, kCk_3, kCk_4, kCk_5, kCk_6, kCk_7, kCk_8, kCk_9, kCk_10, kCk_11, kCk_12, kCk_13, kCk_14, kCk_15, kCk_16, kCk_17, kCk_18, kCk_19, kCk_20, kCk_21, kCk_22, kCk_23, kCk_24, kCk_25, kCk_26, kCk_27, kCk_28, kCk_29, kCk_30, kCk_31, kCk_32, kCk_33, kCk_34, kCk_35, kCk_36, kCk_37, kCk_38, kCk_39, kCk_40, kCk_41, kCk_42, kCk_43, kCk_44, kCk_45, kCk_46, kCk_47, kCk_48, kCk_49, kCk_50, kCk_51, kCk_52, kCk_53, kCk_54, kCk_55, kCk_56, kCk_57, kCk_58, kCk_59, kCk_60, kCk_61, kCk_62, kCk_63, kCk_64, kCk_65, kCk_66, kCk_67, kCk_68, kCk_69, kCk_70, kCk_71, kCk_72, kCk_73, kCk_74, kCk_75, kCk_76, kCk_77, kCk_78, kCk_79, kCk_80, kCk_81, kCk_82, kCk_83, kCk_84, kCk_85, kCk_86, kCk_87, kCk_88, kCk_89, kCk_90, kCk_91, kCk_92, kCk_93, kCk_94, kCk_95, kCk_96, kCk_97, kCk_98, kCk_99, kCk_100, kCk_101, kCk_102, kCk_103, kCk_104, kCk_105, kCk_106, kCk_107, kCk_108, kCk_109, kCk_110, kCk_111, kCk_112, kCk_113, kCk_114, kCk_115, kCk_116, kCk_117, kCk_118, kCk_119, kCk_120, kCk_121, kCk_122, kCk_123, kCk_124, kCk_125, kCk_126, kCk_127, kCk_128, kCk_129, kCk_130, kCk_131, kCk_132, kCk_133, kCk_134, kCk_135, kCk_136, kCk_137, kCk_138, kCk_139, kCk_140, kCk_141, kCk_142, kCk_143, kCk_144, kCk_145, kCk_146, kCk_147, kCk_148, kCk_149, kCk_150, kCk_151, kCk_152, kCk_153, kCk_154, kCk_155, kCk_156, kCk_157, kCk_158, kCk_159, kCk_160, kCk_161, kCk_162, kCk_163, kCk_164, kCk_165, kCk_166, kCk_167, kCk_168, kCk_169, kCk_170, kCk_171, kCk_172, kCk_173, kCk_174, kCk_175, kCk_176, kCk_177, kCk_178, kCk_179, kCk_180, kCk_181, kCk_182, kCk_183, kCk_184, kCk_185, kCk_186, kCk_187, kCk_188, kCk_189, kCk_190, kCk_191, trivial⟩
theorem kC1_at {i n : Nat} {x : rvI} (h : (rvCode i)[n]? = some x) : kC1 i n x = true := by
  unfold rvCode at h
  rw [List.getD_eq_getElem?_getD] at h
  cases g : rvCodes[i]? with
  | none =>
    rw [g] at h
    have h : ([] : List rvI)[n]? = some x := h
    cases h
  | some c =>
    rw [g] at h
    have h : c[n]? = some x := h
    have a := kAll_at kAll_ok g
    rw [Nat.zero_add] at a
    have b := kCk_at a h
    rw [Nat.zero_add] at b
    exact b
def Pb (σ : zS) : Prop := σ.1 0 0 8 = -1 ∨ σ.1 0 0 8 = 0
def kA (ls : zL) : Prop := ∃ k h x y l, ls = some (.inr (.inr (k, h))) :: some (.inl x) :: some (.inl y) :: l ∧ (¬ h = 0 ∨ y = -1)
def kC (i n : Nat) (ls : zL) (st : List zV) : Prop := kS i n = false ∨ (i = 0 ∧ n = 0 ∧ st = [] ∧ kA ls)
def zKb (rec : zR) : Prop := ∀ d i n ls st σ r s, rec d i n ls st σ = some (r, s) → kC i n ls st → Pb σ → Pb s
theorem kU {σ : zS} {k n j : Nat} {v : Int} (h : ¬ (k = 0 ∧ j = 8) ∨ ¬ n = 0 ∨ v = -1) (P : Pb σ) : Pb (zU σ k n j v) := by
  unfold Pb
  show ((if 0 = k ∧ 8 = j ∧ 0 = n then v else σ.1 0 0 8) = -1) ∨ ((if 0 = k ∧ 8 = j ∧ 0 = n then v else σ.1 0 0 8) = 0)
  by_cases e : 0 = k ∧ 8 = j ∧ 0 = n
  · rw [if_pos e]
    rcases h with h | h | h
    · exact absurd ⟨e.1.symm, e.2.1.symm⟩ h
    · exact absurd e.2.2.symm h
    · exact .inl h
  · rw [if_neg e]; exact P
theorem kK {k c : Nat} (h : (rvK k).1 = c) (hc : 1 ≤ c) : ¬ k = 0 := fun e => by
  subst e
  have x : (rvK 0).1 = 0 := rfl
  omega
theorem kv_0 {rec : zR} (hr : zKb rec) {d i n : Nat} {ls : zL} {st : List zV} {σ : zS} {a b c : Nat} {tb : List Nat} {r s} (h1 : kS i (n + 1) = false) (P : Pb σ) (h : zB_0 rec d i n ls st σ a b c tb = some (r, s)) : Pb s := by
  unfold zB_0 at h
  (repeat' split at h) <;> first | exact hr _ _ _ _ _ _ _ _ h (.inl h1) P | (cases h; exact P) | cases h
theorem kv_1 {rec : zR} (hr : zKb rec) {d i n : Nat} {ls : zL} {st : List zV} {σ : zS} {a b c : Nat} {tb : List Nat} {r s} (h1 : kS i (n + 1) = false) (P : Pb σ) (h : zB_1 rec d i n ls st σ a b c tb = some (r, s)) : Pb s := by
  unfold zB_1 at h
  (repeat' split at h) <;> first | exact hr _ _ _ _ _ _ _ _ h (.inl h1) P | (cases h; exact P) | cases h
theorem kv_2 {rec : zR} (hr : zKb rec) {d i n : Nat} {ls : zL} {st : List zV} {σ : zS} {a b c : Nat} {tb : List Nat} {r s} (h1 : kS i (n + 1) = false) (P : Pb σ) (h : zB_2 rec d i n ls st σ a b c tb = some (r, s)) : Pb s := by
  unfold zB_2 at h
  (repeat' split at h) <;> first | exact hr _ _ _ _ _ _ _ _ h (.inl h1) P | (cases h; exact P) | cases h
theorem kv_3 {rec : zR} (hr : zKb rec) {d i n : Nat} {ls : zL} {st : List zV} {σ : zS} {a b c : Nat} {tb : List Nat} {r s} (h1 : kS i (n + 1) = false) (P : Pb σ) (h : zB_3 rec d i n ls st σ a b c tb = some (r, s)) : Pb s := by
  unfold zB_3 at h
  (repeat' split at h) <;> first | exact hr _ _ _ _ _ _ _ _ h (.inl h1) P | (cases h; exact P) | cases h
theorem kv_4 {rec : zR} (hr : zKb rec) {d i n : Nat} {ls : zL} {st : List zV} {σ : zS} {a b c : Nat} {tb : List Nat} {r s} (h1 : kS i (n + 1) = false) (P : Pb σ) (h : zB_4 rec d i n ls st σ a b c tb = some (r, s)) : Pb s := by
  unfold zB_4 at h
  (repeat' split at h) <;> first | exact hr _ _ _ _ _ _ _ _ h (.inl h1) P | (cases h; exact P) | cases h
theorem kv_5 {rec : zR} (hr : zKb rec) {d i n : Nat} {ls : zL} {st : List zV} {σ : zS} {a b c : Nat} {tb : List Nat} {r s} (h1 : kS i (n + 1) = false) (P : Pb σ) (h : zB_5 rec d i n ls st σ a b c tb = some (r, s)) : Pb s := by
  unfold zB_5 at h
  (repeat' split at h) <;> first | exact hr _ _ _ _ _ _ _ _ h (.inl h1) P | (cases h; exact P) | cases h
theorem kv_6 {rec : zR} (hr : zKb rec) {d i n : Nat} {ls : zL} {st : List zV} {σ : zS} {a b c : Nat} {tb : List Nat} {r s} (h1 : kS i (n + 1) = false) (P : Pb σ) (h : zB_6 rec d i n ls st σ a b c tb = some (r, s)) : Pb s := by
  unfold zB_6 at h
  (repeat' split at h) <;> first | exact hr _ _ _ _ _ _ _ _ h (.inl h1) P | (cases h; exact P) | cases h
theorem kv_7 {rec : zR} (hr : zKb rec) {d i n : Nat} {ls : zL} {st : List zV} {σ : zS} {a b c : Nat} {tb : List Nat} {r s} (h1 : kS i (n + 1) = false) (P : Pb σ) (h : zB_7 rec d i n ls st σ a b c tb = some (r, s)) : Pb s := by
  unfold zB_7 at h
  (repeat' split at h) <;> first | exact hr _ _ _ _ _ _ _ _ h (.inl h1) P | (cases h; exact P) | cases h
theorem kv_8 {rec : zR} (hr : zKb rec) {d i n : Nat} {ls : zL} {st : List zV} {σ : zS} {a b c : Nat} {tb : List Nat} {r s} (h1 : kS i (n + 1) = false) (P : Pb σ) (h : zB_8 rec d i n ls st σ a b c tb = some (r, s)) : Pb s := by
  unfold zB_8 at h
  (repeat' split at h) <;> first | exact hr _ _ _ _ _ _ _ _ h (.inl h1) P | (cases h; exact P) | cases h
theorem kv_9 {rec : zR} (hr : zKb rec) {d i n : Nat} {ls : zL} {st : List zV} {σ : zS} {a b c : Nat} {tb : List Nat} {r s} (h1 : kS i (n + 1) = false) (P : Pb σ) (h : zB_9 rec d i n ls st σ a b c tb = some (r, s)) : Pb s := by
  unfold zB_9 at h
  (repeat' split at h) <;> first | exact hr _ _ _ _ _ _ _ _ h (.inl h1) P | (cases h; exact P) | cases h
theorem kv_10 {rec : zR} (hr : zKb rec) {d i n : Nat} {ls : zL} {st : List zV} {σ : zS} {a b c : Nat} {tb : List Nat} {r s} (h1 : kS i (n + 1) = false) (P : Pb σ) (h : zB_10 rec d i n ls st σ a b c tb = some (r, s)) : Pb s := by
  unfold zB_10 at h
  (repeat' split at h) <;> first | exact hr _ _ _ _ _ _ _ _ h (.inl h1) P | (cases h; exact P) | cases h
theorem kv_12 {rec : zR} (hr : zKb rec) {d i n : Nat} {ls : zL} {st : List zV} {σ : zS} {a b c : Nat} {tb : List Nat} {r s} (h1 : kS i (n + 1) = false) (P : Pb σ) (h : zB_12 rec d i n ls st σ a b c tb = some (r, s)) : Pb s := by
  unfold zB_12 at h
  (repeat' split at h) <;> first | exact hr _ _ _ _ _ _ _ _ h (.inl h1) P | (cases h; exact P) | cases h
theorem kv_14 {rec : zR} (hr : zKb rec) {d i n : Nat} {ls : zL} {st : List zV} {σ : zS} {a b c : Nat} {tb : List Nat} {r s} (h1 : kS i (n + 1) = false) (P : Pb σ) (h : zB_14 rec d i n ls st σ a b c tb = some (r, s)) : Pb s := by
  unfold zB_14 at h
  (repeat' split at h) <;> first | exact hr _ _ _ _ _ _ _ _ h (.inl h1) P | (cases h; exact P) | cases h
theorem kv_15 {rec : zR} (hr : zKb rec) {d i n : Nat} {ls : zL} {st : List zV} {σ : zS} {a b c : Nat} {tb : List Nat} {r s} (h1 : kS i (n + 1) = false) (P : Pb σ) (h : zB_15 rec d i n ls st σ a b c tb = some (r, s)) : Pb s := by
  unfold zB_15 at h
  (repeat' split at h) <;> first | exact hr _ _ _ _ _ _ _ _ h (.inl h1) P | (cases h; exact P) | cases h
theorem kv_16 {rec : zR} (hr : zKb rec) {d i n : Nat} {ls : zL} {st : List zV} {σ : zS} {a b c : Nat} {tb : List Nat} {r s} (h1 : kS i (n + 1) = false) (P : Pb σ) (h : zB_16 rec d i n ls st σ a b c tb = some (r, s)) : Pb s := by
  unfold zB_16 at h
  (repeat' split at h) <;> first | exact hr _ _ _ _ _ _ _ _ h (.inl h1) P | (cases h; exact P) | cases h
theorem kv_17 {rec : zR} (hr : zKb rec) {d i n : Nat} {ls : zL} {st : List zV} {σ : zS} {a b c : Nat} {tb : List Nat} {r s} (h1 : kS i (n + 1) = false) (P : Pb σ) (h : zB_17 rec d i n ls st σ a b c tb = some (r, s)) : Pb s := by
  unfold zB_17 at h
  (repeat' split at h) <;> first | exact hr _ _ _ _ _ _ _ _ h (.inl h1) P | (cases h; exact P) | cases h
theorem kv_18 {rec : zR} (hr : zKb rec) {d i n : Nat} {ls : zL} {st : List zV} {σ : zS} {a b c : Nat} {tb : List Nat} {r s} (h1 : kS i (n + 1) = false) (P : Pb σ) (h : zB_18 rec d i n ls st σ a b c tb = some (r, s)) : Pb s := by
  unfold zB_18 at h
  (repeat' split at h) <;> first | exact hr _ _ _ _ _ _ _ _ h (.inl h1) P | (cases h; exact P) | cases h
theorem kv_29 {rec : zR} (hr : zKb rec) {d i n : Nat} {ls : zL} {st : List zV} {σ : zS} {a b c : Nat} {tb : List Nat} {r s} (h1 : kS i (n + 1) = false) (P : Pb σ) (h : zB_29 rec d i n ls st σ a b c tb = some (r, s)) : Pb s := by
  unfold zB_29 at h
  (repeat' split at h) <;> first | exact hr _ _ _ _ _ _ _ _ h (.inl h1) P | (cases h; exact P) | cases h
theorem kv_30 {rec : zR} (hr : zKb rec) {d i n : Nat} {ls : zL} {st : List zV} {σ : zS} {a b c : Nat} {tb : List Nat} {r s} (h1 : kS i (n + 1) = false) (P : Pb σ) (h : zB_30 rec d i n ls st σ a b c tb = some (r, s)) : Pb s := by
  unfold zB_30 at h
  (repeat' split at h) <;> first | exact hr _ _ _ _ _ _ _ _ h (.inl h1) P | (cases h; exact P) | cases h
theorem kv_33 {rec : zR} (hr : zKb rec) {d i n : Nat} {ls : zL} {st : List zV} {σ : zS} {a b c : Nat} {tb : List Nat} {r s} (h1 : kS i (n + 1) = false) (P : Pb σ) (h : zB_33 rec d i n ls st σ a b c tb = some (r, s)) : Pb s := by
  unfold zB_33 at h
  (repeat' split at h) <;> first | exact hr _ _ _ _ _ _ _ _ h (.inl h1) P | (cases h; exact P) | cases h
theorem kv_34 {rec : zR} (hr : zKb rec) {d i n : Nat} {ls : zL} {st : List zV} {σ : zS} {a b c : Nat} {tb : List Nat} {r s} (h1 : kS i (n + 1) = false) (P : Pb σ) (h : zB_34 rec d i n ls st σ a b c tb = some (r, s)) : Pb s := by
  unfold zB_34 at h
  (repeat' split at h) <;> first | exact hr _ _ _ _ _ _ _ _ h (.inl h1) P | (cases h; exact P) | cases h
theorem kv_24 {rec : zR} (hr : zKb rec) {d i n : Nat} {ls : zL} {st : List zV} {σ : zS} {a b c : Nat} {tb : List Nat} {r s} (P : Pb σ) (h : zB_24 rec d i n ls st σ a b c tb = some (r, s)) : Pb s := by
  unfold zB_24 at h
  (repeat' split at h) <;> first | (cases h; exact P) | cases h
theorem kv_25 {rec : zR} (hr : zKb rec) {d i n : Nat} {ls : zL} {st : List zV} {σ : zS} {a b c : Nat} {tb : List Nat} {r s} (P : Pb σ) (h : zB_25 rec d i n ls st σ a b c tb = some (r, s)) : Pb s := by
  unfold zB_25 at h
  (repeat' split at h) <;> first | (cases h; exact P) | cases h
theorem kv_26 {rec : zR} (hr : zKb rec) {d i n : Nat} {ls : zL} {st : List zV} {σ : zS} {a b c : Nat} {tb : List Nat} {r s} (P : Pb σ) (h : zB_26 rec d i n ls st σ a b c tb = some (r, s)) : Pb s := by
  unfold zB_26 at h
  (repeat' split at h) <;> first | (cases h; exact P) | cases h
theorem kv_27 {rec : zR} (hr : zKb rec) {d i n : Nat} {ls : zL} {st : List zV} {σ : zS} {a b c : Nat} {tb : List Nat} {r s} (P : Pb σ) (h : zB_27 rec d i n ls st σ a b c tb = some (r, s)) : Pb s := by
  unfold zB_27 at h
  (repeat' split at h) <;> first | (cases h; exact P) | cases h
theorem kv_19 {rec : zR} (hr : zKb rec) {d i n : Nat} {ls : zL} {st : List zV} {σ : zS} {a b c : Nat} {tb : List Nat} {r s} (h1 : kS i (n + 1) = false) (h2 : kS i b = false) (P : Pb σ) (h : zB_19 rec d i n ls st σ a b c tb = some (r, s)) : Pb s := by
  unfold zB_19 at h
  (repeat' split at h) <;> first | exact hr _ _ _ _ _ _ _ _ h (.inl h1) P | exact hr _ _ _ _ _ _ _ _ h (.inl h2) P | (cases h; exact P) | cases h
theorem kv_20 {rec : zR} (hr : zKb rec) {d i n : Nat} {ls : zL} {st : List zV} {σ : zS} {a b c : Nat} {tb : List Nat} {r s} (h1 : kS i (n + 1) = false) (h2 : kS i b = false) (P : Pb σ) (h : zB_20 rec d i n ls st σ a b c tb = some (r, s)) : Pb s := by
  unfold zB_20 at h
  (repeat' split at h) <;> first | exact hr _ _ _ _ _ _ _ _ h (.inl h1) P | exact hr _ _ _ _ _ _ _ _ h (.inl h2) P | (cases h; exact P) | cases h
theorem kv_21 {rec : zR} (hr : zKb rec) {d i n : Nat} {ls : zL} {st : List zV} {σ : zS} {a b c : Nat} {tb : List Nat} {r s} (h2 : kS i b = false) (P : Pb σ) (h : zB_21 rec d i n ls st σ a b c tb = some (r, s)) : Pb s := by
  unfold zB_21 at h
  exact hr _ _ _ _ _ _ _ _ h (.inl h2) P
theorem kv_11 {rec : zR} (hr : zKb rec) {d i n : Nat} {ls : zL} {st : List zV} {σ : zS} {a b c : Nat} {tb : List Nat} {r s} (h1 : kS i (n + 1) = false) (h2 : ¬ (a = 0 ∧ b = 8)) (P : Pb σ) (h : zB_11 rec d i n ls st σ a b c tb = some (r, s)) : Pb s := by
  unfold zB_11 at h
  split at h
  · split at h
    · exact hr _ _ _ _ _ _ _ _ h (.inl h1) (kU (.inl h2) P)
    · cases h
  · cases h
theorem kv_13 {rec : zR} (hr : zKb rec) {d i n : Nat} {ls : zL} {st : List zV} {σ : zS} {a b c : Nat} {tb : List Nat} {r s} (h1 : kS i (n + 1) = false) (P : Pb σ) (h : zB_13 rec d i n ls st σ a b c tb = some (r, s)) : Pb s := by
  unfold zB_13 at h
  split at h
  · split at h
    · rename_i q
      exact hr _ _ _ _ _ _ _ _ h (.inl h1) (kU (.inl (fun e => kK q.1 (by decide) e.1)) P)
    · cases h
  · split at h
    · exact hr _ _ _ _ _ _ _ _ h (.inl h1) P
    · cases h
  · split at h
    · rename_i q
      exact hr _ _ _ _ _ _ _ _ h (.inl h1) (kU (.inl (fun e => kK q.1 (by decide) e.1)) P)
    · cases h
  · split at h
    · rename_i q
      exact hr _ _ _ _ _ _ _ _ h (.inl h1) (kU (.inl (fun e => kK q.1 (by decide) e.1)) P)
    · cases h
  · cases h
theorem kv_22 {rec : zR} (hr : zKb rec) {d i n : Nat} {ls : zL} {st : List zV} {σ : zS} {a b c : Nat} {tb : List Nat} {r s} (h2 : kS i b = false) (h3 : ∀ t, t ∈ tb → kS i t = false) (P : Pb σ) (h : zB_22 rec d i n ls st σ a b c tb = some (r, s)) : Pb s := by
  unfold zB_22 at h
  split at h
  · split at h
    · exact hr _ _ _ _ _ _ _ _ h (.inl h2) P
    · split at h
      · rename_i e
        exact hr _ _ _ _ _ _ _ _ h (.inl (h3 _ (List.mem_of_getElem? e))) P
      · cases h
  · cases h
theorem kS_0 {a : Nat} (h : ¬ a = 0) : kS a 0 = false := by
  unfold kS
  have e : Nat.beq a 0 = false := by
    cases a with
    | zero => exact absurd rfl h
    | succ a => rfl
  rw [e]
  simp
theorem kv_23 {rec : zR} (hr : zKb rec) {d i n : Nat} {ls : zL} {st : List zV} {σ : zS} {a b c : Nat} {tb : List Nat} {r s} (h1 : kS i (n + 1) = false) (h2 : ¬ a = 0) (P : Pb σ) (h : zB_23 rec d i n ls st σ a b c tb = some (r, s)) : Pb s := by
  unfold zB_23 at h
  split at h
  · cases h
  · split at h
    · split at h
      · rename_i e
        exact hr _ _ _ _ _ _ _ _ h (.inl h1) (hr _ _ _ _ _ _ _ _ e (.inl (kS_0 h2)) P)
      · cases h
    · cases h
theorem kCp {σ : zS} {k n i k2 n2 j m : Nat} (h : ¬ k2 = 0) (P : Pb σ) : Pb (zCp σ k n i k2 n2 j m) := by
  have e : (zCp σ k n i k2 n2 j m).1 0 0 8 = σ.1 0 0 8 := if_neg (fun q => h q.1.symm)
  unfold Pb
  rw [e]; exact P
theorem kv_28 {rec : zR} (hr : zKb rec) {d i n : Nat} {ls : zL} {st : List zV} {σ : zS} {a b c : Nat} {tb : List Nat} {r s} (h1 : kS i (n + 1) = false) (P : Pb σ) (h : zB_28 rec d i n ls st σ a b c tb = some (r, s)) : Pb s := by
  unfold zB_28 at h
  split at h
  · cases h
  · split at h
    · split at h
      · exact hr _ _ _ _ _ _ _ _ h (.inl h1) P
      · cases h
    · split at h
      · exact hr _ _ _ _ _ _ _ _ h (.inl h1) P
      · cases h
    · split at h
      · exact hr _ _ _ _ _ _ _ _ h (.inl h1) P
      · cases h
    · split at h
      · exact hr _ _ _ _ _ _ _ _ h (.inl h1) P
      · cases h
    · split at h
      · rename_i q
        exact hr _ _ _ _ _ _ _ _ h (.inl h1) (kCp (kK q.2.1.2 (by decide)) P)
      · cases h
    · split at h
      · exact hr _ _ _ _ _ _ _ _ h (.inl h1) P
      · cases h
    · split at h
      · exact hr _ _ _ _ _ _ _ _ h (.inl h1) P
      · cases h
    · cases h
theorem kv_B {rec : zR} (hr : zKb rec) {d i n : Nat} {ls : zL} {st : List zV} {σ : zS} {r s} {o : Option rvI} (hk : ∀ x, o = some x → kC1 i n x = true) (h0 : kS i n = false) (hw : kW i n = false) (P : Pb σ) (h : zBody rec d i n ls st σ o = some (r, s)) : Pb s := by
  unfold zBody at h
  split at h
  · cases h
  · rename_i pc op a b c tb
    have hk : (kS i n || ((!(Nat.beq op 11 && (Nat.beq a 0 && Nat.beq b 8))) && ((!(Nat.beq op 23 && Nat.beq a 0)) && (kW i n || ((!(kS i (n + 1)) || (Nat.beq op 21 || (Nat.ble 24 op && Nat.ble op 27))) && ((!(Nat.ble 19 op && Nat.ble op 22) || !(kS i b)) && (!(Nat.beq op 22) || tb.all (fun t => !(kS i t))))))))) = true := hk _ rfl
    rw [h0, hw, Bool.false_or, Bool.false_or] at hk
    simp only [Bool.and_eq_true] at hk
    obtain ⟨c1, c2, c3, c4, c5⟩ := hk
    have q1 : (Nat.beq op 21 || (Nat.ble 24 op && Nat.ble op 27)) = false → kS i (n + 1) = false := fun e => by
      rw [e, Bool.or_false] at c3
      simpa using c3
    have q2 : (Nat.ble 19 op && Nat.ble op 22) = true → kS i b = false := fun e => by
      rw [e] at c4
      simpa using c4
    have q3 : (Nat.beq op 22) = true → ∀ t, t ∈ tb → kS i t = false := fun e t ht => by
      rw [e] at c5
      have c5 : tb.all (fun t => !(kS i t)) = true := by simpa using c5
      rw [List.all_eq_true] at c5
      have := c5 t ht
      simpa using this
    split at h
    · exact kv_0 hr (q1 rfl) P h
    · exact kv_1 hr (q1 rfl) P h
    · exact kv_2 hr (q1 rfl) P h
    · exact kv_3 hr (q1 rfl) P h
    · exact kv_4 hr (q1 rfl) P h
    · exact kv_5 hr (q1 rfl) P h
    · exact kv_6 hr (q1 rfl) P h
    · exact kv_7 hr (q1 rfl) P h
    · exact kv_8 hr (q1 rfl) P h
    · exact kv_9 hr (q1 rfl) P h
    · exact kv_10 hr (q1 rfl) P h
    · exact kv_11 hr (q1 rfl) (fun e => by rw [e.1, e.2] at c1; exact absurd c1 (by decide)) P h
    · exact kv_12 hr (q1 rfl) P h
    · exact kv_13 hr (q1 rfl) P h
    · exact kv_14 hr (q1 rfl) P h
    · exact kv_15 hr (q1 rfl) P h
    · exact kv_16 hr (q1 rfl) P h
    · exact kv_17 hr (q1 rfl) P h
    · exact kv_18 hr (q1 rfl) P h
    · exact kv_19 hr (q1 rfl) (q2 rfl) P h
    · exact kv_20 hr (q1 rfl) (q2 rfl) P h
    · exact kv_21 hr (q2 rfl) P h
    · exact kv_22 hr (q2 rfl) (q3 rfl) P h
    · exact kv_23 hr (q1 rfl) (fun e => by rw [e] at c2; exact absurd c2 (by decide)) P h
    · exact kv_24 hr P h
    · exact kv_25 hr P h
    · exact kv_26 hr P h
    · exact kv_27 hr P h
    · exact kv_28 hr (q1 rfl) P h
    · exact kv_29 hr (q1 rfl) P h
    · exact kv_30 hr (q1 rfl) P h
    · exact kv_33 hr (q1 rfl) P h
    · exact kv_34 hr (q1 rfl) P h
    · cases h
theorem kw_10 {rec : zR} {d i n : Nat} {ls : zL} {st : List zV} {σ : zS} {c : Nat} {tb : List Nat} {x} (h : zB_10 rec d i n ls st σ 9 2 c tb = some x) : ∃ r, rec d i (n + 1) ls (.inr (.inr (0, 1)) :: r) σ = some x := by
  unfold zB_10 at h
  split at h
  · split at h
    · exact ⟨_, h⟩
    · cases h
  · cases h
theorem kw_2 {rec : zR} {d i n : Nat} {ls : zL} {st : List zV} {σ : zS} {a c : Nat} {tb : List Nat} {x} (h : zB_2 rec d i n ls st σ a 0 c tb = some x) : ∃ v, rec d i (n + 1) ls (.inl v :: st) σ = some x := by
  unfold zB_2 at h
  split at h
  · exact ⟨_, h⟩
  · rename_i q; cases q
  · rename_i q; cases q
  · cases h
theorem kw_2r {rec : zR} {d i n : Nat} {ls : zL} {st : List zV} {σ : zS} {a c : Nat} {tb : List Nat} {x} (h : zB_2 rec d i n ls st σ a 2 c tb = some x) : ∃ v, rec d i (n + 1) ls (.inr (.inr v) :: st) σ = some x := by
  unfold zB_2 at h
  split at h
  · rename_i q; cases q
  · rename_i q; cases q
  · exact ⟨_, h⟩
  · cases h
theorem kw_11 {rec : zR} {d i n : Nat} {ls : zL} {st : List zV} {σ : zS} {a b c k g : Nat} {v : Int} {tb : List Nat} {x} (h : zB_11 rec d i n ls (.inl v :: .inr (.inr (k, g)) :: st) σ a b c tb = some x) : rec d i (n + 1) ls st (zU σ a g b v) = some x := by
  unfold zB_11 at h
  replace h : (if k = a ∧ zFld (rvFt a b) v = true then rec d i (n + 1) ls st (zU σ a g b v) else none) = some x := h
  split at h
  · exact h
  · cases h
theorem kw_23 {rec : zR} (hr : zKb rec) {d i n : Nat} {ls : zL} {st : List zV} {σ : zS} {c k g : Nat} {u v : Int} {tb : List Nat} {r s} (h1 : kS i (n + 1) = false) (hg : ¬ g = 0 ∨ v = -1) (P : Pb σ) (h : zB_23 rec d i n ls (.inl v :: .inl u :: .inr (.inr (k, g)) :: st) σ 0 3 c tb = some (r, s)) : Pb s := by
  unfold zB_23 at h
  split at h
  · cases h
  · split at h
    · split at h
      · rename_i e
        exact hr _ _ _ _ _ _ _ _ h (.inl h1) (hr _ _ _ _ _ _ _ _ e (.inr ⟨rfl, rfl, rfl, k, g, u, v, _, rfl, hg⟩) P)
      · cases h
    · cases h
theorem kx_2 {F : Nat} (ih : ∀ m, m < F → zKb (zEv m)) {d : Nat} {ls : zL} {st : List zV} {σ : zS} {r s} (P : Pb σ) (h : zEv F d 2 3 ls st σ = some (r, s)) : Pb s := by
  obtain _ | F := F
  · cases h
  obtain ⟨⟨k, g⟩, h⟩ := kw_2r (rec := zEv F) (show zB_2 (zEv F) d 2 3 ls _ σ 0 2 0 [] = some (r, s) from h)
  obtain _ | F := F
  · cases h
  have h : zEv F d 2 5 ls (.inl (-1) :: _) σ = some (r, s) := h
  obtain _ | F := F
  · cases h
  have h : zEv F d 2 6 ls (.inl (-1) :: _) σ = some (r, s) := h
  obtain _ | F := F
  · cases h
  exact kw_23 (ih F (by omega)) (by decide) (.inr rfl) P (show zB_23 (zEv F) d 2 6 ls _ σ 0 3 84 [0] = some (r, s) from h)
theorem kx_81 {F : Nat} (ih : ∀ m, m < F → zKb (zEv m)) {d : Nat} {ls : zL} {st : List zV} {σ : zS} {r s} (P : Pb σ) (h : zEv F d 81 30 ls st σ = some (r, s)) : Pb s := by
  obtain _ | F := F
  · cases h
  obtain ⟨t, h⟩ := kw_10 (rec := zEv F) (show zB_10 (zEv F) d 81 30 ls _ σ 9 2 25 [] = some (r, s) from h)
  obtain _ | F := F
  · cases h
  obtain ⟨v1, h⟩ := kw_2 (rec := zEv F) (show zB_2 (zEv F) d 81 31 ls _ σ 1 0 0 [] = some (r, s) from h)
  obtain _ | F := F
  · cases h
  have h : zEv F d 81 33 ls (.inl (-1) :: _) σ = some (r, s) := h
  obtain _ | F := F
  · cases h
  exact kw_23 (ih F (by omega)) (by decide) (.inl (by decide)) P (show zB_23 (zEv F) d 81 33 ls _ σ 0 3 196 [0] = some (r, s) from h)
theorem kx_92 {F : Nat} (ih : ∀ m, m < F → zKb (zEv m)) {d : Nat} {ls : zL} {st : List zV} {σ : zS} {r s} (P : Pb σ) (h : zEv F d 92 40 ls st σ = some (r, s)) : Pb s := by
  obtain _ | F := F
  · cases h
  obtain ⟨t, h⟩ := kw_10 (rec := zEv F) (show zB_10 (zEv F) d 92 40 ls _ σ 9 2 25 [] = some (r, s) from h)
  obtain _ | F := F
  · cases h
  have h : zEv F d 92 42 ls (.inl (-1) :: _) σ = some (r, s) := h
  obtain _ | F := F
  · cases h
  have h : zEv F d 92 43 ls (.inl (-1) :: _) σ = some (r, s) := h
  obtain _ | F := F
  · cases h
  exact kw_23 (ih F (by omega)) (by decide) (.inl (by decide)) P (show zB_23 (zEv F) d 92 43 ls _ σ 0 3 196 [0] = some (r, s) from h)
theorem kx_96 {F : Nat} (ih : ∀ m, m < F → zKb (zEv m)) {d : Nat} {ls : zL} {st : List zV} {σ : zS} {r s} (P : Pb σ) (h : zEv F d 96 26 ls st σ = some (r, s)) : Pb s := by
  obtain _ | F := F
  · cases h
  obtain ⟨t, h⟩ := kw_10 (rec := zEv F) (show zB_10 (zEv F) d 96 26 ls _ σ 9 2 25 [] = some (r, s) from h)
  obtain _ | F := F
  · cases h
  have h : zEv F d 96 28 ls (.inl (-1) :: _) σ = some (r, s) := h
  obtain _ | F := F
  · cases h
  have h : zEv F d 96 29 ls (.inl (-1) :: _) σ = some (r, s) := h
  obtain _ | F := F
  · cases h
  exact kw_23 (ih F (by omega)) (by decide) (.inl (by decide)) P (show zB_23 (zEv F) d 96 29 ls _ σ 0 3 196 [0] = some (r, s) from h)
theorem kx_97 {F : Nat} (ih : ∀ m, m < F → zKb (zEv m)) {d : Nat} {ls : zL} {st : List zV} {σ : zS} {r s} (P : Pb σ) (h : zEv F d 97 16 ls st σ = some (r, s)) : Pb s := by
  obtain _ | F := F
  · cases h
  obtain ⟨t, h⟩ := kw_10 (rec := zEv F) (show zB_10 (zEv F) d 97 16 ls _ σ 9 2 25 [] = some (r, s) from h)
  obtain _ | F := F
  · cases h
  have h : zEv F d 97 18 ls (.inl (-1) :: _) σ = some (r, s) := h
  obtain _ | F := F
  · cases h
  have h : zEv F d 97 19 ls (.inl (-1) :: _) σ = some (r, s) := h
  obtain _ | F := F
  · cases h
  exact kw_23 (ih F (by omega)) (by decide) (.inl (by decide)) P (show zB_23 (zEv F) d 97 19 ls _ σ 0 3 196 [0] = some (r, s) from h)
theorem kx_115 {F : Nat} (ih : ∀ m, m < F → zKb (zEv m)) {d : Nat} {ls : zL} {st : List zV} {σ : zS} {r s} (P : Pb σ) (h : zEv F d 115 17 ls st σ = some (r, s)) : Pb s := by
  obtain _ | F := F
  · cases h
  obtain ⟨t, h⟩ := kw_10 (rec := zEv F) (show zB_10 (zEv F) d 115 17 ls _ σ 9 2 25 [] = some (r, s) from h)
  obtain _ | F := F
  · cases h
  have h : zEv F d 115 19 ls (.inl (-1) :: _) σ = some (r, s) := h
  obtain _ | F := F
  · cases h
  have h : zEv F d 115 20 ls (.inl (-1) :: _) σ = some (r, s) := h
  obtain _ | F := F
  · cases h
  exact kw_23 (ih F (by omega)) (by decide) (.inl (by decide)) P (show zB_23 (zEv F) d 115 20 ls _ σ 0 3 196 [0] = some (r, s) from h)
theorem kx_117 {F : Nat} (ih : ∀ m, m < F → zKb (zEv m)) {d : Nat} {ls : zL} {st : List zV} {σ : zS} {r s} (P : Pb σ) (h : zEv F d 117 5 ls st σ = some (r, s)) : Pb s := by
  obtain _ | F := F
  · cases h
  obtain ⟨t, h⟩ := kw_10 (rec := zEv F) (show zB_10 (zEv F) d 117 5 ls _ σ 9 2 25 [] = some (r, s) from h)
  obtain _ | F := F
  · cases h
  have h : zEv F d 117 7 ls (.inl (-1) :: _) σ = some (r, s) := h
  obtain _ | F := F
  · cases h
  obtain ⟨v2, h⟩ := kw_2 (rec := zEv F) (show zB_2 (zEv F) d 117 7 ls _ σ 1 0 0 [] = some (r, s) from h)
  obtain _ | F := F
  · cases h
  exact kw_23 (ih F (by omega)) (by decide) (.inl (by decide)) P (show zB_23 (zEv F) d 117 8 ls _ σ 0 3 196 [0] = some (r, s) from h)
theorem kx_0 {F : Nat} (ih : ∀ m, m < F → zKb (zEv m)) {d : Nat} {ls : zL} {σ : zS} {r s} (A : kA ls) (P : Pb σ) (h : zEv F d 0 0 ls [] σ = some (r, s)) : Pb s := by
  obtain ⟨k, g, x, y, l, rfl, A⟩ := A
  obtain _ | F := F
  · cases h
  have h : zEv F d 0 1 _ [.inr (.inr (k, g))] σ = some (r, s) := h
  obtain _ | F := F
  · cases h
  have h : zEv F d 0 2 _ [.inl x, .inr (.inr (k, g))] σ = some (r, s) := h
  obtain _ | F := F
  · cases h
  have h := kw_11 (rec := zEv F) (show zB_11 (zEv F) d 0 2 _ _ σ 0 7 43 [] = some (r, s) from h)
  obtain _ | F := F
  · cases h
  have h : zEv F d 0 4 _ [.inr (.inr (k, g))] _ = some (r, s) := h
  obtain _ | F := F
  · cases h
  have h : zEv F d 0 5 _ [.inl y, .inr (.inr (k, g))] _ = some (r, s) := h
  obtain _ | F := F
  · cases h
  have h := kw_11 (rec := zEv F) (show zB_11 (zEv F) d 0 5 _ _ _ 0 8 47 [] = some (r, s) from h)
  exact ih F (by omega) _ _ _ _ _ _ _ _ h (.inl (by decide)) (kU (.inr A) (kU (.inl (by decide)) P))
theorem zKb_E : ∀ F, zKb (zEv F) := by
  intro F
  induction F using Nat.strongRecOn with
  | ind F ih =>
    intro d i n ls st σ r s h C P
    rcases C with C | ⟨rfl, rfl, rfl, A⟩
    · cases hw : kW i n with
      | true =>
        unfold kW at hw
        simp only [Bool.or_eq_true, Bool.and_eq_true, Nat.beq_eq] at hw
        rcases hw with ((((((⟨rfl, rfl⟩ | ⟨rfl, rfl⟩) | ⟨rfl, rfl⟩) | ⟨rfl, rfl⟩) | ⟨rfl, rfl⟩) | ⟨rfl, rfl⟩) | ⟨rfl, rfl⟩)
        · exact kx_2 ih P h
        · exact kx_81 ih P h
        · exact kx_92 ih P h
        · exact kx_96 ih P h
        · exact kx_97 ih P h
        · exact kx_115 ih P h
        · exact kx_117 ih P h
      | false =>
        obtain _ | F := F
        · cases h
        exact kv_B (ih F (by omega)) (fun x e => kC1_at e) C hw P (show zBody (zEv F) d i n ls st σ ((rvCode i)[n]?) = some (r, s) from h)
    · exact kx_0 ih A P h
theorem zM_Pb {d i : Nat} {as : List zV} {σ : zS} {Q : Option zV → zS → Prop} (hi : ¬ i = 0) (h : zM d i as σ Q) (P : Pb σ) : zM d i as σ (fun r s => Q r s ∧ Pb s) := by
  obtain ⟨F, r, s, h1, h2⟩ := h
  exact ⟨F, r, s, h1, h2, zKb_E F _ _ _ _ _ _ _ _ h1 (.inl (kS_0 hi)) P⟩
