/-! The program's tables: the method by a tree. -/
def zjm (mi : Nat) : Option (List (List (Option zI))) := bif Nat.ble 242 mi then none else (bif Nat.ble 121 mi then (bif Nat.ble 181 mi then (bif Nat.ble 211 mi then (bif Nat.ble 226 mi then (bif Nat.ble 234 mi then (bif Nat.ble 238 mi then (bif Nat.ble 240 mi then (bif Nat.ble 241 mi then some zi_241 else some zi_240) else (bif Nat.ble 239 mi then some zi_239 else some zi_238)) else (bif Nat.ble 236 mi then (bif Nat.ble 237 mi then some zi_237 else some zi_236) else (bif Nat.ble 235 mi then some zi_235 else some zi_234))) else (bif Nat.ble 230 mi then (bif Nat.ble 232 mi then (bif Nat.ble 233 mi then some zi_233 else some zi_232) else (bif Nat.ble 231 mi then some zi_231 else some zi_230)) else (bif Nat.ble 228 mi then (bif Nat.ble 229 mi then some zi_229 else some zi_228) else (bif Nat.ble 227 mi then some zi_227 else some zi_226)))) else (bif Nat.ble 218 mi then (bif Nat.ble 222 mi then (bif Nat.ble 224 mi then (bif Nat.ble 225 mi then some zi_225 else some zi_224) else (bif Nat.ble 223 mi then some zi_223 else some zi_222)) else (bif Nat.ble 220 mi then (bif Nat.ble 221 mi then some zi_221 else some zi_220) else (bif Nat.ble 219 mi then some zi_219 else some zi_218))) else (bif Nat.ble 214 mi then (bif Nat.ble 216 mi then (bif Nat.ble 217 mi then some zi_217 else some zi_216) else (bif Nat.ble 215 mi then some zi_215 else some zi_214)) else (bif Nat.ble 212 mi then (bif Nat.ble 213 mi then some zi_213 else some zi_212) else some zi_211)))) else (bif Nat.ble 196 mi then (bif Nat.ble 203 mi then (bif Nat.ble 207 mi then (bif Nat.ble 209 mi then (bif Nat.ble 210 mi then some zi_210 else some zi_209) else (bif Nat.ble 208 mi then some zi_208 else some zi_207)) else (bif Nat.ble 205 mi then (bif Nat.ble 206 mi then some zi_206 else some zi_205) else (bif Nat.ble 204 mi then some zi_204 else some zi_203))) else (bif Nat.ble 199 mi then (bif Nat.ble 201 mi then (bif Nat.ble 202 mi then some zi_202 else some zi_201) else (bif Nat.ble 200 mi then some zi_200 else some zi_199)) else (bif Nat.ble 197 mi then (bif Nat.ble 198 mi then some zi_198 else some zi_197) else some zi_196))) else (bif Nat.ble 188 mi then (bif Nat.ble 192 mi then (bif Nat.ble 194 mi then (bif Nat.ble 195 mi then some zi_195 else some zi_194) else (bif Nat.ble 193 mi then some zi_193 else some zi_192)) else (bif Nat.ble 190 mi then (bif Nat.ble 191 mi then some zi_191 else some zi_190) else (bif Nat.ble 189 mi then some zi_189 else some zi_188))) else (bif Nat.ble 184 mi then (bif Nat.ble 186 mi then (bif Nat.ble 187 mi then some zi_187 else some zi_186) else (bif Nat.ble 185 mi then some zi_185 else some zi_184)) else (bif Nat.ble 182 mi then (bif Nat.ble 183 mi then some zi_183 else some zi_182) else some zi_181))))) else (bif Nat.ble 151 mi then (bif Nat.ble 166 mi then (bif Nat.ble 173 mi then (bif Nat.ble 177 mi then (bif Nat.ble 179 mi then (bif Nat.ble 180 mi then some zi_180 else some zi_179) else (bif Nat.ble 178 mi then some zi_178 else some zi_177)) else (bif Nat.ble 175 mi then (bif Nat.ble 176 mi then some zi_176 else some zi_175) else (bif Nat.ble 174 mi then some zi_174 else some zi_173))) else (bif Nat.ble 169 mi then (bif Nat.ble 171 mi then (bif Nat.ble 172 mi then some zi_172 else some zi_171) else (bif Nat.ble 170 mi then some zi_170 else some zi_169)) else (bif Nat.ble 167 mi then (bif Nat.ble 168 mi then some zi_168 else some zi_167) else some zi_166))) else (bif Nat.ble 158 mi then (bif Nat.ble 162 mi then (bif Nat.ble 164 mi then (bif Nat.ble 165 mi then some zi_165 else some zi_164) else (bif Nat.ble 163 mi then some zi_163 else some zi_162)) else (bif Nat.ble 160 mi then (bif Nat.ble 161 mi then some zi_161 else some zi_160) else (bif Nat.ble 159 mi then some zi_159 else some zi_158))) else (bif Nat.ble 154 mi then (bif Nat.ble 156 mi then (bif Nat.ble 157 mi then some zi_157 else some zi_156) else (bif Nat.ble 155 mi then some zi_155 else some zi_154)) else (bif Nat.ble 152 mi then (bif Nat.ble 153 mi then some zi_153 else some zi_152) else some zi_151)))) else (bif Nat.ble 136 mi then (bif Nat.ble 143 mi then (bif Nat.ble 147 mi then (bif Nat.ble 149 mi then (bif Nat.ble 150 mi then some zi_150 else some zi_149) else (bif Nat.ble 148 mi then some zi_148 else some zi_147)) else (bif Nat.ble 145 mi then (bif Nat.ble 146 mi then some zi_146 else some zi_145) else (bif Nat.ble 144 mi then some zi_144 else some zi_143))) else (bif Nat.ble 139 mi then (bif Nat.ble 141 mi then (bif Nat.ble 142 mi then some zi_142 else some zi_141) else (bif Nat.ble 140 mi then some zi_140 else some zi_139)) else (bif Nat.ble 137 mi then (bif Nat.ble 138 mi then some zi_138 else some zi_137) else some zi_136))) else (bif Nat.ble 128 mi then (bif Nat.ble 132 mi then (bif Nat.ble 134 mi then (bif Nat.ble 135 mi then some zi_135 else some zi_134) else (bif Nat.ble 133 mi then some zi_133 else some zi_132)) else (bif Nat.ble 130 mi then (bif Nat.ble 131 mi then some zi_131 else some zi_130) else (bif Nat.ble 129 mi then some zi_129 else some zi_128))) else (bif Nat.ble 124 mi then (bif Nat.ble 126 mi then (bif Nat.ble 127 mi then some zi_127 else some zi_126) else (bif Nat.ble 125 mi then some zi_125 else some zi_124)) else (bif Nat.ble 122 mi then (bif Nat.ble 123 mi then some zi_123 else some zi_122) else some zi_121)))))) else (bif Nat.ble 60 mi then (bif Nat.ble 90 mi then (bif Nat.ble 105 mi then (bif Nat.ble 113 mi then (bif Nat.ble 117 mi then (bif Nat.ble 119 mi then (bif Nat.ble 120 mi then some zi_120 else some zi_119) else (bif Nat.ble 118 mi then some zi_118 else some zi_117)) else (bif Nat.ble 115 mi then (bif Nat.ble 116 mi then some zi_116 else some zi_115) else (bif Nat.ble 114 mi then some zi_114 else some zi_113))) else (bif Nat.ble 109 mi then (bif Nat.ble 111 mi then (bif Nat.ble 112 mi then some zi_112 else some zi_111) else (bif Nat.ble 110 mi then some zi_110 else some zi_109)) else (bif Nat.ble 107 mi then (bif Nat.ble 108 mi then some zi_108 else some zi_107) else (bif Nat.ble 106 mi then some zi_106 else some zi_105)))) else (bif Nat.ble 97 mi then (bif Nat.ble 101 mi then (bif Nat.ble 103 mi then (bif Nat.ble 104 mi then some zi_104 else some zi_103) else (bif Nat.ble 102 mi then some zi_102 else some zi_101)) else (bif Nat.ble 99 mi then (bif Nat.ble 100 mi then some zi_100 else some zi_99) else (bif Nat.ble 98 mi then some zi_98 else some zi_97))) else (bif Nat.ble 93 mi then (bif Nat.ble 95 mi then (bif Nat.ble 96 mi then some zi_96 else some zi_95) else (bif Nat.ble 94 mi then some zi_94 else some zi_93)) else (bif Nat.ble 91 mi then (bif Nat.ble 92 mi then some zi_92 else some zi_91) else some zi_90)))) else (bif Nat.ble 75 mi then (bif Nat.ble 82 mi then (bif Nat.ble 86 mi then (bif Nat.ble 88 mi then (bif Nat.ble 89 mi then some zi_89 else some zi_88) else (bif Nat.ble 87 mi then some zi_87 else some zi_86)) else (bif Nat.ble 84 mi then (bif Nat.ble 85 mi then some zi_85 else some zi_84) else (bif Nat.ble 83 mi then some zi_83 else some zi_82))) else (bif Nat.ble 78 mi then (bif Nat.ble 80 mi then (bif Nat.ble 81 mi then some zi_81 else some zi_80) else (bif Nat.ble 79 mi then some zi_79 else some zi_78)) else (bif Nat.ble 76 mi then (bif Nat.ble 77 mi then some zi_77 else some zi_76) else some zi_75))) else (bif Nat.ble 67 mi then (bif Nat.ble 71 mi then (bif Nat.ble 73 mi then (bif Nat.ble 74 mi then some zi_74 else some zi_73) else (bif Nat.ble 72 mi then some zi_72 else some zi_71)) else (bif Nat.ble 69 mi then (bif Nat.ble 70 mi then some zi_70 else some zi_69) else (bif Nat.ble 68 mi then some zi_68 else some zi_67))) else (bif Nat.ble 63 mi then (bif Nat.ble 65 mi then (bif Nat.ble 66 mi then some zi_66 else some zi_65) else (bif Nat.ble 64 mi then some zi_64 else some zi_63)) else (bif Nat.ble 61 mi then (bif Nat.ble 62 mi then some zi_62 else some zi_61) else some zi_60))))) else (bif Nat.ble 30 mi then (bif Nat.ble 45 mi then (bif Nat.ble 52 mi then (bif Nat.ble 56 mi then (bif Nat.ble 58 mi then (bif Nat.ble 59 mi then some zi_59 else some zi_58) else (bif Nat.ble 57 mi then some zi_57 else some zi_56)) else (bif Nat.ble 54 mi then (bif Nat.ble 55 mi then some zi_55 else some zi_54) else (bif Nat.ble 53 mi then some zi_53 else some zi_52))) else (bif Nat.ble 48 mi then (bif Nat.ble 50 mi then (bif Nat.ble 51 mi then some zi_51 else some zi_50) else (bif Nat.ble 49 mi then some zi_49 else some zi_48)) else (bif Nat.ble 46 mi then (bif Nat.ble 47 mi then some zi_47 else some zi_46) else some zi_45))) else (bif Nat.ble 37 mi then (bif Nat.ble 41 mi then (bif Nat.ble 43 mi then (bif Nat.ble 44 mi then some zi_44 else some zi_43) else (bif Nat.ble 42 mi then some zi_42 else some zi_41)) else (bif Nat.ble 39 mi then (bif Nat.ble 40 mi then some zi_40 else some zi_39) else (bif Nat.ble 38 mi then some zi_38 else some zi_37))) else (bif Nat.ble 33 mi then (bif Nat.ble 35 mi then (bif Nat.ble 36 mi then some zi_36 else some zi_35) else (bif Nat.ble 34 mi then some zi_34 else some zi_33)) else (bif Nat.ble 31 mi then (bif Nat.ble 32 mi then some zi_32 else some zi_31) else some zi_30)))) else (bif Nat.ble 15 mi then (bif Nat.ble 22 mi then (bif Nat.ble 26 mi then (bif Nat.ble 28 mi then (bif Nat.ble 29 mi then some zi_29 else some zi_28) else (bif Nat.ble 27 mi then some zi_27 else some zi_26)) else (bif Nat.ble 24 mi then (bif Nat.ble 25 mi then some zi_25 else some zi_24) else (bif Nat.ble 23 mi then some zi_23 else some zi_22))) else (bif Nat.ble 18 mi then (bif Nat.ble 20 mi then (bif Nat.ble 21 mi then some zi_21 else some zi_20) else (bif Nat.ble 19 mi then some zi_19 else some zi_18)) else (bif Nat.ble 16 mi then (bif Nat.ble 17 mi then some zi_17 else some zi_16) else some zi_15))) else (bif Nat.ble 7 mi then (bif Nat.ble 11 mi then (bif Nat.ble 13 mi then (bif Nat.ble 14 mi then some zi_14 else some zi_13) else (bif Nat.ble 12 mi then some zi_12 else some zi_11)) else (bif Nat.ble 9 mi then (bif Nat.ble 10 mi then some zi_10 else some zi_9) else (bif Nat.ble 8 mi then some zi_8 else some zi_7))) else (bif Nat.ble 3 mi then (bif Nat.ble 5 mi then (bif Nat.ble 6 mi then some zi_6 else some zi_5) else (bif Nat.ble 4 mi then some zi_4 else some zi_3)) else (bif Nat.ble 1 mi then (bif Nat.ble 2 mi then some zi_2 else some zi_1) else some zi_0)))))))
theorem zjm_eq : ∀ {mi : Nat} {t : List (List (Option zI))}, zjm mi = some t → (match zget zia (mi / 16) with
  | some g => zget g (mi % 16)
  | none => none) = some t
  | 0, _, h => h
  | 1, _, h => h
  | 2, _, h => h
  | 3, _, h => h
  | 4, _, h => h
  | 5, _, h => h
  | 6, _, h => h
  | 7, _, h => h
  | 8, _, h => h
  | 9, _, h => h
  | 10, _, h => h
  | 11, _, h => h
  | 12, _, h => h
  | 13, _, h => h
  | 14, _, h => h
  | 15, _, h => h
  | 16, _, h => h
  | 17, _, h => h
  | 18, _, h => h
  | 19, _, h => h
  | 20, _, h => h
  | 21, _, h => h
  | 22, _, h => h
  | 23, _, h => h
  | 24, _, h => h
  | 25, _, h => h
  | 26, _, h => h
  | 27, _, h => h
  | 28, _, h => h
  | 29, _, h => h
  | 30, _, h => h
  | 31, _, h => h
  | 32, _, h => h
  | 33, _, h => h
  | 34, _, h => h
  | 35, _, h => h
  | 36, _, h => h
  | 37, _, h => h
  | 38, _, h => h
  | 39, _, h => h
  | 40, _, h => h
  | 41, _, h => h
  | 42, _, h => h
  | 43, _, h => h
  | 44, _, h => h
  | 45, _, h => h
  | 46, _, h => h
  | 47, _, h => h
  | 48, _, h => h
  | 49, _, h => h
  | 50, _, h => h
  | 51, _, h => h
  | 52, _, h => h
  | 53, _, h => h
  | 54, _, h => h
  | 55, _, h => h
  | 56, _, h => h
  | 57, _, h => h
  | 58, _, h => h
  | 59, _, h => h
  | 60, _, h => h
  | 61, _, h => h
  | 62, _, h => h
  | 63, _, h => h
  | 64, _, h => h
  | 65, _, h => h
  | 66, _, h => h
  | 67, _, h => h
  | 68, _, h => h
  | 69, _, h => h
  | 70, _, h => h
  | 71, _, h => h
  | 72, _, h => h
  | 73, _, h => h
  | 74, _, h => h
  | 75, _, h => h
  | 76, _, h => h
  | 77, _, h => h
  | 78, _, h => h
  | 79, _, h => h
  | 80, _, h => h
  | 81, _, h => h
  | 82, _, h => h
  | 83, _, h => h
  | 84, _, h => h
  | 85, _, h => h
  | 86, _, h => h
  | 87, _, h => h
  | 88, _, h => h
  | 89, _, h => h
  | 90, _, h => h
  | 91, _, h => h
  | 92, _, h => h
  | 93, _, h => h
  | 94, _, h => h
  | 95, _, h => h
  | 96, _, h => h
  | 97, _, h => h
  | 98, _, h => h
  | 99, _, h => h
  | 100, _, h => h
  | 101, _, h => h
  | 102, _, h => h
  | 103, _, h => h
  | 104, _, h => h
  | 105, _, h => h
  | 106, _, h => h
  | 107, _, h => h
  | 108, _, h => h
  | 109, _, h => h
  | 110, _, h => h
  | 111, _, h => h
  | 112, _, h => h
  | 113, _, h => h
  | 114, _, h => h
  | 115, _, h => h
  | 116, _, h => h
  | 117, _, h => h
  | 118, _, h => h
  | 119, _, h => h
  | 120, _, h => h
  | 121, _, h => h
  | 122, _, h => h
  | 123, _, h => h
  | 124, _, h => h
  | 125, _, h => h
  | 126, _, h => h
  | 127, _, h => h
  | 128, _, h => h
  | 129, _, h => h
  | 130, _, h => h
  | 131, _, h => h
  | 132, _, h => h
  | 133, _, h => h
  | 134, _, h => h
  | 135, _, h => h
  | 136, _, h => h
  | 137, _, h => h
  | 138, _, h => h
  | 139, _, h => h
  | 140, _, h => h
  | 141, _, h => h
  | 142, _, h => h
  | 143, _, h => h
  | 144, _, h => h
  | 145, _, h => h
  | 146, _, h => h
  | 147, _, h => h
  | 148, _, h => h
  | 149, _, h => h
  | 150, _, h => h
  | 151, _, h => h
  | 152, _, h => h
  | 153, _, h => h
  | 154, _, h => h
  | 155, _, h => h
  | 156, _, h => h
  | 157, _, h => h
  | 158, _, h => h
  | 159, _, h => h
  | 160, _, h => h
  | 161, _, h => h
  | 162, _, h => h
  | 163, _, h => h
  | 164, _, h => h
  | 165, _, h => h
  | 166, _, h => h
  | 167, _, h => h
  | 168, _, h => h
  | 169, _, h => h
  | 170, _, h => h
  | 171, _, h => h
  | 172, _, h => h
  | 173, _, h => h
  | 174, _, h => h
  | 175, _, h => h
  | 176, _, h => h
  | 177, _, h => h
  | 178, _, h => h
  | 179, _, h => h
  | 180, _, h => h
  | 181, _, h => h
  | 182, _, h => h
  | 183, _, h => h
  | 184, _, h => h
  | 185, _, h => h
  | 186, _, h => h
  | 187, _, h => h
  | 188, _, h => h
  | 189, _, h => h
  | 190, _, h => h
  | 191, _, h => h
  | 192, _, h => h
  | 193, _, h => h
  | 194, _, h => h
  | 195, _, h => h
  | 196, _, h => h
  | 197, _, h => h
  | 198, _, h => h
  | 199, _, h => h
  | 200, _, h => h
  | 201, _, h => h
  | 202, _, h => h
  | 203, _, h => h
  | 204, _, h => h
  | 205, _, h => h
  | 206, _, h => h
  | 207, _, h => h
  | 208, _, h => h
  | 209, _, h => h
  | 210, _, h => h
  | 211, _, h => h
  | 212, _, h => h
  | 213, _, h => h
  | 214, _, h => h
  | 215, _, h => h
  | 216, _, h => h
  | 217, _, h => h
  | 218, _, h => h
  | 219, _, h => h
  | 220, _, h => h
  | 221, _, h => h
  | 222, _, h => h
  | 223, _, h => h
  | 224, _, h => h
  | 225, _, h => h
  | 226, _, h => h
  | 227, _, h => h
  | 228, _, h => h
  | 229, _, h => h
  | 230, _, h => h
  | 231, _, h => h
  | 232, _, h => h
  | 233, _, h => h
  | 234, _, h => h
  | 235, _, h => h
  | 236, _, h => h
  | 237, _, h => h
  | 238, _, h => h
  | 239, _, h => h
  | 240, _, h => h
  | 241, _, h => h
  | n + 242, _, h => by
    unfold zjm at h
    rw [show Nat.ble 242 (n + 242) = true by rw [Nat.ble_eq]; omega] at h
    cases h
noncomputable def zif3 (mi pc : Nat) : Option zI := match zjm mi with
  | some t => (match zgf t (pc / 16) with
    | some r => (match zgf r (pc % 16) with
      | some e => e
      | none => none)
    | none => none)
  | none => none
theorem zif3_eq {mi pc : Nat} {e : zI} (h : zif3 mi pc = some e) : zi mi pc = some e := by
  unfold zif3 at h
  split at h
  · rename_i t ht
    have ht := zjm_eq ht
    rw [zgf_eq] at h
    split at h
    · rename_i r hr
      rw [zgf_eq] at h
      split at h
      · rename_i e' he
        subst h
        unfold zi
        split at ht
        · rename_i g hg
          rw [hg]
          dsimp only
          rw [ht]
          dsimp only
          rw [hr]
          dsimp only
          rw [he]
        · cases ht
      · cases h
    · cases h
  · cases h
