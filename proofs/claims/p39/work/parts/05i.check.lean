theorem z_and {a b : Bool} (ha : a = true) (hb : b = true) : (a && b) = true := by rw [ha, hb]; rfl
def zckG : Nat → List (List (List (Option zI))) → Bool
  | _, [] => true
  | mi, t :: r => zckM mi t && zckG (mi + 1) r
def zckA : Nat → List (List (List (List (Option zI)))) → Bool
  | _, [] => true
  | mi, g :: r => zckG mi g && zckA (mi + 16) r
theorem zckG_0 : zckG 0 [zi_0, zi_1, zi_2, zi_3, zi_4, zi_5, zi_6, zi_7, zi_8, zi_9, zi_10, zi_11, zi_12, zi_13, zi_14, zi_15] = true := z_and zck_0 (z_and zck_1 (z_and zck_2 (z_and zck_3 (z_and zck_4 (z_and zck_5 (z_and zck_6 (z_and zck_7 (z_and zck_8 (z_and zck_9 (z_and zck_10 (z_and zck_11 (z_and zck_12 (z_and zck_13 (z_and zck_14 (z_and zck_15 (rfl))))))))))))))))
theorem zckG_1 : zckG 16 [zi_16, zi_17, zi_18, zi_19, zi_20, zi_21, zi_22, zi_23, zi_24, zi_25, zi_26, zi_27, zi_28, zi_29, zi_30, zi_31] = true := z_and zck_16 (z_and zck_17 (z_and zck_18 (z_and zck_19 (z_and zck_20 (z_and zck_21 (z_and zck_22 (z_and zck_23 (z_and zck_24 (z_and zck_25 (z_and zck_26 (z_and zck_27 (z_and zck_28 (z_and zck_29 (z_and zck_30 (z_and zck_31 (rfl))))))))))))))))
theorem zckG_2 : zckG 32 [zi_32, zi_33, zi_34, zi_35, zi_36, zi_37, zi_38, zi_39, zi_40, zi_41, zi_42, zi_43, zi_44, zi_45, zi_46, zi_47] = true := z_and zck_32 (z_and zck_33 (z_and zck_34 (z_and zck_35 (z_and zck_36 (z_and zck_37 (z_and zck_38 (z_and zck_39 (z_and zck_40 (z_and zck_41 (z_and zck_42 (z_and zck_43 (z_and zck_44 (z_and zck_45 (z_and zck_46 (z_and zck_47 (rfl))))))))))))))))
theorem zckG_3 : zckG 48 [zi_48, zi_49, zi_50, zi_51, zi_52, zi_53, zi_54, zi_55, zi_56, zi_57, zi_58, zi_59, zi_60, zi_61, zi_62, zi_63] = true := z_and zck_48 (z_and zck_49 (z_and zck_50 (z_and zck_51 (z_and zck_52 (z_and zck_53 (z_and zck_54 (z_and zck_55 (z_and zck_56 (z_and zck_57 (z_and zck_58 (z_and zck_59 (z_and zck_60 (z_and zck_61 (z_and zck_62 (z_and zck_63 (rfl))))))))))))))))
theorem zckG_4 : zckG 64 [zi_64, zi_65, zi_66, zi_67, zi_68, zi_69, zi_70, zi_71, zi_72, zi_73, zi_74, zi_75, zi_76, zi_77, zi_78, zi_79] = true := z_and zck_64 (z_and zck_65 (z_and zck_66 (z_and zck_67 (z_and zck_68 (z_and zck_69 (z_and zck_70 (z_and zck_71 (z_and zck_72 (z_and zck_73 (z_and zck_74 (z_and zck_75 (z_and zck_76 (z_and zck_77 (z_and zck_78 (z_and zck_79 (rfl))))))))))))))))
theorem zckG_5 : zckG 80 [zi_80, zi_81, zi_82, zi_83, zi_84, zi_85, zi_86, zi_87, zi_88, zi_89, zi_90, zi_91, zi_92, zi_93, zi_94, zi_95] = true := z_and zck_80 (z_and zck_81 (z_and zck_82 (z_and zck_83 (z_and zck_84 (z_and zck_85 (z_and zck_86 (z_and zck_87 (z_and zck_88 (z_and zck_89 (z_and zck_90 (z_and zck_91 (z_and zck_92 (z_and zck_93 (z_and zck_94 (z_and zck_95 (rfl))))))))))))))))
theorem zckG_6 : zckG 96 [zi_96, zi_97, zi_98, zi_99, zi_100, zi_101, zi_102, zi_103, zi_104, zi_105, zi_106, zi_107, zi_108, zi_109, zi_110, zi_111] = true := z_and zck_96 (z_and zck_97 (z_and zck_98 (z_and zck_99 (z_and zck_100 (z_and zck_101 (z_and zck_102 (z_and zck_103 (z_and zck_104 (z_and zck_105 (z_and zck_106 (z_and zck_107 (z_and zck_108 (z_and zck_109 (z_and zck_110 (z_and zck_111 (rfl))))))))))))))))
theorem zckG_7 : zckG 112 [zi_112, zi_113, zi_114, zi_115, zi_116, zi_117, zi_118, zi_119, zi_120, zi_121, zi_122, zi_123, zi_124, zi_125, zi_126, zi_127] = true := z_and zck_112 (z_and zck_113 (z_and zck_114 (z_and zck_115 (z_and zck_116 (z_and zck_117 (z_and zck_118 (z_and zck_119 (z_and zck_120 (z_and zck_121 (z_and zck_122 (z_and zck_123 (z_and zck_124 (z_and zck_125 (z_and zck_126 (z_and zck_127 (rfl))))))))))))))))
theorem zckG_8 : zckG 128 [zi_128, zi_129, zi_130, zi_131, zi_132, zi_133, zi_134, zi_135, zi_136, zi_137, zi_138, zi_139, zi_140, zi_141, zi_142, zi_143] = true := z_and zck_128 (z_and zck_129 (z_and zck_130 (z_and zck_131 (z_and zck_132 (z_and zck_133 (z_and zck_134 (z_and zck_135 (z_and zck_136 (z_and zck_137 (z_and zck_138 (z_and zck_139 (z_and zck_140 (z_and zck_141 (z_and zck_142 (z_and zck_143 (rfl))))))))))))))))
theorem zckG_9 : zckG 144 [zi_144, zi_145, zi_146, zi_147, zi_148, zi_149, zi_150, zi_151, zi_152, zi_153, zi_154, zi_155, zi_156, zi_157, zi_158, zi_159] = true := z_and zck_144 (z_and zck_145 (z_and zck_146 (z_and zck_147 (z_and zck_148 (z_and zck_149 (z_and zck_150 (z_and zck_151 (z_and zck_152 (z_and zck_153 (z_and zck_154 (z_and zck_155 (z_and zck_156 (z_and zck_157 (z_and zck_158 (z_and zck_159 (rfl))))))))))))))))
theorem zckG_10 : zckG 160 [zi_160, zi_161, zi_162, zi_163, zi_164, zi_165, zi_166, zi_167, zi_168, zi_169, zi_170, zi_171, zi_172, zi_173, zi_174, zi_175] = true := z_and zck_160 (z_and zck_161 (z_and zck_162 (z_and zck_163 (z_and zck_164 (z_and zck_165 (z_and zck_166 (z_and zck_167 (z_and zck_168 (z_and zck_169 (z_and zck_170 (z_and zck_171 (z_and zck_172 (z_and zck_173 (z_and zck_174 (z_and zck_175 (rfl))))))))))))))))
theorem zckG_11 : zckG 176 [zi_176, zi_177, zi_178, zi_179, zi_180, zi_181, zi_182, zi_183, zi_184, zi_185, zi_186, zi_187, zi_188, zi_189, zi_190, zi_191] = true := z_and zck_176 (z_and zck_177 (z_and zck_178 (z_and zck_179 (z_and zck_180 (z_and zck_181 (z_and zck_182 (z_and zck_183 (z_and zck_184 (z_and zck_185 (z_and zck_186 (z_and zck_187 (z_and zck_188 (z_and zck_189 (z_and zck_190 (z_and zck_191 (rfl))))))))))))))))
theorem zckG_12 : zckG 192 [zi_192, zi_193, zi_194, zi_195, zi_196, zi_197, zi_198, zi_199, zi_200, zi_201, zi_202, zi_203, zi_204, zi_205, zi_206, zi_207] = true := z_and zck_192 (z_and zck_193 (z_and zck_194 (z_and zck_195 (z_and zck_196 (z_and zck_197 (z_and zck_198 (z_and zck_199 (z_and zck_200 (z_and zck_201 (z_and zck_202 (z_and zck_203 (z_and zck_204 (z_and zck_205 (z_and zck_206 (z_and zck_207 (rfl))))))))))))))))
theorem zckG_13 : zckG 208 [zi_208, zi_209, zi_210, zi_211, zi_212, zi_213, zi_214, zi_215, zi_216, zi_217, zi_218, zi_219, zi_220, zi_221, zi_222, zi_223] = true := z_and zck_208 (z_and zck_209 (z_and zck_210 (z_and zck_211 (z_and zck_212 (z_and zck_213 (z_and zck_214 (z_and zck_215 (z_and zck_216 (z_and zck_217 (z_and zck_218 (z_and zck_219 (z_and zck_220 (z_and zck_221 (z_and zck_222 (z_and zck_223 (rfl))))))))))))))))
theorem zckG_14 : zckG 224 [zi_224, zi_225, zi_226, zi_227, zi_228, zi_229, zi_230, zi_231, zi_232, zi_233, zi_234, zi_235, zi_236, zi_237, zi_238, zi_239] = true := z_and zck_224 (z_and zck_225 (z_and zck_226 (z_and zck_227 (z_and zck_228 (z_and zck_229 (z_and zck_230 (z_and zck_231 (z_and zck_232 (z_and zck_233 (z_and zck_234 (z_and zck_235 (z_and zck_236 (z_and zck_237 (z_and zck_238 (z_and zck_239 (rfl))))))))))))))))
theorem zckG_15 : zckG 240 [zi_240, zi_241] = true := z_and zck_240 (z_and zck_241 (rfl))
theorem zck_all : zckA 0 zia = true := z_and zckG_0 (z_and zckG_1 (z_and zckG_2 (z_and zckG_3 (z_and zckG_4 (z_and zckG_5 (z_and zckG_6 (z_and zckG_7 (z_and zckG_8 (z_and zckG_9 (z_and zckG_10 (z_and zckG_11 (z_and zckG_12 (z_and zckG_13 (z_and zckG_14 (z_and zckG_15 (rfl))))))))))))))))
theorem zckG_at : ∀ {g : List (List (List (Option zI)))} {mi j : Nat} {t : List (List (Option zI))}, zckG mi g = true → zget g j = some t → zckM (mi + j) t = true
  | [], _, _, _, _, h => by simp [zget] at h
  | x :: g, mi, 0, t, hc, h => by
    simp only [zget, Option.some.injEq] at h
    subst h
    simp only [zckG, Bool.and_eq_true] at hc
    exact hc.1
  | x :: g, mi, j + 1, t, hc, h => by
    simp only [zckG, Bool.and_eq_true] at hc
    have := zckG_at (g := g) (mi := mi + 1) (j := j) (t := t) hc.2 h
    rw [show mi + (j + 1) = mi + 1 + j by omega]
    exact this
theorem zckA_at : ∀ {a : List (List (List (List (Option zI))))} {mi q : Nat} {g : List (List (List (Option zI)))}, zckA mi a = true → zget a q = some g → zckG (mi + 16 * q) g = true
  | [], _, _, _, _, h => by simp [zget] at h
  | x :: a, mi, 0, g, hc, h => by
    simp only [zget, Option.some.injEq] at h
    subst h
    simp only [zckA, Bool.and_eq_true] at hc
    exact hc.1
  | x :: a, mi, q + 1, g, hc, h => by
    simp only [zckA, Bool.and_eq_true] at hc
    have := zckA_at (a := a) (mi := mi + 16) (q := q) (g := g) hc.2 h
    rw [show mi + 16 * (q + 1) = mi + 16 + 16 * q by omega]
    exact this
/-- an entry of the tables is what the code says at its place -/
theorem zi_ok {mi pc : Nat} {e : zI} (h : zi mi pc = some e) : ∃ M, zm mi = some M ∧ zchk M pc e = true := by
  unfold zi at h
  cases h1 : zget zia (mi / 16) with
  | none => simp [h1] at h
  | some g =>
    rw [h1] at h
    cases h2 : zget g (mi % 16) with
    | none => simp [h2] at h
    | some t =>
      simp only [h2] at h
      cases h3 : zget t (pc / 16) with
      | none => simp [h3] at h
      | some r =>
        simp only [h3] at h
        cases h4 : zget r (pc % 16) with
        | none => simp [h4] at h
        | some x =>
          simp only [h4] at h
          subst h
          have a1 := zckG_at (zckA_at zck_all h1) h2
          rw [show 0 + 16 * (mi / 16) + mi % 16 = mi by omega] at a1
          unfold zckM at a1
          cases h5 : zm mi with
          | none => simp [h5] at a1
          | some M =>
            simp only [h5] at a1
            have a2 := zckR_at (zckT_at a1 h3) h4
            rw [show 0 + 16 * (pc / 16) + pc % 16 = pc by omega] at a2
            exact ⟨M, rfl, a2⟩

