/-! the eleven states, by their first places -/
section
/-- the first place of a state -/
def nw_st (a : Nat) : Bool := decide (a = 2 ∨ a = 55 ∨ a = 79 ∨ a = 105 ∨ a = 129 ∨ a = 153 ∨ a = 177 ∨ a = 201 ∨ a = 225 ∨ a = 249 ∨ a = 273)
theorem nw_stC {P : Nat → Prop} (h : P 2 ∧ P 55 ∧ P 79 ∧ P 105 ∧ P 129 ∧ P 153 ∧ P 177 ∧ P 201 ∧ P 225 ∧ P 249 ∧ P 273) {a : Nat} (ha : nw_st a = true) : P a := by
  unfold nw_st at ha
  rcases of_decide_eq_true ha with rfl | rfl | rfl | rfl | rfl | rfl | rfl | rfl | rfl | rfl | rfl
  · exact h.1
  · exact h.2.1
  · exact h.2.2.1
  · exact h.2.2.2.1
  · exact h.2.2.2.2.1
  · exact h.2.2.2.2.2.1
  · exact h.2.2.2.2.2.2.1
  · exact h.2.2.2.2.2.2.2.1
  · exact h.2.2.2.2.2.2.2.2.1
  · exact h.2.2.2.2.2.2.2.2.2.1
  · exact h.2.2.2.2.2.2.2.2.2.2
theorem ks_0 {a : Nat} (h : nw_st a = true) : a < 303 ∧ mw_kd0 (a) = some (12, 6) := nw_stC (P := fun a => a < 303 ∧ mw_kd0 (a) = some (12, 6)) ⟨k_2, k_55, k_79, k_105, k_129, k_153, k_177, k_201, k_225, k_249, k_273⟩ h
theorem rs_0_0 {a : Nat} (h : nw_st a = true) {hp : Nat → Nat} {sb : Nat} : mw_rm0 hp sb (a) 0 = some (a + 1) := nw_stC (P := fun a => mw_rm0 hp sb (a) 0 = some (a + 1)) ⟨r_2_0, r_55_0, r_79_0, r_105_0, r_129_0, r_153_0, r_177_0, r_201_0, r_225_0, r_249_0, r_273_0⟩ h
theorem rs_0_1 {a : Nat} (h : nw_st a = true) {hp : Nat → Nat} {sb : Nat} : mw_rm0 hp sb (a) 1 = some (a + 7) := nw_stC (P := fun a => mw_rm0 hp sb (a) 1 = some (a + 7)) ⟨r_2_1, r_55_1, r_79_1, r_105_1, r_129_1, r_153_1, r_177_1, r_201_1, r_225_1, r_249_1, r_273_1⟩ h
theorem rs_0_2 {a : Nat} (h : nw_st a = true) {hp : Nat → Nat} {sb : Nat} : mw_rm0 hp sb (a) 2 = some (a + 16) := nw_stC (P := fun a => mw_rm0 hp sb (a) 2 = some (a + 16)) ⟨r_2_2, r_55_2, r_79_2, r_105_2, r_129_2, r_153_2, r_177_2, r_201_2, r_225_2, r_249_2, r_273_2⟩ h
theorem ks_1 {a : Nat} (h : nw_st a = true) : a + 1 < 303 ∧ mw_kd0 (a + 1) = some (13, 7) := nw_stC (P := fun a => a + 1 < 303 ∧ mw_kd0 (a + 1) = some (13, 7)) ⟨k_3, k_56, k_80, k_106, k_130, k_154, k_178, k_202, k_226, k_250, k_274⟩ h
theorem rs_1_2 {a : Nat} (h : nw_st a = true) {hp : Nat → Nat} {sb : Nat} : mw_rm0 hp sb (a + 1) 2 = some (a + 2) := nw_stC (P := fun a => mw_rm0 hp sb (a + 1) 2 = some (a + 2)) ⟨r_3_2, r_56_2, r_80_2, r_106_2, r_130_2, r_154_2, r_178_2, r_202_2, r_226_2, r_250_2, r_274_2⟩ h
theorem rs_1_3 {a : Nat} (h : nw_st a = true) {hp : Nat → Nat} {sb : Nat} : mw_rm0 hp sb (a + 1) 3 = some (a + 3) := nw_stC (P := fun a => mw_rm0 hp sb (a + 1) 3 = some (a + 3)) ⟨r_3_3, r_56_3, r_80_3, r_106_3, r_130_3, r_154_3, r_178_3, r_202_3, r_226_3, r_250_3, r_274_3⟩ h
theorem rs_1_4 {a : Nat} (h : nw_st a = true) {hp : Nat → Nat} {sb : Nat} : mw_rm0 hp sb (a + 1) 4 = some (a + 4) := nw_stC (P := fun a => mw_rm0 hp sb (a + 1) 4 = some (a + 4)) ⟨r_3_4, r_56_4, r_80_4, r_106_4, r_130_4, r_154_4, r_178_4, r_202_4, r_226_4, r_250_4, r_274_4⟩ h
theorem rs_1_5 {a : Nat} (h : nw_st a = true) {hp : Nat → Nat} {sb : Nat} : mw_rm0 hp sb (a + 1) 5 = some (a + 5) := nw_stC (P := fun a => mw_rm0 hp sb (a + 1) 5 = some (a + 5)) ⟨r_3_5, r_56_5, r_80_5, r_106_5, r_130_5, r_154_5, r_178_5, r_202_5, r_226_5, r_250_5, r_274_5⟩ h
theorem rs_1_6 {a : Nat} (h : nw_st a = true) {hp : Nat → Nat} {sb : Nat} : mw_rm0 hp sb (a + 1) 6 = some (a + 6) := nw_stC (P := fun a => mw_rm0 hp sb (a + 1) 6 = some (a + 6)) ⟨r_3_6, r_56_6, r_80_6, r_106_6, r_130_6, r_154_6, r_178_6, r_202_6, r_226_6, r_250_6, r_274_6⟩ h
theorem ks_2 {a : Nat} (h : nw_st a = true) : a + 2 < 303 ∧ mw_kd0 (a + 2) = some (20, 6) := nw_stC (P := fun a => a + 2 < 303 ∧ mw_kd0 (a + 2) = some (20, 6)) ⟨k_4, k_57, k_81, k_107, k_131, k_155, k_179, k_203, k_227, k_251, k_275⟩ h
theorem ks_3 {a : Nat} (h : nw_st a = true) : a + 3 < 303 ∧ mw_kd0 (a + 3) = some (20, 10) := nw_stC (P := fun a => a + 3 < 303 ∧ mw_kd0 (a + 3) = some (20, 10)) ⟨k_5, k_58, k_82, k_108, k_132, k_156, k_180, k_204, k_228, k_252, k_276⟩ h
theorem ks_4 {a : Nat} (h : nw_st a = true) : a + 4 < 303 ∧ mw_kd0 (a + 4) = some (20, 10) := nw_stC (P := fun a => a + 4 < 303 ∧ mw_kd0 (a + 4) = some (20, 10)) ⟨k_6, k_59, k_83, k_109, k_133, k_157, k_181, k_205, k_229, k_253, k_277⟩ h
theorem ks_5 {a : Nat} (h : nw_st a = true) : a + 5 < 303 ∧ mw_kd0 (a + 5) = some (20, 10) := nw_stC (P := fun a => a + 5 < 303 ∧ mw_kd0 (a + 5) = some (20, 10)) ⟨k_7, k_60, k_84, k_110, k_134, k_158, k_182, k_206, k_230, k_254, k_278⟩ h
theorem ks_6 {a : Nat} (h : nw_st a = true) : a + 6 < 303 ∧ mw_kd0 (a + 6) = some (20, 10) := nw_stC (P := fun a => a + 6 < 303 ∧ mw_kd0 (a + 6) = some (20, 10)) ⟨k_8, k_61, k_85, k_111, k_135, k_159, k_183, k_207, k_231, k_255, k_279⟩ h
theorem ks_7 {a : Nat} (h : nw_st a = true) : a + 7 < 303 ∧ mw_kd0 (a + 7) = some (8, 11) := nw_stC (P := fun a => a + 7 < 303 ∧ mw_kd0 (a + 7) = some (8, 11)) ⟨k_9, k_62, k_86, k_112, k_136, k_160, k_184, k_208, k_232, k_256, k_280⟩ h
theorem rs_7_1 {a : Nat} (h : nw_st a = true) {hp : Nat → Nat} {sb : Nat} : mw_rm0 hp sb (a + 7) 1 = some (a + 8) := nw_stC (P := fun a => mw_rm0 hp sb (a + 7) 1 = some (a + 8)) ⟨r_9_1, r_62_1, r_86_1, r_112_1, r_136_1, r_160_1, r_184_1, r_208_1, r_232_1, r_256_1, r_280_1⟩ h
theorem rs_7_2 {a : Nat} (h : nw_st a = true) {hp : Nat → Nat} {sb : Nat} : mw_rm0 hp sb (a + 7) 2 = some (a + 9) := nw_stC (P := fun a => mw_rm0 hp sb (a + 7) 2 = some (a + 9)) ⟨r_9_2, r_62_2, r_86_2, r_112_2, r_136_2, r_160_2, r_184_2, r_208_2, r_232_2, r_256_2, r_280_2⟩ h
theorem rs_7_3 {a : Nat} (h : nw_st a = true) {hp : Nat → Nat} {sb : Nat} : mw_rm0 hp sb (a + 7) 3 = some (a + 10) := nw_stC (P := fun a => mw_rm0 hp sb (a + 7) 3 = some (a + 10)) ⟨r_9_3, r_62_3, r_86_3, r_112_3, r_136_3, r_160_3, r_184_3, r_208_3, r_232_3, r_256_3, r_280_3⟩ h
theorem rs_7_4 {a : Nat} (h : nw_st a = true) {hp : Nat → Nat} {sb : Nat} : mw_rm0 hp sb (a + 7) 4 = some (a + 11) := nw_stC (P := fun a => mw_rm0 hp sb (a + 7) 4 = some (a + 11)) ⟨r_9_4, r_62_4, r_86_4, r_112_4, r_136_4, r_160_4, r_184_4, r_208_4, r_232_4, r_256_4, r_280_4⟩ h
theorem rs_7_5 {a : Nat} (h : nw_st a = true) {hp : Nat → Nat} {sb : Nat} : mw_rm0 hp sb (a + 7) 5 = some (a + 12) := nw_stC (P := fun a => mw_rm0 hp sb (a + 7) 5 = some (a + 12)) ⟨r_9_5, r_62_5, r_86_5, r_112_5, r_136_5, r_160_5, r_184_5, r_208_5, r_232_5, r_256_5, r_280_5⟩ h
theorem rs_7_8 {a : Nat} (h : nw_st a = true) {hp : Nat → Nat} {sb : Nat} : mw_rm0 hp sb (a + 7) 8 = some (a + 13) := nw_stC (P := fun a => mw_rm0 hp sb (a + 7) 8 = some (a + 13)) ⟨r_9_8, r_62_8, r_86_8, r_112_8, r_136_8, r_160_8, r_184_8, r_208_8, r_232_8, r_256_8, r_280_8⟩ h
theorem rs_7_9 {a : Nat} (h : nw_st a = true) {hp : Nat → Nat} {sb : Nat} : mw_rm0 hp sb (a + 7) 9 = some (a + 14) := nw_stC (P := fun a => mw_rm0 hp sb (a + 7) 9 = some (a + 14)) ⟨r_9_9, r_62_9, r_86_9, r_112_9, r_136_9, r_160_9, r_184_9, r_208_9, r_232_9, r_256_9, r_280_9⟩ h
theorem rs_7_10 {a : Nat} (h : nw_st a = true) {hp : Nat → Nat} {sb : Nat} : mw_rm0 hp sb (a + 7) 10 = some (a + 15) := nw_stC (P := fun a => mw_rm0 hp sb (a + 7) 10 = some (a + 15)) ⟨r_9_10, r_62_10, r_86_10, r_112_10, r_136_10, r_160_10, r_184_10, r_208_10, r_232_10, r_256_10, r_280_10⟩ h
theorem ks_8 {a : Nat} (h : nw_st a = true) : a + 8 < 303 ∧ mw_kd0 (a + 8) = some (20, 3) := nw_stC (P := fun a => a + 8 < 303 ∧ mw_kd0 (a + 8) = some (20, 3)) ⟨k_10, k_63, k_87, k_113, k_137, k_161, k_185, k_209, k_233, k_257, k_281⟩ h
theorem ks_9 {a : Nat} (h : nw_st a = true) : a + 9 < 303 ∧ mw_kd0 (a + 9) = some (20, 3) := nw_stC (P := fun a => a + 9 < 303 ∧ mw_kd0 (a + 9) = some (20, 3)) ⟨k_11, k_64, k_88, k_114, k_138, k_162, k_186, k_210, k_234, k_258, k_282⟩ h
theorem ks_10 {a : Nat} (h : nw_st a = true) : a + 10 < 303 ∧ mw_kd0 (a + 10) = some (20, 3) := nw_stC (P := fun a => a + 10 < 303 ∧ mw_kd0 (a + 10) = some (20, 3)) ⟨k_12, k_65, k_89, k_115, k_139, k_163, k_187, k_211, k_235, k_259, k_283⟩ h
theorem ks_11 {a : Nat} (h : nw_st a = true) : a + 11 < 303 ∧ mw_kd0 (a + 11) = some (20, 3) := nw_stC (P := fun a => a + 11 < 303 ∧ mw_kd0 (a + 11) = some (20, 3)) ⟨k_13, k_66, k_90, k_116, k_140, k_164, k_188, k_212, k_236, k_260, k_284⟩ h
theorem ks_12 {a : Nat} (h : nw_st a = true) : a + 12 < 303 ∧ mw_kd0 (a + 12) = some (20, 3) := nw_stC (P := fun a => a + 12 < 303 ∧ mw_kd0 (a + 12) = some (20, 3)) ⟨k_14, k_67, k_91, k_117, k_141, k_165, k_189, k_213, k_237, k_261, k_285⟩ h
theorem ks_13 {a : Nat} (h : nw_st a = true) : a + 13 < 303 ∧ mw_kd0 (a + 13) = some (20, 10) := nw_stC (P := fun a => a + 13 < 303 ∧ mw_kd0 (a + 13) = some (20, 10)) ⟨k_15, k_68, k_92, k_118, k_142, k_166, k_190, k_214, k_238, k_262, k_286⟩ h
theorem ks_14 {a : Nat} (h : nw_st a = true) : a + 14 < 303 ∧ mw_kd0 (a + 14) = some (20, 10) := nw_stC (P := fun a => a + 14 < 303 ∧ mw_kd0 (a + 14) = some (20, 10)) ⟨k_16, k_69, k_93, k_119, k_143, k_167, k_191, k_215, k_239, k_263, k_287⟩ h
theorem ks_15 {a : Nat} (h : nw_st a = true) : a + 15 < 303 ∧ mw_kd0 (a + 15) = some (20, 10) := nw_stC (P := fun a => a + 15 < 303 ∧ mw_kd0 (a + 15) = some (20, 10)) ⟨k_17, k_70, k_94, k_120, k_144, k_168, k_192, k_216, k_240, k_264, k_288⟩ h
theorem ks_16 {a : Nat} (h : nw_st a = true) : a + 16 < 303 ∧ mw_kd0 (a + 16) = some (11, 9) := nw_stC (P := fun a => a + 16 < 303 ∧ mw_kd0 (a + 16) = some (11, 9)) ⟨k_18, k_71, k_95, k_121, k_145, k_169, k_193, k_217, k_241, k_265, k_289⟩ h
theorem rs_16_2 {a : Nat} (h : nw_st a = true) {hp : Nat → Nat} {sb : Nat} : mw_rm0 hp sb (a + 16) 2 = some (a + 17) := nw_stC (P := fun a => mw_rm0 hp sb (a + 16) 2 = some (a + 17)) ⟨r_18_2, r_71_2, r_95_2, r_121_2, r_145_2, r_169_2, r_193_2, r_217_2, r_241_2, r_265_2, r_289_2⟩ h
theorem rs_16_3 {a : Nat} (h : nw_st a = true) {hp : Nat → Nat} {sb : Nat} : mw_rm0 hp sb (a + 16) 3 = some (a + 18) := nw_stC (P := fun a => mw_rm0 hp sb (a + 16) 3 = some (a + 18)) ⟨r_18_3, r_71_3, r_95_3, r_121_3, r_145_3, r_169_3, r_193_3, r_217_3, r_241_3, r_265_3, r_289_3⟩ h
theorem rs_16_4 {a : Nat} (h : nw_st a = true) {hp : Nat → Nat} {sb : Nat} : mw_rm0 hp sb (a + 16) 4 = some (a + 19) := nw_stC (P := fun a => mw_rm0 hp sb (a + 16) 4 = some (a + 19)) ⟨r_18_4, r_71_4, r_95_4, r_121_4, r_145_4, r_169_4, r_193_4, r_217_4, r_241_4, r_265_4, r_289_4⟩ h
theorem rs_16_5 {a : Nat} (h : nw_st a = true) {hp : Nat → Nat} {sb : Nat} : mw_rm0 hp sb (a + 16) 5 = some (a + 20) := nw_stC (P := fun a => mw_rm0 hp sb (a + 16) 5 = some (a + 20)) ⟨r_18_5, r_71_5, r_95_5, r_121_5, r_145_5, r_169_5, r_193_5, r_217_5, r_241_5, r_265_5, r_289_5⟩ h
theorem rs_16_6 {a : Nat} (h : nw_st a = true) {hp : Nat → Nat} {sb : Nat} : mw_rm0 hp sb (a + 16) 6 = some (a + 21) := nw_stC (P := fun a => mw_rm0 hp sb (a + 16) 6 = some (a + 21)) ⟨r_18_6, r_71_6, r_95_6, r_121_6, r_145_6, r_169_6, r_193_6, r_217_6, r_241_6, r_265_6, r_289_6⟩ h
theorem rs_16_7 {a : Nat} (h : nw_st a = true) {hp : Nat → Nat} {sb : Nat} : mw_rm0 hp sb (a + 16) 7 = some (a + 22) := nw_stC (P := fun a => mw_rm0 hp sb (a + 16) 7 = some (a + 22)) ⟨r_18_7, r_71_7, r_95_7, r_121_7, r_145_7, r_169_7, r_193_7, r_217_7, r_241_7, r_265_7, r_289_7⟩ h
theorem rs_16_8 {a : Nat} (h : nw_st a = true) {hp : Nat → Nat} {sb : Nat} : mw_rm0 hp sb (a + 16) 8 = some (a + 23) := nw_stC (P := fun a => mw_rm0 hp sb (a + 16) 8 = some (a + 23)) ⟨r_18_8, r_71_8, r_95_8, r_121_8, r_145_8, r_169_8, r_193_8, r_217_8, r_241_8, r_265_8, r_289_8⟩ h
theorem ks_17 {a : Nat} (h : nw_st a = true) : a + 17 < 303 ∧ mw_kd0 (a + 17) = some (20, 10) := nw_stC (P := fun a => a + 17 < 303 ∧ mw_kd0 (a + 17) = some (20, 10)) ⟨k_19, k_72, k_96, k_122, k_146, k_170, k_194, k_218, k_242, k_266, k_290⟩ h
theorem ks_18 {a : Nat} (h : nw_st a = true) : a + 18 < 303 ∧ mw_kd0 (a + 18) = some (20, 10) := nw_stC (P := fun a => a + 18 < 303 ∧ mw_kd0 (a + 18) = some (20, 10)) ⟨k_20, k_73, k_97, k_123, k_147, k_171, k_195, k_219, k_243, k_267, k_291⟩ h
theorem ks_19 {a : Nat} (h : nw_st a = true) : a + 19 < 303 ∧ mw_kd0 (a + 19) = some (20, 10) := nw_stC (P := fun a => a + 19 < 303 ∧ mw_kd0 (a + 19) = some (20, 10)) ⟨k_21, k_74, k_98, k_124, k_148, k_172, k_196, k_220, k_244, k_268, k_292⟩ h
theorem ks_20 {a : Nat} (h : nw_st a = true) : a + 20 < 303 ∧ mw_kd0 (a + 20) = some (20, 10) := nw_stC (P := fun a => a + 20 < 303 ∧ mw_kd0 (a + 20) = some (20, 10)) ⟨k_22, k_75, k_99, k_125, k_149, k_173, k_197, k_221, k_245, k_269, k_293⟩ h
theorem ks_21 {a : Nat} (h : nw_st a = true) : a + 21 < 303 ∧ mw_kd0 (a + 21) = some (20, 10) := nw_stC (P := fun a => a + 21 < 303 ∧ mw_kd0 (a + 21) = some (20, 10)) ⟨k_23, k_76, k_100, k_126, k_150, k_174, k_198, k_222, k_246, k_270, k_294⟩ h
theorem ks_22 {a : Nat} (h : nw_st a = true) : a + 22 < 303 ∧ mw_kd0 (a + 22) = some (20, 10) := nw_stC (P := fun a => a + 22 < 303 ∧ mw_kd0 (a + 22) = some (20, 10)) ⟨k_24, k_77, k_101, k_127, k_151, k_175, k_199, k_223, k_247, k_271, k_295⟩ h
theorem ks_23 {a : Nat} (h : nw_st a = true) : a + 23 < 303 ∧ mw_kd0 (a + 23) = some (20, 10) := nw_stC (P := fun a => a + 23 < 303 ∧ mw_kd0 (a + 23) = some (20, 10)) ⟨k_25, k_78, k_102, k_128, k_152, k_176, k_200, k_224, k_248, k_272, k_296⟩ h
theorem nw_stD {a b : Nat} (ha : nw_st a = true) (hb : nw_st b = true) (hab : ¬ a = b) : a + 24 ≤ b ∨ b + 24 ≤ a := by
  unfold nw_st at ha hb
  have h1 := of_decide_eq_true ha
  have h2 := of_decide_eq_true hb
  omega
end

