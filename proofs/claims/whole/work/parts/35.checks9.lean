theorem ir_all_td {α : Type} (f : α → Bool) (l : List α) (a : Nat) (h1 : ((l.drop a).take 6).all f = true) (h2 : (l.drop (a + 6)).all f = true) : (l.drop a).all f = true := by
  rw [← List.take_append_drop 6 (l.drop a), List.all_append, h1, List.drop_drop, h2]
  rfl
theorem ir_okq_364_30 : (ir_t364.drop 180).all (fun l => l.all fun q => ir_okE 364 q.1 q.2) = true := by decide +kernel
theorem ir_okq_364_29 : (ir_t364.drop 174).all (fun l => l.all fun q => ir_okE 364 q.1 q.2) = true := ir_all_td _ _ 174 ir_okp_364_29 ir_okq_364_30
theorem ir_okq_364_28 : (ir_t364.drop 168).all (fun l => l.all fun q => ir_okE 364 q.1 q.2) = true := ir_all_td _ _ 168 ir_okp_364_28 ir_okq_364_29
theorem ir_okq_364_27 : (ir_t364.drop 162).all (fun l => l.all fun q => ir_okE 364 q.1 q.2) = true := ir_all_td _ _ 162 ir_okp_364_27 ir_okq_364_28
theorem ir_okq_364_26 : (ir_t364.drop 156).all (fun l => l.all fun q => ir_okE 364 q.1 q.2) = true := ir_all_td _ _ 156 ir_okp_364_26 ir_okq_364_27
theorem ir_okq_364_25 : (ir_t364.drop 150).all (fun l => l.all fun q => ir_okE 364 q.1 q.2) = true := ir_all_td _ _ 150 ir_okp_364_25 ir_okq_364_26
theorem ir_okq_364_24 : (ir_t364.drop 144).all (fun l => l.all fun q => ir_okE 364 q.1 q.2) = true := ir_all_td _ _ 144 ir_okp_364_24 ir_okq_364_25
theorem ir_okq_364_23 : (ir_t364.drop 138).all (fun l => l.all fun q => ir_okE 364 q.1 q.2) = true := ir_all_td _ _ 138 ir_okp_364_23 ir_okq_364_24
theorem ir_okq_364_22 : (ir_t364.drop 132).all (fun l => l.all fun q => ir_okE 364 q.1 q.2) = true := ir_all_td _ _ 132 ir_okp_364_22 ir_okq_364_23
theorem ir_okq_364_21 : (ir_t364.drop 126).all (fun l => l.all fun q => ir_okE 364 q.1 q.2) = true := ir_all_td _ _ 126 ir_okp_364_21 ir_okq_364_22
theorem ir_okq_364_20 : (ir_t364.drop 120).all (fun l => l.all fun q => ir_okE 364 q.1 q.2) = true := ir_all_td _ _ 120 ir_okp_364_20 ir_okq_364_21
theorem ir_okq_364_19 : (ir_t364.drop 114).all (fun l => l.all fun q => ir_okE 364 q.1 q.2) = true := ir_all_td _ _ 114 ir_okp_364_19 ir_okq_364_20
theorem ir_okq_364_18 : (ir_t364.drop 108).all (fun l => l.all fun q => ir_okE 364 q.1 q.2) = true := ir_all_td _ _ 108 ir_okp_364_18 ir_okq_364_19
theorem ir_okq_364_17 : (ir_t364.drop 102).all (fun l => l.all fun q => ir_okE 364 q.1 q.2) = true := ir_all_td _ _ 102 ir_okp_364_17 ir_okq_364_18
theorem ir_okq_364_16 : (ir_t364.drop 96).all (fun l => l.all fun q => ir_okE 364 q.1 q.2) = true := ir_all_td _ _ 96 ir_okp_364_16 ir_okq_364_17
theorem ir_okq_364_15 : (ir_t364.drop 90).all (fun l => l.all fun q => ir_okE 364 q.1 q.2) = true := ir_all_td _ _ 90 ir_okp_364_15 ir_okq_364_16
theorem ir_okq_364_14 : (ir_t364.drop 84).all (fun l => l.all fun q => ir_okE 364 q.1 q.2) = true := ir_all_td _ _ 84 ir_okp_364_14 ir_okq_364_15
theorem ir_okq_364_13 : (ir_t364.drop 78).all (fun l => l.all fun q => ir_okE 364 q.1 q.2) = true := ir_all_td _ _ 78 ir_okp_364_13 ir_okq_364_14
theorem ir_okq_364_12 : (ir_t364.drop 72).all (fun l => l.all fun q => ir_okE 364 q.1 q.2) = true := ir_all_td _ _ 72 ir_okp_364_12 ir_okq_364_13
theorem ir_okq_364_11 : (ir_t364.drop 66).all (fun l => l.all fun q => ir_okE 364 q.1 q.2) = true := ir_all_td _ _ 66 ir_okp_364_11 ir_okq_364_12
theorem ir_okq_364_10 : (ir_t364.drop 60).all (fun l => l.all fun q => ir_okE 364 q.1 q.2) = true := ir_all_td _ _ 60 ir_okp_364_10 ir_okq_364_11
theorem ir_okq_364_9 : (ir_t364.drop 54).all (fun l => l.all fun q => ir_okE 364 q.1 q.2) = true := ir_all_td _ _ 54 ir_okp_364_9 ir_okq_364_10
theorem ir_okq_364_8 : (ir_t364.drop 48).all (fun l => l.all fun q => ir_okE 364 q.1 q.2) = true := ir_all_td _ _ 48 ir_okp_364_8 ir_okq_364_9
theorem ir_okq_364_7 : (ir_t364.drop 42).all (fun l => l.all fun q => ir_okE 364 q.1 q.2) = true := ir_all_td _ _ 42 ir_okp_364_7 ir_okq_364_8
theorem ir_okq_364_6 : (ir_t364.drop 36).all (fun l => l.all fun q => ir_okE 364 q.1 q.2) = true := ir_all_td _ _ 36 ir_okp_364_6 ir_okq_364_7
theorem ir_okq_364_5 : (ir_t364.drop 30).all (fun l => l.all fun q => ir_okE 364 q.1 q.2) = true := ir_all_td _ _ 30 ir_okp_364_5 ir_okq_364_6
theorem ir_okq_364_4 : (ir_t364.drop 24).all (fun l => l.all fun q => ir_okE 364 q.1 q.2) = true := ir_all_td _ _ 24 ir_okp_364_4 ir_okq_364_5
theorem ir_okq_364_3 : (ir_t364.drop 18).all (fun l => l.all fun q => ir_okE 364 q.1 q.2) = true := ir_all_td _ _ 18 ir_okp_364_3 ir_okq_364_4
theorem ir_okq_364_2 : (ir_t364.drop 12).all (fun l => l.all fun q => ir_okE 364 q.1 q.2) = true := ir_all_td _ _ 12 ir_okp_364_2 ir_okq_364_3
theorem ir_okq_364_1 : (ir_t364.drop 6).all (fun l => l.all fun q => ir_okE 364 q.1 q.2) = true := ir_all_td _ _ 6 ir_okp_364_1 ir_okq_364_2
theorem ir_okq_364_0 : (ir_t364.drop 0).all (fun l => l.all fun q => ir_okE 364 q.1 q.2) = true := ir_all_td _ _ 0 ir_okp_364_0 ir_okq_364_1
theorem ir_ok_364 : ir_ckT 364 ir_t364 = true := ir_okq_364_0
theorem ir_okc_0 : ir_kC (16 * 0) ir_q0 := ⟨ir_ok_0, ⟨ir_ok_1, ⟨ir_ok_2, ⟨ir_ok_3, ⟨ir_ok_4, ⟨ir_ok_5, ⟨ir_ok_6, ⟨ir_ok_7, ⟨ir_ok_8, ⟨ir_ok_9, ⟨ir_ok_10, ⟨ir_ok_11, ⟨ir_ok_12, ⟨ir_ok_13, ⟨ir_ok_14, ⟨ir_ok_15, trivial⟩⟩⟩⟩⟩⟩⟩⟩⟩⟩⟩⟩⟩⟩⟩⟩
theorem ir_okc_1 : ir_kC (16 * 1) ir_q1 := ⟨ir_ok_16, ⟨ir_ok_17, ⟨ir_ok_18, ⟨ir_ok_19, ⟨ir_ok_20, ⟨ir_ok_21, ⟨ir_ok_22, ⟨ir_ok_23, ⟨ir_ok_24, ⟨ir_ok_25, ⟨ir_ok_26, ⟨ir_ok_27, ⟨ir_ok_28, ⟨ir_ok_29, ⟨ir_ok_30, ⟨ir_ok_31, trivial⟩⟩⟩⟩⟩⟩⟩⟩⟩⟩⟩⟩⟩⟩⟩⟩
theorem ir_okc_2 : ir_kC (16 * 2) ir_q2 := ⟨ir_ok_32, ⟨ir_ok_33, ⟨ir_ok_34, ⟨ir_ok_35, ⟨ir_ok_36, ⟨ir_ok_37, ⟨ir_ok_38, ⟨ir_ok_39, ⟨ir_ok_40, ⟨ir_ok_41, ⟨ir_ok_42, ⟨ir_ok_43, ⟨ir_ok_44, ⟨ir_ok_45, ⟨ir_ok_46, ⟨ir_ok_47, trivial⟩⟩⟩⟩⟩⟩⟩⟩⟩⟩⟩⟩⟩⟩⟩⟩
theorem ir_okc_3 : ir_kC (16 * 3) ir_q3 := ⟨ir_ok_48, ⟨ir_ok_49, ⟨ir_ok_50, ⟨ir_ok_51, ⟨ir_ok_52, ⟨ir_ok_53, ⟨ir_ok_54, ⟨ir_ok_55, ⟨ir_ok_56, ⟨ir_ok_57, ⟨ir_ok_58, ⟨ir_ok_59, ⟨ir_ok_60, ⟨ir_ok_61, ⟨ir_ok_62, ⟨ir_ok_63, trivial⟩⟩⟩⟩⟩⟩⟩⟩⟩⟩⟩⟩⟩⟩⟩⟩
theorem ir_okc_4 : ir_kC (16 * 4) ir_q4 := ⟨ir_ok_64, ⟨ir_ok_65, ⟨ir_ok_66, ⟨ir_ok_67, ⟨ir_ok_68, ⟨ir_ok_69, ⟨ir_ok_70, ⟨ir_ok_71, ⟨ir_ok_72, ⟨ir_ok_73, ⟨ir_ok_74, ⟨ir_ok_75, ⟨ir_ok_76, ⟨ir_ok_77, ⟨ir_ok_78, ⟨ir_ok_79, trivial⟩⟩⟩⟩⟩⟩⟩⟩⟩⟩⟩⟩⟩⟩⟩⟩
theorem ir_okc_5 : ir_kC (16 * 5) ir_q5 := ⟨ir_ok_80, ⟨ir_ok_81, ⟨ir_ok_82, ⟨ir_ok_83, ⟨ir_ok_84, ⟨ir_ok_85, ⟨ir_ok_86, ⟨ir_ok_87, ⟨ir_ok_88, ⟨ir_ok_89, ⟨ir_ok_90, ⟨ir_ok_91, ⟨ir_ok_92, ⟨ir_ok_93, ⟨ir_ok_94, ⟨ir_ok_95, trivial⟩⟩⟩⟩⟩⟩⟩⟩⟩⟩⟩⟩⟩⟩⟩⟩
theorem ir_okc_6 : ir_kC (16 * 6) ir_q6 := ⟨ir_ok_96, ⟨ir_ok_97, ⟨ir_ok_98, ⟨ir_ok_99, ⟨ir_ok_100, ⟨ir_ok_101, ⟨ir_ok_102, ⟨ir_ok_103, ⟨ir_ok_104, ⟨ir_ok_105, ⟨ir_ok_106, ⟨ir_ok_107, ⟨ir_ok_108, ⟨ir_ok_109, ⟨ir_ok_110, ⟨ir_ok_111, trivial⟩⟩⟩⟩⟩⟩⟩⟩⟩⟩⟩⟩⟩⟩⟩⟩
theorem ir_okc_7 : ir_kC (16 * 7) ir_q7 := ⟨ir_ok_112, ⟨ir_ok_113, ⟨ir_ok_114, ⟨ir_ok_115, ⟨ir_ok_116, ⟨ir_ok_117, ⟨ir_ok_118, ⟨ir_ok_119, ⟨ir_ok_120, ⟨ir_ok_121, ⟨ir_ok_122, ⟨ir_ok_123, ⟨ir_ok_124, ⟨ir_ok_125, ⟨ir_ok_126, ⟨ir_ok_127, trivial⟩⟩⟩⟩⟩⟩⟩⟩⟩⟩⟩⟩⟩⟩⟩⟩
theorem ir_okc_8 : ir_kC (16 * 8) ir_q8 := ⟨ir_ok_128, ⟨ir_ok_129, ⟨ir_ok_130, ⟨ir_ok_131, ⟨ir_ok_132, ⟨ir_ok_133, ⟨ir_ok_134, ⟨ir_ok_135, ⟨ir_ok_136, ⟨ir_ok_137, ⟨ir_ok_138, ⟨ir_ok_139, ⟨ir_ok_140, ⟨ir_ok_141, ⟨ir_ok_142, ⟨ir_ok_143, trivial⟩⟩⟩⟩⟩⟩⟩⟩⟩⟩⟩⟩⟩⟩⟩⟩
theorem ir_okc_9 : ir_kC (16 * 9) ir_q9 := ⟨ir_ok_144, ⟨ir_ok_145, ⟨ir_ok_146, ⟨ir_ok_147, ⟨ir_ok_148, ⟨ir_ok_149, ⟨ir_ok_150, ⟨ir_ok_151, ⟨ir_ok_152, ⟨ir_ok_153, ⟨ir_ok_154, ⟨ir_ok_155, ⟨ir_ok_156, ⟨ir_ok_157, ⟨ir_ok_158, ⟨ir_ok_159, trivial⟩⟩⟩⟩⟩⟩⟩⟩⟩⟩⟩⟩⟩⟩⟩⟩
theorem ir_okc_10 : ir_kC (16 * 10) ir_q10 := ⟨ir_ok_160, ⟨ir_ok_161, ⟨ir_ok_162, ⟨ir_ok_163, ⟨ir_ok_164, ⟨ir_ok_165, ⟨ir_ok_166, ⟨ir_ok_167, ⟨ir_ok_168, ⟨ir_ok_169, ⟨ir_ok_170, ⟨ir_ok_171, ⟨ir_ok_172, ⟨ir_ok_173, ⟨ir_ok_174, ⟨ir_ok_175, trivial⟩⟩⟩⟩⟩⟩⟩⟩⟩⟩⟩⟩⟩⟩⟩⟩
theorem ir_okc_11 : ir_kC (16 * 11) ir_q11 := ⟨ir_ok_176, ⟨ir_ok_177, ⟨ir_ok_178, ⟨ir_ok_179, ⟨ir_ok_180, ⟨ir_ok_181, ⟨ir_ok_182, ⟨ir_ok_183, ⟨ir_ok_184, ⟨ir_ok_185, ⟨ir_ok_186, ⟨ir_ok_187, ⟨ir_ok_188, ⟨ir_ok_189, ⟨ir_ok_190, ⟨ir_ok_191, trivial⟩⟩⟩⟩⟩⟩⟩⟩⟩⟩⟩⟩⟩⟩⟩⟩
theorem ir_okc_12 : ir_kC (16 * 12) ir_q12 := ⟨ir_ok_192, ⟨ir_ok_193, ⟨ir_ok_194, ⟨ir_ok_195, ⟨ir_ok_196, ⟨ir_ok_197, ⟨ir_ok_198, ⟨ir_ok_199, ⟨ir_ok_200, ⟨ir_ok_201, ⟨ir_ok_202, ⟨ir_ok_203, ⟨ir_ok_204, ⟨ir_ok_205, ⟨ir_ok_206, ⟨ir_ok_207, trivial⟩⟩⟩⟩⟩⟩⟩⟩⟩⟩⟩⟩⟩⟩⟩⟩
theorem ir_okc_13 : ir_kC (16 * 13) ir_q13 := ⟨ir_ok_208, ⟨ir_ok_209, ⟨ir_ok_210, ⟨ir_ok_211, ⟨ir_ok_212, ⟨ir_ok_213, ⟨ir_ok_214, ⟨ir_ok_215, ⟨ir_ok_216, ⟨ir_ok_217, ⟨ir_ok_218, ⟨ir_ok_219, ⟨ir_ok_220, ⟨ir_ok_221, ⟨ir_ok_222, ⟨ir_ok_223, trivial⟩⟩⟩⟩⟩⟩⟩⟩⟩⟩⟩⟩⟩⟩⟩⟩
theorem ir_okc_14 : ir_kC (16 * 14) ir_q14 := ⟨ir_ok_224, ⟨ir_ok_225, ⟨ir_ok_226, ⟨ir_ok_227, ⟨ir_ok_228, ⟨ir_ok_229, ⟨ir_ok_230, ⟨ir_ok_231, ⟨ir_ok_232, ⟨ir_ok_233, ⟨ir_ok_234, ⟨ir_ok_235, ⟨ir_ok_236, ⟨ir_ok_237, ⟨ir_ok_238, ⟨ir_ok_239, trivial⟩⟩⟩⟩⟩⟩⟩⟩⟩⟩⟩⟩⟩⟩⟩⟩
theorem ir_okc_15 : ir_kC (16 * 15) ir_q15 := ⟨ir_ok_240, ⟨ir_ok_241, ⟨ir_ok_242, ⟨ir_ok_243, ⟨ir_ok_244, ⟨ir_ok_245, ⟨ir_ok_246, ⟨ir_ok_247, ⟨ir_ok_248, ⟨ir_ok_249, ⟨ir_ok_250, ⟨ir_ok_251, ⟨ir_ok_252, ⟨ir_ok_253, ⟨ir_ok_254, ⟨ir_ok_255, trivial⟩⟩⟩⟩⟩⟩⟩⟩⟩⟩⟩⟩⟩⟩⟩⟩
theorem ir_okc_16 : ir_kC (16 * 16) ir_q16 := ⟨ir_ok_256, ⟨ir_ok_257, ⟨ir_ok_258, ⟨ir_ok_259, ⟨ir_ok_260, ⟨ir_ok_261, ⟨ir_ok_262, ⟨ir_ok_263, ⟨ir_ok_264, ⟨ir_ok_265, ⟨ir_ok_266, ⟨ir_ok_267, ⟨ir_ok_268, ⟨ir_ok_269, ⟨ir_ok_270, ⟨ir_ok_271, trivial⟩⟩⟩⟩⟩⟩⟩⟩⟩⟩⟩⟩⟩⟩⟩⟩
theorem ir_okc_17 : ir_kC (16 * 17) ir_q17 := ⟨ir_ok_272, ⟨ir_ok_273, ⟨ir_ok_274, ⟨ir_ok_275, ⟨ir_ok_276, ⟨ir_ok_277, ⟨ir_ok_278, ⟨ir_ok_279, ⟨ir_ok_280, ⟨ir_ok_281, ⟨ir_ok_282, ⟨ir_ok_283, ⟨ir_ok_284, ⟨ir_ok_285, ⟨ir_ok_286, ⟨ir_ok_287, trivial⟩⟩⟩⟩⟩⟩⟩⟩⟩⟩⟩⟩⟩⟩⟩⟩
theorem ir_okc_18 : ir_kC (16 * 18) ir_q18 := ⟨ir_ok_288, ⟨ir_ok_289, ⟨ir_ok_290, ⟨ir_ok_291, ⟨ir_ok_292, ⟨ir_ok_293, ⟨ir_ok_294, ⟨ir_ok_295, ⟨ir_ok_296, ⟨ir_ok_297, ⟨ir_ok_298, ⟨ir_ok_299, ⟨ir_ok_300, ⟨ir_ok_301, ⟨ir_ok_302, ⟨ir_ok_303, trivial⟩⟩⟩⟩⟩⟩⟩⟩⟩⟩⟩⟩⟩⟩⟩⟩
theorem ir_okc_19 : ir_kC (16 * 19) ir_q19 := ⟨ir_ok_304, ⟨ir_ok_305, ⟨ir_ok_306, ⟨ir_ok_307, ⟨ir_ok_308, ⟨ir_ok_309, ⟨ir_ok_310, ⟨ir_ok_311, ⟨ir_ok_312, ⟨ir_ok_313, ⟨ir_ok_314, ⟨ir_ok_315, ⟨ir_ok_316, ⟨ir_ok_317, ⟨ir_ok_318, ⟨ir_ok_319, trivial⟩⟩⟩⟩⟩⟩⟩⟩⟩⟩⟩⟩⟩⟩⟩⟩
theorem ir_okc_20 : ir_kC (16 * 20) ir_q20 := ⟨ir_ok_320, ⟨ir_ok_321, ⟨ir_ok_322, ⟨ir_ok_323, ⟨ir_ok_324, ⟨ir_ok_325, ⟨ir_ok_326, ⟨ir_ok_327, ⟨ir_ok_328, ⟨ir_ok_329, ⟨ir_ok_330, ⟨ir_ok_331, ⟨ir_ok_332, ⟨ir_ok_333, ⟨ir_ok_334, ⟨ir_ok_335, trivial⟩⟩⟩⟩⟩⟩⟩⟩⟩⟩⟩⟩⟩⟩⟩⟩
theorem ir_okc_21 : ir_kC (16 * 21) ir_q21 := ⟨ir_ok_336, ⟨ir_ok_337, ⟨ir_ok_338, ⟨ir_ok_339, ⟨ir_ok_340, ⟨ir_ok_341, ⟨ir_ok_342, ⟨ir_ok_343, ⟨ir_ok_344, ⟨ir_ok_345, ⟨ir_ok_346, ⟨ir_ok_347, ⟨ir_ok_348, ⟨ir_ok_349, ⟨ir_ok_350, ⟨ir_ok_351, trivial⟩⟩⟩⟩⟩⟩⟩⟩⟩⟩⟩⟩⟩⟩⟩⟩
theorem ir_okc_22 : ir_kC (16 * 22) ir_q22 := ⟨ir_ok_352, ⟨ir_ok_353, ⟨ir_ok_354, ⟨ir_ok_355, ⟨ir_ok_356, ⟨ir_ok_357, ⟨ir_ok_358, ⟨ir_ok_359, ⟨ir_ok_360, ⟨ir_ok_361, ⟨ir_ok_362, ⟨ir_ok_363, ⟨ir_ok_364, ⟨ir_ok_365, ⟨ir_ok_366, ⟨ir_ok_367, trivial⟩⟩⟩⟩⟩⟩⟩⟩⟩⟩⟩⟩⟩⟩⟩⟩
theorem ir_okc_23 : ir_kC (16 * 23) ir_q23 := ⟨ir_ok_368, ⟨ir_ok_369, ⟨ir_ok_370, ⟨ir_ok_371, ⟨ir_ok_372, ⟨ir_ok_373, ⟨ir_ok_374, ⟨ir_ok_375, ⟨ir_ok_376, ⟨ir_ok_377, ⟨ir_ok_378, ⟨ir_ok_379, ⟨ir_ok_380, ⟨ir_ok_381, ⟨ir_ok_382, trivial⟩⟩⟩⟩⟩⟩⟩⟩⟩⟩⟩⟩⟩⟩⟩
theorem ir_okA : ir_kA 0 ir_prog := ⟨ir_okc_0, ⟨ir_okc_1, ⟨ir_okc_2, ⟨ir_okc_3, ⟨ir_okc_4, ⟨ir_okc_5, ⟨ir_okc_6, ⟨ir_okc_7, ⟨ir_okc_8, ⟨ir_okc_9, ⟨ir_okc_10, ⟨ir_okc_11, ⟨ir_okc_12, ⟨ir_okc_13, ⟨ir_okc_14, ⟨ir_okc_15, ⟨ir_okc_16, ⟨ir_okc_17, ⟨ir_okc_18, ⟨ir_okc_19, ⟨ir_okc_20, ⟨ir_okc_21, ⟨ir_okc_22, ⟨ir_okc_23, trivial⟩⟩⟩⟩⟩⟩⟩⟩⟩⟩⟩⟩⟩⟩⟩⟩⟩⟩⟩⟩⟩⟩⟩⟩
theorem ir_fetch_ok {y pc : Nat} {e : ir_E} (h : ir_fetch y pc = some e) : ir_okE y pc e = true := ir_fetch_of ir_okA h
theorem ir_hdA : (List.range 383).all (fun y => ir_hdp y (ir_hd y) (ir_hh y)) = true := by decide +kernel
theorem ir_hd_ok {y : Nat} (h : y < 383) : ir_hdp y (ir_hd y) (ir_hh y) = true := List.all_eq_true.mp ir_hdA y (List.mem_range.mpr h)
