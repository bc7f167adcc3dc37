set_option maxRecDepth 100000 in
theorem kv_327 : kl_327.all (ky_ck 327) = true := by
  simp only [kl_327, List.all_append, kv_327_0, kv_327_1, kv_327_2, kv_327_3, kv_327_4, kv_327_5, kv_327_6, kv_327_7, kv_327_8, kv_327_9, kv_327_10, kv_327_11, kv_327_12, kv_327_13, kv_327_14, Bool.and_true]
def ky_fa : Nat → List (List (Nat × ky_I)) → Prop
  | _, [] => True
  | m, l :: r => l.all (ky_ck m) = true ∧ ky_fa (m + 1) r
set_option maxRecDepth 100000 in
theorem ky_fa_all : ky_fa 0 ky_all := ⟨kv_0, kv_1, kv_2, kv_3, kv_4, kv_5, kv_6, kv_7, kv_8, kv_9, kv_10, kv_11, kv_12, kv_13, kv_14, kv_15, kv_16, kv_17, kv_18, kv_19, kv_20, kv_21, kv_22, kv_23, kv_24, kv_25, kv_26, kv_27, kv_28, kv_29, kv_30, kv_31, kv_32, kv_33, kv_34, kv_35, kv_36, kv_37, kv_38, kv_39, kv_40, kv_41, kv_42, kv_43, kv_44, kv_45, kv_46, kv_47, kv_48, kv_49, kv_50, kv_51, kv_52, kv_53, kv_54, kv_55, kv_56, kv_57, kv_58, kv_59, kv_60, kv_61, kv_62, kv_63, kv_64, kv_65, kv_66, kv_67, kv_68, kv_69, kv_70, kv_71, kv_72, kv_73, kv_74, kv_75, kv_76, kv_77, kv_78, kv_79, kv_80, kv_81, kv_82, kv_83, kv_84, kv_85, kv_86, kv_87, kv_88, kv_89, kv_90, kv_91, kv_92, kv_93, kv_94, kv_95, kv_96, kv_97, kv_98, kv_99, kv_100, kv_101, kv_102, kv_103, kv_104, kv_105, kv_106, kv_107, kv_108, kv_109, kv_110, kv_111, kv_112, kv_113, kv_114, kv_115, kv_116, kv_117, kv_118, kv_119, kv_120, kv_121, kv_122, kv_123, kv_124, kv_125, kv_126, kv_127, kv_128, kv_129, kv_130, kv_131, kv_132, kv_133, kv_134, kv_135, kv_136, kv_137, kv_138, kv_139, kv_140, kv_141, kv_142, kv_143, kv_144, kv_145, kv_146, kv_147, kv_148, kv_149, kv_150, kv_151, kv_152, kv_153, kv_154, kv_155, kv_156, kv_157, kv_158, kv_159, kv_160, kv_161, kv_162, kv_163, kv_164, kv_165, kv_166, kv_167, kv_168, kv_169, kv_170, kv_171, kv_172, kv_173, kv_174, kv_175, kv_176, kv_177, kv_178, kv_179, kv_180, kv_181, kv_182, kv_183, kv_184, kv_185, kv_186, kv_187, kv_188, kv_189, kv_190, kv_191, kv_192, kv_193, kv_194, kv_195, kv_196, kv_197, kv_198, kv_199, kv_200, kv_201, kv_202, kv_203, kv_204, kv_205, kv_206, kv_207, kv_208, kv_209, kv_210, kv_211, kv_212, kv_213, kv_214, kv_215, kv_216, kv_217, kv_218, kv_219, kv_220, kv_221, kv_222, kv_223, kv_224, kv_225, kv_226, kv_227, kv_228, kv_229, kv_230, kv_231, kv_232, kv_233, kv_234, kv_235, kv_236, kv_237, kv_238, kv_239, kv_240, kv_241, kv_242, kv_243, kv_244, kv_245, kv_246, kv_247, kv_248, kv_249, kv_250, kv_251, kv_252, kv_253, kv_254, kv_255, kv_256, kv_257, kv_258, kv_259, kv_260, kv_261, kv_262, kv_263, kv_264, kv_265, kv_266, kv_267, kv_268, kv_269, kv_270, kv_271, kv_272, kv_273, kv_274, kv_275, kv_276, kv_277, kv_278, kv_279, kv_280, kv_281, kv_282, kv_283, kv_284, kv_285, kv_286, kv_287, kv_288, kv_289, kv_290, kv_291, kv_292, kv_293, kv_294, kv_295, kv_296, kv_297, kv_298, kv_299, kv_300, kv_301, kv_302, kv_303, kv_304, kv_305, kv_306, kv_307, kv_308, kv_309, kv_310, kv_311, kv_312, kv_313, kv_314, kv_315, kv_316, kv_317, kv_318, kv_319, kv_320, kv_321, kv_322, kv_323, kv_324, kv_325, kv_326, kv_327, trivial⟩
theorem ky_fa_get : ∀ (L : List (List (Nat × ky_I))) (m k : Nat), ky_fa m L → (L.getD k []).all (ky_ck (m + k)) = true
  | [], _, _, _ => rfl
  | _ :: _, _, 0, h => h.1
  | _ :: r, m, k + 1, h => by
    have h2 := ky_fa_get r (m + 1) k h.2
    rw [show m + 1 + k = m + (k + 1) by omega] at h2
    exact h2
theorem ky_lk_mem : ∀ (l : List (Nat × ky_I)) (pc : Nat) (e : ky_I), ky_lk l pc = some e → (pc, e) ∈ l
  | [], _, _, h => by cases h
  | (q, e0) :: r, pc, e, h => by
    simp only [ky_lk] at h
    split at h
    · next hq => cases h; rw [hq]; exact List.mem_cons_self
    · exact List.mem_cons_of_mem _ (ky_lk_mem r pc e h)
/-- what is known of a row that is there -/
theorem ky_ckd {m pc : Nat} {e : ky_I} (h : ky_cd m pc = some e) : decode (ky_by m) pc = .ok (e.1, e.2.1) ∧ ky_ci m pc e.1 e.2.1 e.2.2.1 e.2.2.2.1 e.2.2.2.2.1 e.2.2.2.2.2.1 e.2.2.2.2.2.2.1 e.2.2.2.2.2.2.2 = true := by
  have h1 := ky_fa_get ky_all 0 m ky_fa_all
  rw [Nat.zero_add] at h1
  have h2 := List.all_eq_true.mp h1 _ (ky_lk_mem _ _ _ h)
  simp only [ky_ck, Bool.and_eq_true, decide_eq_true_eq] at h2
  exact h2
