/-! the law: each case answers alike -/
section LAW
variable {S : mS} {c d : Nat → Nat → Int32} {σ : Sg} {z : UInt32} {i : Nat}
theorem lw_read (hi : i + 4 ≤ S.1) (hS : S.1 < 2 ^ 31) (h : CI c σ) (hm : MI d σ) (ho : SOk σ) : ∃ c' d' σ', CI c' σ' ∧ MI d' σ' ∧ SOk σ' ∧ ∀ (K : Option Value → mM → Prop), go S 138 132 [.float z, .ref 0, .ref 20, .int (nI i)] [] (mk c (md d)) K = go S 138 815 [.float z, .ref 0, .ref 20, .int (nI i)] [] (mk c' (md d')) K := by
  obtain ⟨c1, h1, g1⟩ := C_read (S := S) (t := md d) h ho (S.2 (i + 1))
  obtain ⟨d1, m1, g2⟩ := M_read (S := S) (c := c1) hm ho (S.2 (i + 1))
  refine ⟨c1, d1, _, h1, m1, O_read ho _, fun K => ?_⟩
  have e1 : nI i + 1 = nI (i + 1) := nI_add i 1
  simp only [↓g138_132, ↓g138_133, ↓g138_134, ↓g138_135, ↓g138_136, ↓g138_137, ↓g138_138, ↓g138_141, ↓g138_142, ↓g138_143, ↓g138_144, ↓g138_145, ↓g138_146, ↓g138_147, ↓g138_150, ↓g138_153, ↓g138_154, e1, ib (show i + 1 < S.1 by omega) hS, nI_clamp (show i + 1 < 2 ^ 31 by omega), ↓mo_0, ↓mo_20, ↓cond_true, true_and, ↓g1, ↓g2, ↓m_pv_some, ↓reduceIte]
theorem lw_copy (hi : i + 4 ≤ S.1) (hS : S.1 < 2 ^ 31) (h : CI c σ) (hm : MI d σ) (ho : SOk σ) : ∃ c' d' σ', CI c' σ' ∧ MI d' σ' ∧ SOk σ' ∧ ∀ (K : Option Value → mM → Prop), go S 138 155 [.float z, .ref 0, .ref 20, .int (nI i)] [] (mk c (md d)) K = go S 138 815 [.float z, .ref 0, .ref 20, .int (nI i)] [] (mk c' (md d')) K := by
  obtain ⟨c1, h1, g1⟩ := C_copy (S := S) (t := md d) h ho (S.2 (i + 1)) (S.2 (i + 2))
  obtain ⟨d1, m1, g2⟩ := M_copy (S := S) (c := c1) hm ho (S.2 (i + 1)) (S.2 (i + 2))
  refine ⟨c1, d1, _, h1, m1, O_copy ho _ _, fun K => ?_⟩
  have e1 : nI i + 1 = nI (i + 1) := nI_add i 1
  have e2 : nI i + 2 = nI (i + 2) := nI_add i 2
  simp only [↓g138_155, ↓g138_156, ↓g138_157, ↓g138_158, ↓g138_159, ↓g138_160, ↓g138_161, ↓g138_162, ↓g138_163, ↓g138_164, ↓g138_165, ↓g138_166, ↓g138_169, ↓g138_170, ↓g138_171, ↓g138_172, ↓g138_173, ↓g138_174, ↓g138_175, ↓g138_176, ↓g138_177, ↓g138_178, ↓g138_179, ↓g138_180, ↓g138_183, ↓g138_186, ↓g138_187, e1, ib (show i + 1 < S.1 by omega) hS, nI_clamp (show i + 1 < 2 ^ 31 by omega), e2, ib (show i + 2 < S.1 by omega) hS, nI_clamp (show i + 2 < 2 ^ 31 by omega), ↓mo_0, ↓mo_20, ↓cond_true, true_and, ↓g1, ↓g2, ↓m_pv_some, ↓reduceIte]
theorem lw_apply (hi : i + 4 ≤ S.1) (hS : S.1 < 2 ^ 31) (h : CI c σ) (hm : MI d σ) (ho : SOk σ) : ∃ c' d' σ', CI c' σ' ∧ MI d' σ' ∧ SOk σ' ∧ ∀ (K : Option Value → mM → Prop), go S 138 188 [.float z, .ref 0, .ref 20, .int (nI i)] [] (mk c (md d)) K = go S 138 815 [.float z, .ref 0, .ref 20, .int (nI i)] [] (mk c' (md d')) K := by
  obtain ⟨c1, h1, g1⟩ := C_apply (S := S) (t := md d) h ho (S.2 (i + 1)) (S.2 (i + 2)) (S.2 (i + 3))
  obtain ⟨d1, m1, g2⟩ := M_apply (S := S) (c := c1) hm ho (S.2 (i + 1)) (S.2 (i + 2)) (S.2 (i + 3))
  refine ⟨c1, d1, _, h1, m1, O_apply ho _ _ _, fun K => ?_⟩
  have e1 : nI i + 1 = nI (i + 1) := nI_add i 1
  have e2 : nI i + 2 = nI (i + 2) := nI_add i 2
  have e3 : nI i + 3 = nI (i + 3) := nI_add i 3
  simp only [↓g138_188, ↓g138_189, ↓g138_190, ↓g138_191, ↓g138_192, ↓g138_193, ↓g138_194, ↓g138_195, ↓g138_196, ↓g138_197, ↓g138_198, ↓g138_199, ↓g138_200, ↓g138_201, ↓g138_202, ↓g138_203, ↓g138_204, ↓g138_207, ↓g138_208, ↓g138_209, ↓g138_210, ↓g138_211, ↓g138_212, ↓g138_213, ↓g138_214, ↓g138_215, ↓g138_216, ↓g138_217, ↓g138_218, ↓g138_219, ↓g138_220, ↓g138_221, ↓g138_222, ↓g138_223, ↓g138_226, ↓g138_229, ↓g138_230, e1, ib (show i + 1 < S.1 by omega) hS, nI_clamp (show i + 1 < 2 ^ 31 by omega), e2, ib (show i + 2 < S.1 by omega) hS, nI_clamp (show i + 2 < 2 ^ 31 by omega), e3, ib (show i + 3 < S.1 by omega) hS, nI_clamp (show i + 3 < 2 ^ 31 by omega), ↓mo_0, ↓mo_20, ↓cond_true, true_and, ↓g1, ↓g2, ↓m_pv_some, ↓reduceIte]
theorem lw_bind (hi : i + 4 ≤ S.1) (hS : S.1 < 2 ^ 31) (h : CI c σ) (hm : MI d σ) (ho : SOk σ) : ∃ c' d' σ', CI c' σ' ∧ MI d' σ' ∧ SOk σ' ∧ ∀ (K : Option Value → mM → Prop), go S 138 231 [.float z, .ref 0, .ref 20, .int (nI i)] [] (mk c (md d)) K = go S 138 815 [.float z, .ref 0, .ref 20, .int (nI i)] [] (mk c' (md d')) K := by
  obtain ⟨c1, h1, g1⟩ := C_bind (S := S) (t := md d) h ho (S.2 (i + 1)) (S.2 (i + 2)) (S.2 (i + 3))
  obtain ⟨d1, m1, g2⟩ := M_bind (S := S) (c := c1) hm ho (S.2 (i + 1)) (S.2 (i + 2)) (S.2 (i + 3))
  refine ⟨c1, d1, _, h1, m1, O_bind ho _ _ _, fun K => ?_⟩
  have e1 : nI i + 1 = nI (i + 1) := nI_add i 1
  have e2 : nI i + 2 = nI (i + 2) := nI_add i 2
  have e3 : nI i + 3 = nI (i + 3) := nI_add i 3
  simp only [↓g138_231, ↓g138_232, ↓g138_233, ↓g138_234, ↓g138_235, ↓g138_236, ↓g138_237, ↓g138_238, ↓g138_239, ↓g138_240, ↓g138_241, ↓g138_242, ↓g138_243, ↓g138_244, ↓g138_245, ↓g138_246, ↓g138_247, ↓g138_250, ↓g138_251, ↓g138_252, ↓g138_253, ↓g138_254, ↓g138_255, ↓g138_256, ↓g138_257, ↓g138_258, ↓g138_259, ↓g138_260, ↓g138_261, ↓g138_262, ↓g138_263, ↓g138_264, ↓g138_265, ↓g138_266, ↓g138_269, ↓g138_272, ↓g138_273, e1, ib (show i + 1 < S.1 by omega) hS, nI_clamp (show i + 1 < 2 ^ 31 by omega), e2, ib (show i + 2 < S.1 by omega) hS, nI_clamp (show i + 2 < 2 ^ 31 by omega), e3, ib (show i + 3 < S.1 by omega) hS, nI_clamp (show i + 3 < 2 ^ 31 by omega), ↓mo_0, ↓mo_20, ↓cond_true, true_and, ↓g1, ↓g2, ↓m_pv_some, ↓reduceIte]
theorem lw_step (hi : i + 4 ≤ S.1) (hS : S.1 < 2 ^ 31) (h : CI c σ) (hm : MI d σ) (ho : SOk σ) : ∃ c' d' σ', CI c' σ' ∧ MI d' σ' ∧ SOk σ' ∧ ∀ (K : Option Value → mM → Prop), go S 138 274 [.float z, .ref 0, .ref 20, .int (nI i)] [] (mk c (md d)) K = go S 138 815 [.float z, .ref 0, .ref 20, .int (nI i)] [] (mk c' (md d')) K := by
  obtain ⟨c1, h1, g1⟩ := C_step (S := S) (t := md d) h ho (S.2 (i + 1)) (S.2 (i + 2))
  obtain ⟨d1, m1, g2⟩ := M_step (S := S) (c := c1) hm ho (S.2 (i + 1)) (S.2 (i + 2))
  refine ⟨c1, d1, _, h1, m1, O_step ho _ _, fun K => ?_⟩
  have e1 : nI i + 1 = nI (i + 1) := nI_add i 1
  have e2 : nI i + 2 = nI (i + 2) := nI_add i 2
  simp only [↓g138_274, ↓g138_275, ↓g138_276, ↓g138_277, ↓g138_278, ↓g138_279, ↓g138_280, ↓g138_281, ↓g138_282, ↓g138_283, ↓g138_284, ↓g138_285, ↓g138_288, ↓g138_289, ↓g138_290, ↓g138_291, ↓g138_292, ↓g138_293, ↓g138_294, ↓g138_295, ↓g138_296, ↓g138_297, ↓g138_298, ↓g138_299, ↓g138_302, ↓g138_305, ↓g138_306, e1, ib (show i + 1 < S.1 by omega) hS, nI_clamp (show i + 1 < 2 ^ 31 by omega), e2, ib (show i + 2 < S.1 by omega) hS, nI_clamp (show i + 2 < 2 ^ 31 by omega), ↓mo_0, ↓mo_20, ↓cond_true, true_and, ↓g1, ↓g2, ↓m_pv_some, ↓reduceIte]
theorem lw_run (hi : i + 4 ≤ S.1) (hS : S.1 < 2 ^ 31) (h : CI c σ) (hm : MI d σ) (ho : SOk σ) : ∃ c' d' σ', CI c' σ' ∧ MI d' σ' ∧ SOk σ' ∧ ∀ (K : Option Value → mM → Prop), go S 138 307 [.float z, .ref 0, .ref 20, .int (nI i)] [] (mk c (md d)) K = go S 138 815 [.float z, .ref 0, .ref 20, .int (nI i)] [] (mk c' (md d')) K := by
  obtain ⟨c1, h1, g1⟩ := C_run (S := S) (t := md d) h ho (S.2 (i + 1)) (S.2 (i + 2)) (S.2 (i + 3))
  obtain ⟨d1, m1, g2⟩ := M_run (S := S) (c := c1) hm ho (S.2 (i + 1)) (S.2 (i + 2)) (S.2 (i + 3))
  refine ⟨c1, d1, _, h1, m1, O_run ho _ _ _, fun K => ?_⟩
  have e1 : nI i + 1 = nI (i + 1) := nI_add i 1
  have e2 : nI i + 2 = nI (i + 2) := nI_add i 2
  have e3 : nI i + 3 = nI (i + 3) := nI_add i 3
  simp only [↓g138_307, ↓g138_308, ↓g138_309, ↓g138_310, ↓g138_311, ↓g138_312, ↓g138_313, ↓g138_314, ↓g138_315, ↓g138_316, ↓g138_317, ↓g138_318, ↓g138_319, ↓g138_320, ↓g138_321, ↓g138_322, ↓g138_323, ↓g138_326, ↓g138_327, ↓g138_328, ↓g138_329, ↓g138_330, ↓g138_331, ↓g138_332, ↓g138_333, ↓g138_334, ↓g138_335, ↓g138_336, ↓g138_337, ↓g138_338, ↓g138_339, ↓g138_340, ↓g138_341, ↓g138_342, ↓g138_345, ↓g138_348, ↓g138_349, e1, ib (show i + 1 < S.1 by omega) hS, nI_clamp (show i + 1 < 2 ^ 31 by omega), e2, ib (show i + 2 < S.1 by omega) hS, nI_clamp (show i + 2 < 2 ^ 31 by omega), e3, ib (show i + 3 < S.1 by omega) hS, nI_clamp (show i + 3 < 2 ^ 31 by omega), ↓mo_0, ↓mo_20, ↓cond_true, true_and, ↓g1, ↓g2, ↓m_pv_some, ↓reduceIte]
theorem lw_of (hi : i + 4 ≤ S.1) (hS : S.1 < 2 ^ 31) (h : CI c σ) (hm : MI d σ) (ho : SOk σ) : ∃ c' d' σ', CI c' σ' ∧ MI d' σ' ∧ SOk σ' ∧ ∀ (K : Option Value → mM → Prop), go S 138 350 [.float z, .ref 0, .ref 20, .int (nI i)] [] (mk c (md d)) K = go S 138 815 [.float z, .ref 0, .ref 20, .int (nI i)] [] (mk c' (md d')) K := by
  obtain ⟨c1, h1, g1⟩ := C_of (S := S) (t := md d) h ho (S.2 (i + 1)) (S.2 (i + 2))
  obtain ⟨d1, m1, g2⟩ := M_of (S := S) (c := c1) hm ho (S.2 (i + 1)) (S.2 (i + 2))
  refine ⟨c1, d1, _, h1, m1, O_of ho _ _, fun K => ?_⟩
  have e1 : nI i + 1 = nI (i + 1) := nI_add i 1
  have e2 : nI i + 2 = nI (i + 2) := nI_add i 2
  simp only [↓g138_350, ↓g138_351, ↓g138_352, ↓g138_353, ↓g138_354, ↓g138_355, ↓g138_356, ↓g138_357, ↓g138_358, ↓g138_359, ↓g138_360, ↓g138_361, ↓g138_364, ↓g138_365, ↓g138_366, ↓g138_367, ↓g138_368, ↓g138_369, ↓g138_370, ↓g138_371, ↓g138_372, ↓g138_373, ↓g138_374, ↓g138_375, ↓g138_378, ↓g138_381, ↓g138_382, e1, ib (show i + 1 < S.1 by omega) hS, nI_clamp (show i + 1 < 2 ^ 31 by omega), e2, ib (show i + 2 < S.1 by omega) hS, nI_clamp (show i + 2 < 2 ^ 31 by omega), ↓mo_0, ↓mo_20, ↓cond_true, true_and, ↓g1, ↓g2, ↓m_pv_some, ↓reduceIte]
theorem lw_part (hi : i + 4 ≤ S.1) (hS : S.1 < 2 ^ 31) (h : CI c σ) (hm : MI d σ) (ho : SOk σ) : ∃ c' d' σ', CI c' σ' ∧ MI d' σ' ∧ SOk σ' ∧ ∀ (K : Option Value → mM → Prop), go S 138 383 [.float z, .ref 0, .ref 20, .int (nI i)] [] (mk c (md d)) K = go S 138 815 [.float z, .ref 0, .ref 20, .int (nI i)] [] (mk c' (md d')) K := by
  obtain ⟨c1, h1, g1⟩ := C_part (S := S) (t := md d) h ho (S.2 (i + 1)) (S.2 (i + 2)) (S.2 (i + 3))
  obtain ⟨d1, m1, g2⟩ := M_part (S := S) (c := c1) hm ho (S.2 (i + 1)) (S.2 (i + 2)) (S.2 (i + 3))
  refine ⟨c1, d1, _, h1, m1, O_part ho _ _ _, fun K => ?_⟩
  have e1 : nI i + 1 = nI (i + 1) := nI_add i 1
  have e2 : nI i + 2 = nI (i + 2) := nI_add i 2
  have e3 : nI i + 3 = nI (i + 3) := nI_add i 3
  simp only [↓g138_383, ↓g138_384, ↓g138_385, ↓g138_386, ↓g138_387, ↓g138_388, ↓g138_389, ↓g138_390, ↓g138_391, ↓g138_392, ↓g138_393, ↓g138_394, ↓g138_395, ↓g138_396, ↓g138_397, ↓g138_398, ↓g138_399, ↓g138_402, ↓g138_403, ↓g138_404, ↓g138_405, ↓g138_406, ↓g138_407, ↓g138_408, ↓g138_409, ↓g138_410, ↓g138_411, ↓g138_412, ↓g138_413, ↓g138_414, ↓g138_415, ↓g138_416, ↓g138_417, ↓g138_418, ↓g138_421, ↓g138_424, ↓g138_425, e1, ib (show i + 1 < S.1 by omega) hS, nI_clamp (show i + 1 < 2 ^ 31 by omega), e2, ib (show i + 2 < S.1 by omega) hS, nI_clamp (show i + 2 < 2 ^ 31 by omega), e3, ib (show i + 3 < S.1 by omega) hS, nI_clamp (show i + 3 < 2 ^ 31 by omega), ↓mo_0, ↓mo_20, ↓cond_true, true_and, ↓g1, ↓g2, ↓m_pv_some, ↓reduceIte]
theorem lw_named (hi : i + 4 ≤ S.1) (hS : S.1 < 2 ^ 31) (h : CI c σ) (hm : MI d σ) (ho : SOk σ) : ∃ c' d' σ', CI c' σ' ∧ MI d' σ' ∧ SOk σ' ∧ ∀ (K : Option Value → mM → Prop), go S 138 426 [.float z, .ref 0, .ref 20, .int (nI i)] [] (mk c (md d)) K = go S 138 815 [.float z, .ref 0, .ref 20, .int (nI i)] [] (mk c' (md d')) K := by
  obtain ⟨c1, h1, g1⟩ := C_named (S := S) (t := md d) h ho (S.2 (i + 1)) (S.2 (i + 2))
  obtain ⟨d1, m1, g2⟩ := M_named (S := S) (c := c1) hm ho (S.2 (i + 1)) (S.2 (i + 2))
  refine ⟨c1, d1, _, h1, m1, O_named ho _ _, fun K => ?_⟩
  have e1 : nI i + 1 = nI (i + 1) := nI_add i 1
  have e2 : nI i + 2 = nI (i + 2) := nI_add i 2
  simp only [↓g138_426, ↓g138_427, ↓g138_428, ↓g138_429, ↓g138_430, ↓g138_431, ↓g138_432, ↓g138_433, ↓g138_434, ↓g138_435, ↓g138_436, ↓g138_437, ↓g138_440, ↓g138_441, ↓g138_442, ↓g138_443, ↓g138_444, ↓g138_445, ↓g138_446, ↓g138_447, ↓g138_448, ↓g138_449, ↓g138_450, ↓g138_451, ↓g138_454, ↓g138_457, ↓g138_458, e1, ib (show i + 1 < S.1 by omega) hS, nI_clamp (show i + 1 < 2 ^ 31 by omega), e2, ib (show i + 2 < S.1 by omega) hS, nI_clamp (show i + 2 < 2 ^ 31 by omega), ↓mo_0, ↓mo_20, ↓cond_true, true_and, ↓g1, ↓g2, ↓m_pv_some, ↓reduceIte]
theorem lw_same (hi : i + 4 ≤ S.1) (hS : S.1 < 2 ^ 31) (h : CI c σ) (hm : MI d σ) (ho : SOk σ) : ∃ c' d' σ', CI c' σ' ∧ MI d' σ' ∧ SOk σ' ∧ ∀ (K : Option Value → mM → Prop), go S 138 459 [.float z, .ref 0, .ref 20, .int (nI i)] [] (mk c (md d)) K = go S 138 815 [.float z, .ref 0, .ref 20, .int (nI i)] [] (mk c' (md d')) K := by
  obtain ⟨c1, h1, g1⟩ := C_same (S := S) (t := md d) h (S.2 (i + 1)) (S.2 (i + 2))
  obtain ⟨d1, m1, g2⟩ := M_same (S := S) (c := c1) hm ho (S.2 (i + 1)) (S.2 (i + 2))
  refine ⟨c1, d1, _, h1, m1, O_same ho _ _, fun K => ?_⟩
  have e1 : nI i + 1 = nI (i + 1) := nI_add i 1
  have e2 : nI i + 2 = nI (i + 2) := nI_add i 2
  simp only [↓g138_459, ↓g138_460, ↓g138_461, ↓g138_462, ↓g138_463, ↓g138_464, ↓g138_465, ↓g138_466, ↓g138_467, ↓g138_468, ↓g138_469, ↓g138_470, ↓g138_473, ↓g138_474, ↓g138_475, ↓g138_476, ↓g138_477, ↓g138_478, ↓g138_479, ↓g138_480, ↓g138_481, ↓g138_482, ↓g138_483, ↓g138_484, ↓g138_487, ↓g138_490, ↓g138_491, e1, ib (show i + 1 < S.1 by omega) hS, nI_clamp (show i + 1 < 2 ^ 31 by omega), e2, ib (show i + 2 < S.1 by omega) hS, nI_clamp (show i + 2 < 2 ^ 31 by omega), ↓mo_0, ↓mo_20, ↓cond_true, true_and, ↓g1, ↓g2, ↓m_pv_some, ↓reduceIte]
theorem lw_count (hi : i + 4 ≤ S.1) (hS : S.1 < 2 ^ 31) (h : CI c σ) (hm : MI d σ) (ho : SOk σ) : ∃ c' d' σ', CI c' σ' ∧ MI d' σ' ∧ SOk σ' ∧ ∀ (K : Option Value → mM → Prop), go S 138 492 [.float z, .ref 0, .ref 20, .int (nI i)] [] (mk c (md d)) K = go S 138 815 [.float z, .ref 0, .ref 20, .int (nI i)] [] (mk c' (md d')) K := by
  obtain ⟨c1, h1, g1⟩ := C_count (S := S) (t := md d) h ho (S.2 (i + 1))
  obtain ⟨d1, m1, g2⟩ := M_count (S := S) (c := c1) hm ho (S.2 (i + 1))
  refine ⟨c1, d1, _, h1, m1, O_count ho _, fun K => ?_⟩
  have e1 : nI i + 1 = nI (i + 1) := nI_add i 1
  simp only [↓g138_492, ↓g138_493, ↓g138_494, ↓g138_495, ↓g138_496, ↓g138_497, ↓g138_498, ↓g138_501, ↓g138_502, ↓g138_503, ↓g138_504, ↓g138_505, ↓g138_506, ↓g138_507, ↓g138_510, ↓g138_513, ↓g138_514, e1, ib (show i + 1 < S.1 by omega) hS, nI_clamp (show i + 1 < 2 ^ 31 by omega), ↓mo_0, ↓mo_20, ↓cond_true, true_and, ↓g1, ↓g2, ↓m_pv_some, ↓reduceIte]
theorem lw_ends (hi : i + 4 ≤ S.1) (hS : S.1 < 2 ^ 31) (h : CI c σ) (hm : MI d σ) (ho : SOk σ) : ∃ c' d' σ', CI c' σ' ∧ MI d' σ' ∧ SOk σ' ∧ ∀ (K : Option Value → mM → Prop), go S 138 515 [.float z, .ref 0, .ref 20, .int (nI i)] [] (mk c (md d)) K = go S 138 815 [.float z, .ref 0, .ref 20, .int (nI i)] [] (mk c' (md d')) K := by
  obtain ⟨c1, h1, g1⟩ := C_ends (S := S) (t := md d) h ho (S.2 (i + 1)) (S.2 (i + 2)) (S.2 (i + 3))
  obtain ⟨d1, m1, g2⟩ := M_ends (S := S) (c := c1) hm ho (S.2 (i + 1)) (S.2 (i + 2)) (S.2 (i + 3))
  refine ⟨c1, d1, _, h1, m1, O_ends ho _ _ _, fun K => ?_⟩
  have e1 : nI i + 1 = nI (i + 1) := nI_add i 1
  have e2 : nI i + 2 = nI (i + 2) := nI_add i 2
  have e3 : nI i + 3 = nI (i + 3) := nI_add i 3
  simp only [↓g138_515, ↓g138_516, ↓g138_517, ↓g138_518, ↓g138_519, ↓g138_520, ↓g138_521, ↓g138_522, ↓g138_523, ↓g138_524, ↓g138_525, ↓g138_526, ↓g138_527, ↓g138_528, ↓g138_529, ↓g138_530, ↓g138_531, ↓g138_534, ↓g138_535, ↓g138_536, ↓g138_537, ↓g138_538, ↓g138_539, ↓g138_540, ↓g138_541, ↓g138_542, ↓g138_543, ↓g138_544, ↓g138_545, ↓g138_546, ↓g138_547, ↓g138_548, ↓g138_549, ↓g138_550, ↓g138_553, ↓g138_556, ↓g138_557, e1, ib (show i + 1 < S.1 by omega) hS, nI_clamp (show i + 1 < 2 ^ 31 by omega), e2, ib (show i + 2 < S.1 by omega) hS, nI_clamp (show i + 2 < 2 ^ 31 by omega), e3, ib (show i + 3 < S.1 by omega) hS, nI_clamp (show i + 3 < 2 ^ 31 by omega), ↓mo_0, ↓mo_20, ↓cond_true, true_and, ↓g1, ↓g2, ↓m_pv_some, ↓reduceIte]
theorem lw_agree (hi : i + 4 ≤ S.1) (hS : S.1 < 2 ^ 31) (h : CI c σ) (hm : MI d σ) (ho : SOk σ) : ∃ c' d' σ', CI c' σ' ∧ MI d' σ' ∧ SOk σ' ∧ ∀ (K : Option Value → mM → Prop), go S 138 558 [.float z, .ref 0, .ref 20, .int (nI i)] [] (mk c (md d)) K = go S 138 815 [.float z, .ref 0, .ref 20, .int (nI i)] [] (mk c' (md d')) K := by
  obtain ⟨c1, h1, g1⟩ := C_agree (S := S) (t := md d) h ho (S.2 (i + 1)) (S.2 (i + 2))
  obtain ⟨d1, m1, g2⟩ := M_agree (S := S) (c := c1) hm ho (S.2 (i + 1)) (S.2 (i + 2))
  refine ⟨c1, d1, _, h1, m1, O_agree ho _ _, fun K => ?_⟩
  have e1 : nI i + 1 = nI (i + 1) := nI_add i 1
  have e2 : nI i + 2 = nI (i + 2) := nI_add i 2
  simp only [↓g138_558, ↓g138_559, ↓g138_560, ↓g138_561, ↓g138_562, ↓g138_563, ↓g138_564, ↓g138_565, ↓g138_566, ↓g138_567, ↓g138_568, ↓g138_569, ↓g138_572, ↓g138_573, ↓g138_574, ↓g138_575, ↓g138_576, ↓g138_577, ↓g138_578, ↓g138_579, ↓g138_580, ↓g138_581, ↓g138_582, ↓g138_583, ↓g138_586, ↓g138_589, ↓g138_590, e1, ib (show i + 1 < S.1 by omega) hS, nI_clamp (show i + 1 < 2 ^ 31 by omega), e2, ib (show i + 2 < S.1 by omega) hS, nI_clamp (show i + 2 < 2 ^ 31 by omega), ↓mo_0, ↓mo_20, ↓cond_true, true_and, ↓g1, ↓g2, ↓m_pv_some, ↓reduceIte]
theorem lw_most (hi : i + 4 ≤ S.1) (hS : S.1 < 2 ^ 31) (h : CI c σ) (hm : MI d σ) (ho : SOk σ) : ∃ c' d' σ', CI c' σ' ∧ MI d' σ' ∧ SOk σ' ∧ ∀ (K : Option Value → mM → Prop), go S 138 591 [.float z, .ref 0, .ref 20, .int (nI i)] [] (mk c (md d)) K = go S 138 815 [.float z, .ref 0, .ref 20, .int (nI i)] [] (mk c' (md d')) K := by
  obtain ⟨c1, h1, g1⟩ := C_most (S := S) (t := md d) h ho (S.2 (i + 1)) (S.2 (i + 2)) (S.2 (i + 3))
  obtain ⟨d1, m1, g2⟩ := M_most (S := S) (c := c1) hm ho (S.2 (i + 1)) (S.2 (i + 2)) (S.2 (i + 3))
  refine ⟨c1, d1, _, h1, m1, O_most ho _ _ _, fun K => ?_⟩
  have e1 : nI i + 1 = nI (i + 1) := nI_add i 1
  have e2 : nI i + 2 = nI (i + 2) := nI_add i 2
  have e3 : nI i + 3 = nI (i + 3) := nI_add i 3
  simp only [↓g138_591, ↓g138_592, ↓g138_593, ↓g138_594, ↓g138_595, ↓g138_596, ↓g138_597, ↓g138_598, ↓g138_599, ↓g138_600, ↓g138_601, ↓g138_602, ↓g138_603, ↓g138_604, ↓g138_605, ↓g138_606, ↓g138_607, ↓g138_610, ↓g138_611, ↓g138_612, ↓g138_613, ↓g138_614, ↓g138_615, ↓g138_616, ↓g138_617, ↓g138_618, ↓g138_619, ↓g138_620, ↓g138_621, ↓g138_622, ↓g138_623, ↓g138_624, ↓g138_625, ↓g138_626, ↓g138_629, ↓g138_632, ↓g138_633, e1, ib (show i + 1 < S.1 by omega) hS, nI_clamp (show i + 1 < 2 ^ 31 by omega), e2, ib (show i + 2 < S.1 by omega) hS, nI_clamp (show i + 2 < 2 ^ 31 by omega), e3, ib (show i + 3 < S.1 by omega) hS, nI_clamp (show i + 3 < 2 ^ 31 by omega), ↓mo_0, ↓mo_20, ↓cond_true, true_and, ↓g1, ↓g2, ↓m_pv_some, ↓reduceIte]
theorem lw_alike (hi : i + 4 ≤ S.1) (hS : S.1 < 2 ^ 31) (h : CI c σ) (hm : MI d σ) (ho : SOk σ) : ∃ c' d' σ', CI c' σ' ∧ MI d' σ' ∧ SOk σ' ∧ ∀ (K : Option Value → mM → Prop), go S 138 634 [.float z, .ref 0, .ref 20, .int (nI i)] [] (mk c (md d)) K = go S 138 815 [.float z, .ref 0, .ref 20, .int (nI i)] [] (mk c' (md d')) K := by
  obtain ⟨c1, h1, g1⟩ := C_alike (S := S) (t := md d) h ho (S.2 (i + 1)) (S.2 (i + 2)) (S.2 (i + 3))
  obtain ⟨d1, m1, g2⟩ := M_alike (S := S) (c := c1) hm ho (S.2 (i + 1)) (S.2 (i + 2)) (S.2 (i + 3))
  refine ⟨c1, d1, _, h1, m1, O_alike ho _ _ _, fun K => ?_⟩
  have e1 : nI i + 1 = nI (i + 1) := nI_add i 1
  have e2 : nI i + 2 = nI (i + 2) := nI_add i 2
  have e3 : nI i + 3 = nI (i + 3) := nI_add i 3
  simp only [↓g138_634, ↓g138_635, ↓g138_636, ↓g138_637, ↓g138_638, ↓g138_639, ↓g138_640, ↓g138_641, ↓g138_642, ↓g138_643, ↓g138_644, ↓g138_645, ↓g138_646, ↓g138_647, ↓g138_648, ↓g138_649, ↓g138_650, ↓g138_653, ↓g138_654, ↓g138_655, ↓g138_656, ↓g138_657, ↓g138_658, ↓g138_659, ↓g138_660, ↓g138_661, ↓g138_662, ↓g138_663, ↓g138_664, ↓g138_665, ↓g138_666, ↓g138_667, ↓g138_668, ↓g138_669, ↓g138_672, ↓g138_675, ↓g138_676, e1, ib (show i + 1 < S.1 by omega) hS, nI_clamp (show i + 1 < 2 ^ 31 by omega), e2, ib (show i + 2 < S.1 by omega) hS, nI_clamp (show i + 2 < 2 ^ 31 by omega), e3, ib (show i + 3 < S.1 by omega) hS, nI_clamp (show i + 3 < 2 ^ 31 by omega), ↓mo_0, ↓mo_20, ↓cond_true, true_and, ↓g1, ↓g2, ↓m_pv_some, ↓reduceIte]
theorem lw_put (hi : i + 4 ≤ S.1) (hS : S.1 < 2 ^ 31) (h : CI c σ) (hm : MI d σ) (ho : SOk σ) : ∃ c' d' σ', CI c' σ' ∧ MI d' σ' ∧ SOk σ' ∧ ∀ (K : Option Value → mM → Prop), go S 138 677 [.float z, .ref 0, .ref 20, .int (nI i)] [] (mk c (md d)) K = go S 138 815 [.float z, .ref 0, .ref 20, .int (nI i)] [] (mk c' (md d')) K := by
  obtain ⟨r, hr, er⟩ := wb_of (((S.2 (i + 1)).toInt64 <<< ((32 : Int32).toInt64 &&& 63)) ||| ((S.2 (i + 2)).toInt64 &&& 4294967295))
  obtain ⟨c1, h1, g1⟩ := C_put (S := S) (t := md d) h hr
  obtain ⟨d1, m1, g2⟩ := M_put (S := S) (c := c1) hm ho hr
  rw [← er] at g1 g2
  refine ⟨c1, d1, _, h1, m1, O_put ho _, fun K => ?_⟩
  have e1 : nI i + 1 = nI (i + 1) := nI_add i 1
  have e2 : nI i + 2 = nI (i + 2) := nI_add i 2
  simp only [↓g138_677, ↓g138_678, ↓g138_679, ↓g138_680, ↓g138_681, ↓g138_682, ↓g138_683, ↓g138_684, ↓g138_686, ↓g138_687, ↓g138_688, ↓g138_689, ↓g138_690, ↓g138_691, ↓g138_692, ↓g138_693, ↓g138_696, ↓g138_697, ↓g138_698, ↓g138_701, ↓g138_702, ↓g138_703, ↓g138_704, ↓g138_705, ↓g138_706, ↓g138_707, ↓g138_708, ↓g138_710, ↓g138_711, ↓g138_712, ↓g138_713, ↓g138_714, ↓g138_715, ↓g138_716, ↓g138_717, ↓g138_720, ↓g138_721, ↓g138_722, ↓g138_725, ↓g138_728, ↓g138_729, e1, ib (show i + 1 < S.1 by omega) hS, nI_clamp (show i + 1 < 2 ^ 31 by omega), e2, ib (show i + 2 < S.1 by omega) hS, nI_clamp (show i + 2 < 2 ^ 31 by omega), ↓mo_0, ↓mo_20, ↓cond_true, true_and, ↓g1, ↓g2, ↓m_pv_some, ↓reduceIte]
theorem lw_wipe (hi : i + 4 ≤ S.1) (hS : S.1 < 2 ^ 31) (h : CI c σ) (hm : MI d σ) (ho : SOk σ) : ∃ c' d' σ', CI c' σ' ∧ MI d' σ' ∧ SOk σ' ∧ ∀ (K : Option Value → mM → Prop), go S 138 730 [.float z, .ref 0, .ref 20, .int (nI i)] [] (mk c (md d)) K = go S 138 815 [.float z, .ref 0, .ref 20, .int (nI i)] [] (mk c' (md d')) K := by
  obtain ⟨c1, h1, g1⟩ := C_wipe (S := S) (t := md d) h
  obtain ⟨d1, m1, g2⟩ := M_wipe (S := S) (c := c1) hm
  refine ⟨c1, d1, _, h1, m1, O_wipe ho, fun K => ?_⟩
  simp only [↓g138_730, ↓g138_731, ↓g138_734, ↓g138_735, ↓g138_738, ↓g138_741, ↓g138_742, ↓mo_0, ↓mo_20, ↓cond_true, true_and, ↓g1, ↓g2, ↓m_pv_some, ↓reduceIte]
theorem lw_fault (hi : i + 4 ≤ S.1) (hS : S.1 < 2 ^ 31) (h : CI c σ) (hm : MI d σ) (ho : SOk σ) : ∃ c' d' σ', CI c' σ' ∧ MI d' σ' ∧ SOk σ' ∧ ∀ (K : Option Value → mM → Prop), go S 138 743 [.float z, .ref 0, .ref 20, .int (nI i)] [] (mk c (md d)) K = go S 138 815 [.float z, .ref 0, .ref 20, .int (nI i)] [] (mk c' (md d')) K := by
  obtain ⟨c1, h1, g1⟩ := C_fault (S := S) (t := md d) h ho
  obtain ⟨d1, m1, g2⟩ := M_fault (S := S) (c := c1) hm ho
  refine ⟨c1, d1, _, h1, m1, O_fault ho, fun K => ?_⟩
  simp only [↓g138_743, ↓g138_744, ↓g138_747, ↓g138_748, ↓g138_751, ↓g138_754, ↓g138_755, ↓mo_0, ↓mo_20, ↓cond_true, true_and, ↓g1, ↓g2, ↓m_pv_some, ↓reduceIte]
theorem lw_undo (hi : i + 4 ≤ S.1) (hS : S.1 < 2 ^ 31) (h : CI c σ) (hm : MI d σ) (ho : SOk σ) : ∃ c' d' σ', CI c' σ' ∧ MI d' σ' ∧ SOk σ' ∧ ∀ (K : Option Value → mM → Prop), go S 138 756 [.float z, .ref 0, .ref 20, .int (nI i)] [] (mk c (md d)) K = go S 138 815 [.float z, .ref 0, .ref 20, .int (nI i)] [] (mk c' (md d')) K := by
  obtain ⟨c1, h1, g1⟩ := C_undo (S := S) (t := md d) h ho
  obtain ⟨d1, m1, g2⟩ := M_undo (S := S) (c := c1) hm ho
  refine ⟨c1, d1, _, h1, m1, O_undo ho, fun K => ?_⟩
  simp only [↓g138_756, ↓g138_757, ↓g138_760, ↓g138_761, ↓g138_764, ↓g138_767, ↓g138_768, ↓mo_0, ↓mo_20, ↓cond_true, true_and, ↓g1, ↓g2, ↓m_pv_some, ↓reduceIte]
theorem lw_save (hi : i + 4 ≤ S.1) (hS : S.1 < 2 ^ 31) (h : CI c σ) (hm : MI d σ) (ho : SOk σ) : ∃ c' d' σ', CI c' σ' ∧ MI d' σ' ∧ SOk σ' ∧ ∀ (K : Option Value → mM → Prop), go S 138 769 [.float z, .ref 0, .ref 20, .int (nI i)] [] (mk c (md d)) K = go S 138 815 [.float z, .ref 0, .ref 20, .int (nI i)] [] (mk c' (md d')) K := by
  obtain ⟨c1, h1, g1⟩ := C_save (S := S) (t := md d) h (S.2 (i + 1))
  obtain ⟨d1, m1, g2⟩ := M_save (S := S) (c := c1) hm ho (S.2 (i + 1))
  refine ⟨c1, d1, _, h1, m1, O_save ho _, fun K => ?_⟩
  have e1 : nI i + 1 = nI (i + 1) := nI_add i 1
  simp only [↓g138_769, ↓g138_770, ↓g138_771, ↓g138_772, ↓g138_773, ↓g138_774, ↓g138_775, ↓g138_778, ↓g138_779, ↓g138_780, ↓g138_781, ↓g138_782, ↓g138_783, ↓g138_784, ↓g138_787, ↓g138_790, ↓g138_791, e1, ib (show i + 1 < S.1 by omega) hS, nI_clamp (show i + 1 < 2 ^ 31 by omega), ↓mo_0, ↓mo_20, ↓cond_true, true_and, ↓g1, ↓g2, ↓m_pv_some, ↓reduceIte]
theorem lw_restore (hi : i + 4 ≤ S.1) (hS : S.1 < 2 ^ 31) (h : CI c σ) (hm : MI d σ) (ho : SOk σ) : ∃ c' d' σ', CI c' σ' ∧ MI d' σ' ∧ SOk σ' ∧ ∀ (K : Option Value → mM → Prop), go S 138 792 [.float z, .ref 0, .ref 20, .int (nI i)] [] (mk c (md d)) K = go S 138 815 [.float z, .ref 0, .ref 20, .int (nI i)] [] (mk c' (md d')) K := by
  obtain ⟨c1, h1, g1⟩ := C_restore (S := S) (t := md d) h ho (S.2 (i + 1))
  obtain ⟨d1, m1, g2⟩ := M_restore (S := S) (c := c1) hm ho (S.2 (i + 1))
  refine ⟨c1, d1, _, h1, m1, O_restore ho _, fun K => ?_⟩
  have e1 : nI i + 1 = nI (i + 1) := nI_add i 1
  simp only [↓g138_792, ↓g138_793, ↓g138_794, ↓g138_795, ↓g138_796, ↓g138_797, ↓g138_798, ↓g138_801, ↓g138_802, ↓g138_803, ↓g138_804, ↓g138_805, ↓g138_806, ↓g138_807, ↓g138_810, ↓g138_813, ↓g138_814, e1, ib (show i + 1 < S.1 by omega) hS, nI_clamp (show i + 1 < 2 ^ 31 by omega), ↓mo_0, ↓mo_20, ↓cond_true, true_and, ↓g1, ↓g2, ↓m_pv_some, ↓reduceIte]
end LAW
