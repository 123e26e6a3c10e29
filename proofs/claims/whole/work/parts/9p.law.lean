/-! THE LAW'S LOOP. -/
theorem lg_self (X : Int64) : lg_cmp X X = nI 0 := (lg_cmp_eq X X).mpr rfl
theorem lt_sub {L i : Nat} (hL : L ≤ 4000) (hi : i ≤ 4000) : (nI L - nI 6 < nI i) = (L < i + 6) := propext (by
  rw [Int32.lt_iff_toInt_lt, nI_toInt (by omega), pk_sub_toInt (by omega) (by omega)]
  omega)
section Law
variable {q : Nat × Nat} {w : Bool} {I : ms_i} {J : ms_j} {σ : ms_M}
theorem lr_start {f : Nat → Int32} {i : Nat} (h : ms_iv f I J) (hi : i + 6 ≤ q.1) (hq : q.1 ≤ 3072) : ∃ (q' : Nat × Nat) (I' : ms_i) (J' : ms_j), (∀ w l5 l6, ∃ w' l5' l6', ms_G 145 108 [.ref (ms_ad 0 0), .ref (ms_ad 3 0), .ref (ms_ad 40 0), .ref (ms_ad 66 0), .int (nI i), l5, l6] [] (ms_Z q w I J) = ms_G 145 875 [.ref (ms_ad 0 0), .ref (ms_ad 3 0), .ref (ms_ad 40 0), .ref (ms_ad 66 0), .int (nI i), l5', l6'] [] (ms_Z q' w' I' J')) ∧ q'.1 = q.1 ∧ q'.2 ≤ q.2 + 1 ∧ ms_iv f I' J' := by
  obtain ⟨q', k, w1, w2, I1, J1, I2, J2, c1, c2, e40, q1, q2, e0, iv⟩ := lo_start (q := q) (x := I 0 0 (i + 1)) (y := I 0 0 (i + 2)) h
  have hs : ∀ j, I1 0 0 j = I 0 0 j := fun j => by rw [e0, ← h.1]
  refine ⟨q', I2, J2, fun w l5 l6 => ⟨w || w1 || w2, .int (nI k), l6, ?_⟩, q1, q2, iv⟩
  simp (disch := omega) only [↓mi_145_108, ↓mi_145_109, ↓mi_145_110, ↓mi_145_112, ↓mi_145_113, ↓mi_145_114, ↓mi_145_115, ↓mi_145_116, ↓mi_145_118, ↓mi_145_119, ↓mi_145_120, ↓mi_145_121, ↓mi_145_124, ↓mi_145_126, ↓mi_145_127, ↓mi_145_128, ↓mi_145_130, ↓mi_145_131, ↓mi_145_132, ↓mi_145_133, ↓mi_145_134, ↓mi_145_136, ↓mi_145_137, ↓mi_145_138, ↓mi_145_139, ↓mi_145_142, ↓mi_145_143, ↓mi_145_146, ↓mi_145_148, ↓mi_145_151, ↓mi_145_152, ↓mi_145_152_1, ↓mi_145_152_b, ↓mi_145_153, cond_true, mz_clv, mz_cln, Bool.false_or, Bool.true_or, Bool.or_false, Bool.or_true, if_true, if_false, ite_self, na_up, hs, c1, c2, sp_17, e40]
theorem lr_secret {f : Nat → Int32} {i : Nat} (h : ms_iv f I J) (hi : i + 6 ≤ q.1) (hq : q.1 ≤ 3072) : ∃ (q' : Nat × Nat) (I' : ms_i) (J' : ms_j), (∀ w l5 l6, ∃ w' l5' l6', ms_G 145 156 [.ref (ms_ad 0 0), .ref (ms_ad 3 0), .ref (ms_ad 40 0), .ref (ms_ad 66 0), .int (nI i), l5, l6] [] (ms_Z q w I J) = ms_G 145 875 [.ref (ms_ad 0 0), .ref (ms_ad 3 0), .ref (ms_ad 40 0), .ref (ms_ad 66 0), .int (nI i), l5', l6'] [] (ms_Z q' w' I' J')) ∧ q'.1 = q.1 ∧ q'.2 ≤ q.2 + 1 ∧ ms_iv f I' J' := by
  obtain ⟨q', k, w1, w2, I1, J1, I2, J2, c1, c2, e40, q1, q2, e0, iv⟩ := lo_secret (q := q) (x := I 0 0 (i + 1)) (y := I 0 0 (i + 2)) (a := I 0 0 (i + 3)) (b := I 0 0 (i + 4)) h
  have hs : ∀ j, I1 0 0 j = I 0 0 j := fun j => by rw [e0, ← h.1]
  refine ⟨q', I2, J2, fun w l5 l6 => ⟨w || w1 || w2, .int (nI k), l6, ?_⟩, q1, q2, iv⟩
  simp (disch := omega) only [↓mi_145_156, ↓mi_145_157, ↓mi_145_158, ↓mi_145_160, ↓mi_145_161, ↓mi_145_162, ↓mi_145_163, ↓mi_145_164, ↓mi_145_166, ↓mi_145_167, ↓mi_145_168, ↓mi_145_169, ↓mi_145_170, ↓mi_145_172, ↓mi_145_173, ↓mi_145_174, ↓mi_145_175, ↓mi_145_176, ↓mi_145_178, ↓mi_145_179, ↓mi_145_180, ↓mi_145_181, ↓mi_145_184, ↓mi_145_186, ↓mi_145_187, ↓mi_145_188, ↓mi_145_190, ↓mi_145_191, ↓mi_145_192, ↓mi_145_193, ↓mi_145_194, ↓mi_145_196, ↓mi_145_197, ↓mi_145_198, ↓mi_145_199, ↓mi_145_200, ↓mi_145_202, ↓mi_145_203, ↓mi_145_204, ↓mi_145_205, ↓mi_145_206, ↓mi_145_208, ↓mi_145_209, ↓mi_145_210, ↓mi_145_211, ↓mi_145_214, ↓mi_145_215, ↓mi_145_218, ↓mi_145_220, ↓mi_145_223, ↓mi_145_224, ↓mi_145_224_1, ↓mi_145_224_b, ↓mi_145_225, cond_true, mz_clv, mz_cln, Bool.false_or, Bool.true_or, Bool.or_false, Bool.or_true, if_true, if_false, ite_self, na_up, hs, c1, c2, sp_17, e40]
theorem lr_input {f : Nat → Int32} {i : Nat} (h : ms_iv f I J) (hi : i + 6 ≤ q.1) (hq : q.1 ≤ 3072) : ∃ (q' : Nat × Nat) (I' : ms_i) (J' : ms_j), (∀ w l5 l6, ∃ w' l5' l6', ms_G 145 228 [.ref (ms_ad 0 0), .ref (ms_ad 3 0), .ref (ms_ad 40 0), .ref (ms_ad 66 0), .int (nI i), l5, l6] [] (ms_Z q w I J) = ms_G 145 875 [.ref (ms_ad 0 0), .ref (ms_ad 3 0), .ref (ms_ad 40 0), .ref (ms_ad 66 0), .int (nI i), l5', l6'] [] (ms_Z q' w' I' J')) ∧ q'.1 = q.1 ∧ q'.2 ≤ q.2 + 1 ∧ ms_iv f I' J' := by
  obtain ⟨q', k, w1, w2, I1, J1, I2, J2, c1, c2, e40, q1, q2, e0, iv⟩ := lo_input (q := q) (x := I 0 0 (i + 1)) (y := I 0 0 (i + 2)) (a := I 0 0 (i + 3)) h
  have hs : ∀ j, I1 0 0 j = I 0 0 j := fun j => by rw [e0, ← h.1]
  refine ⟨q', I2, J2, fun w l5 l6 => ⟨w || w1 || w2, .int (nI k), l6, ?_⟩, q1, q2, iv⟩
  simp (disch := omega) only [↓mi_145_228, ↓mi_145_229, ↓mi_145_230, ↓mi_145_232, ↓mi_145_233, ↓mi_145_234, ↓mi_145_235, ↓mi_145_236, ↓mi_145_238, ↓mi_145_239, ↓mi_145_240, ↓mi_145_241, ↓mi_145_242, ↓mi_145_244, ↓mi_145_245, ↓mi_145_246, ↓mi_145_247, ↓mi_145_250, ↓mi_145_252, ↓mi_145_253, ↓mi_145_254, ↓mi_145_256, ↓mi_145_257, ↓mi_145_258, ↓mi_145_259, ↓mi_145_260, ↓mi_145_262, ↓mi_145_263, ↓mi_145_264, ↓mi_145_265, ↓mi_145_266, ↓mi_145_268, ↓mi_145_269, ↓mi_145_270, ↓mi_145_271, ↓mi_145_274, ↓mi_145_275, ↓mi_145_278, ↓mi_145_280, ↓mi_145_283, ↓mi_145_284, ↓mi_145_284_1, ↓mi_145_284_b, ↓mi_145_285, cond_true, mz_clv, mz_cln, Bool.false_or, Bool.true_or, Bool.or_false, Bool.or_true, if_true, if_false, ite_self, na_up, hs, c1, c2, sp_17, e40]
theorem lr_step {f : Nat → Int32} {i : Nat} (h : ms_iv f I J) (hi : i + 6 ≤ q.1) (hq : q.1 ≤ 3072) : ∃ (q' : Nat × Nat) (I' : ms_i) (J' : ms_j), (∀ w l5 l6, ∃ w' l5' l6', ms_G 145 288 [.ref (ms_ad 0 0), .ref (ms_ad 3 0), .ref (ms_ad 40 0), .ref (ms_ad 66 0), .int (nI i), l5, l6] [] (ms_Z q w I J) = ms_G 145 875 [.ref (ms_ad 0 0), .ref (ms_ad 3 0), .ref (ms_ad 40 0), .ref (ms_ad 66 0), .int (nI i), l5', l6'] [] (ms_Z q' w' I' J')) ∧ q'.1 = q.1 ∧ q'.2 ≤ q.2 + 1 ∧ ms_iv f I' J' := by
  obtain ⟨q', k, b, w1, w2, I1, J1, I2, J2, c1, c2, e40, lk, hJ, q1, q2, e0, iv⟩ := lo_step (q := q) (x := I 0 0 (i + 1)) h
  have hs : ∀ j, I1 0 0 j = I 0 0 j := fun j => by rw [e0, ← h.1]
  refine ⟨q', I2, J2, fun w l5 l6 => ⟨w || w1 || w2, .int (nI k), .int (ms_b b), ?_⟩, q1, q2, iv⟩
  by_cases hk : k = 0
  · have hJ' := hJ hk
    subst hk
    cases b with
    | true =>
      rw [if_pos rfl] at hJ'
      simp (disch := omega) only [↓mi_145_288, ↓mi_145_289, ↓mi_145_290, ↓mi_145_292, ↓mi_145_293, ↓mi_145_294, ↓mi_145_295, ↓mi_145_296, ↓mi_145_299, ↓mi_145_301, ↓mi_145_302, ↓mi_145_303, ↓mi_145_305, ↓mi_145_306, ↓mi_145_307, ↓mi_145_308, ↓mi_145_311, ↓mi_145_313, ↓mi_145_314, ↓mi_145_317, ↓mi_145_319, ↓mi_145_322, ↓mi_145_323, ↓mi_145_323_1, ↓mi_145_323_b, ↓mi_145_324, ↓mi_145_326, ↓mi_145_329, ↓mi_145_330, ↓mi_145_331, ↓mi_145_332, ↓mi_145_334, ↓mi_145_337, ↓mi_145_338, ↓mi_145_341, ↓mi_145_342, ↓mi_145_343, ↓mi_145_346, ↓mi_145_347, ↓mi_145_347_1, ↓mi_145_347_b, ↓mi_145_348, cond_true, mz_clv, mz_cln, Bool.false_or, Bool.true_or, Bool.or_false, Bool.or_true, if_true, if_false, ite_self, o1_66, na_up, na_eq, hs, c1, c2, sp_17, e40, hJ', if_neg b_t, lg_self]
    | false =>
      rw [if_neg Bool.false_ne_true] at hJ'
      simp (disch := omega) only [↓mi_145_288, ↓mi_145_289, ↓mi_145_290, ↓mi_145_292, ↓mi_145_293, ↓mi_145_294, ↓mi_145_295, ↓mi_145_296, ↓mi_145_299, ↓mi_145_301, ↓mi_145_302, ↓mi_145_303, ↓mi_145_305, ↓mi_145_306, ↓mi_145_307, ↓mi_145_308, ↓mi_145_311, ↓mi_145_313, ↓mi_145_314, ↓mi_145_317, ↓mi_145_319, ↓mi_145_322, ↓mi_145_323, ↓mi_145_323_1, ↓mi_145_323_b, ↓mi_145_324, ↓mi_145_326, ↓mi_145_329, ↓mi_145_330, ↓mi_145_331, ↓mi_145_332, ↓mi_145_334, ↓mi_145_337, ↓mi_145_338, ↓mi_145_341, ↓mi_145_342, ↓mi_145_343, ↓mi_145_346, ↓mi_145_347, ↓mi_145_347_1, ↓mi_145_347_b, ↓mi_145_348, cond_true, mz_clv, mz_cln, Bool.false_or, Bool.true_or, Bool.or_false, Bool.or_true, if_true, if_false, ite_self, o1_66, na_up, na_eq, hs, c1, c2, sp_17, e40, hJ', if_pos b_f, lg_self]
  · simp (disch := omega) only [↓mi_145_288, ↓mi_145_289, ↓mi_145_290, ↓mi_145_292, ↓mi_145_293, ↓mi_145_294, ↓mi_145_295, ↓mi_145_296, ↓mi_145_299, ↓mi_145_301, ↓mi_145_302, ↓mi_145_303, ↓mi_145_305, ↓mi_145_306, ↓mi_145_307, ↓mi_145_308, ↓mi_145_311, ↓mi_145_313, ↓mi_145_314, ↓mi_145_317, ↓mi_145_319, ↓mi_145_322, ↓mi_145_323, ↓mi_145_323_1, ↓mi_145_323_b, ↓mi_145_324, ↓mi_145_326, ↓mi_145_329, ↓mi_145_330, ↓mi_145_331, ↓mi_145_332, ↓mi_145_334, ↓mi_145_337, ↓mi_145_338, ↓mi_145_341, ↓mi_145_342, ↓mi_145_343, ↓mi_145_346, ↓mi_145_347, ↓mi_145_347_1, ↓mi_145_347_b, ↓mi_145_348, cond_true, mz_clv, mz_cln, Bool.false_or, Bool.true_or, Bool.or_false, Bool.or_true, if_true, if_false, ite_self, na_up, na_eq, hs, c1, c2, sp_17, e40, if_neg]
theorem lr_close {f : Nat → Int32} {i : Nat} (h : ms_iv f I J) (hi : i + 6 ≤ q.1) (hq : q.1 ≤ 3072) : ∃ (q' : Nat × Nat) (I' : ms_i) (J' : ms_j), (∀ w l5 l6, ∃ w' l5' l6', ms_G 145 351 [.ref (ms_ad 0 0), .ref (ms_ad 3 0), .ref (ms_ad 40 0), .ref (ms_ad 66 0), .int (nI i), l5, l6] [] (ms_Z q w I J) = ms_G 145 875 [.ref (ms_ad 0 0), .ref (ms_ad 3 0), .ref (ms_ad 40 0), .ref (ms_ad 66 0), .int (nI i), l5', l6'] [] (ms_Z q' w' I' J')) ∧ q'.1 = q.1 ∧ q'.2 ≤ q.2 + 1 ∧ ms_iv f I' J' := by
  obtain ⟨q', k, v, w1, w2, I1, J1, I2, J2, c1, c2, e40, lk, hJ, q1, q2, e0, iv⟩ := lo_close (q := q)  h
  have hs : ∀ j, I1 0 0 j = I 0 0 j := fun j => by rw [e0, ← h.1]
  refine ⟨q', I2, J2, fun w l5 l6 => ⟨w || w1 || w2, .int (nI k), .int v, ?_⟩, q1, q2, iv⟩
  by_cases hk : k = 0
  · have hJ' := hJ hk
    subst hk
    simp (disch := omega) only [↓mi_145_351, ↓mi_145_352, ↓mi_145_353, ↓mi_145_356, ↓mi_145_358, ↓mi_145_359, ↓mi_145_362, ↓mi_145_364, ↓mi_145_365, ↓mi_145_368, ↓mi_145_370, ↓mi_145_373, ↓mi_145_374, ↓mi_145_374_1, ↓mi_145_374_b, ↓mi_145_375, ↓mi_145_377, ↓mi_145_380, ↓mi_145_381, ↓mi_145_382, ↓mi_145_383, ↓mi_145_385, ↓mi_145_386, ↓mi_145_387, ↓mi_145_390, ↓mi_145_391, ↓mi_145_391_1, ↓mi_145_391_b, ↓mi_145_392, cond_true, mz_clv, mz_cln, Bool.false_or, Bool.true_or, Bool.or_false, Bool.or_true, if_true, if_false, ite_self, o1_66, na_up, na_eq, hs, c1, c2, sp_17, e40, hJ', lg_self]
  · simp (disch := omega) only [↓mi_145_351, ↓mi_145_352, ↓mi_145_353, ↓mi_145_356, ↓mi_145_358, ↓mi_145_359, ↓mi_145_362, ↓mi_145_364, ↓mi_145_365, ↓mi_145_368, ↓mi_145_370, ↓mi_145_373, ↓mi_145_374, ↓mi_145_374_1, ↓mi_145_374_b, ↓mi_145_375, ↓mi_145_377, ↓mi_145_380, ↓mi_145_381, ↓mi_145_382, ↓mi_145_383, ↓mi_145_385, ↓mi_145_386, ↓mi_145_387, ↓mi_145_390, ↓mi_145_391, ↓mi_145_391_1, ↓mi_145_391_b, ↓mi_145_392, cond_true, mz_clv, mz_cln, Bool.false_or, Bool.true_or, Bool.or_false, Bool.or_true, if_true, if_false, ite_self, na_up, na_eq, hs, c1, c2, sp_17, e40, if_neg]
theorem lr_deliver {f : Nat → Int32} {i : Nat} (h : ms_iv f I J) (hi : i + 6 ≤ q.1) (hq : q.1 ≤ 3072) : ∃ (q' : Nat × Nat) (I' : ms_i) (J' : ms_j), (∀ w l5 l6, ∃ w' l5' l6', ms_G 145 395 [.ref (ms_ad 0 0), .ref (ms_ad 3 0), .ref (ms_ad 40 0), .ref (ms_ad 66 0), .int (nI i), l5, l6] [] (ms_Z q w I J) = ms_G 145 875 [.ref (ms_ad 0 0), .ref (ms_ad 3 0), .ref (ms_ad 40 0), .ref (ms_ad 66 0), .int (nI i), l5', l6'] [] (ms_Z q' w' I' J')) ∧ q'.1 = q.1 ∧ q'.2 ≤ q.2 + 1 ∧ ms_iv f I' J' := by
  obtain ⟨q', k, b, w1, w2, I1, J1, I2, J2, c1, c2, e40, lk, hJ, q1, q2, e0, iv⟩ := lo_deliver (q := q) (x := I 0 0 (i + 1)) h
  have hs : ∀ j, I1 0 0 j = I 0 0 j := fun j => by rw [e0, ← h.1]
  refine ⟨q', I2, J2, fun w l5 l6 => ⟨w || w1 || w2, .int (nI k), .int (ms_b b), ?_⟩, q1, q2, iv⟩
  by_cases hk : k = 0
  · have hJ' := hJ hk
    subst hk
    cases b with
    | true =>
      rw [if_pos rfl] at hJ'
      simp (disch := omega) only [↓mi_145_395, ↓mi_145_396, ↓mi_145_397, ↓mi_145_399, ↓mi_145_400, ↓mi_145_401, ↓mi_145_402, ↓mi_145_403, ↓mi_145_406, ↓mi_145_408, ↓mi_145_409, ↓mi_145_410, ↓mi_145_412, ↓mi_145_413, ↓mi_145_414, ↓mi_145_415, ↓mi_145_418, ↓mi_145_420, ↓mi_145_421, ↓mi_145_424, ↓mi_145_426, ↓mi_145_429, ↓mi_145_430, ↓mi_145_430_1, ↓mi_145_430_b, ↓mi_145_431, ↓mi_145_433, ↓mi_145_436, ↓mi_145_437, ↓mi_145_438, ↓mi_145_439, ↓mi_145_441, ↓mi_145_444, ↓mi_145_445, ↓mi_145_448, ↓mi_145_449, ↓mi_145_450, ↓mi_145_453, ↓mi_145_454, ↓mi_145_454_1, ↓mi_145_454_b, ↓mi_145_455, cond_true, mz_clv, mz_cln, Bool.false_or, Bool.true_or, Bool.or_false, Bool.or_true, if_true, if_false, ite_self, o1_66, na_up, na_eq, hs, c1, c2, sp_17, e40, hJ', if_neg b_t, lg_self]
    | false =>
      rw [if_neg Bool.false_ne_true] at hJ'
      simp (disch := omega) only [↓mi_145_395, ↓mi_145_396, ↓mi_145_397, ↓mi_145_399, ↓mi_145_400, ↓mi_145_401, ↓mi_145_402, ↓mi_145_403, ↓mi_145_406, ↓mi_145_408, ↓mi_145_409, ↓mi_145_410, ↓mi_145_412, ↓mi_145_413, ↓mi_145_414, ↓mi_145_415, ↓mi_145_418, ↓mi_145_420, ↓mi_145_421, ↓mi_145_424, ↓mi_145_426, ↓mi_145_429, ↓mi_145_430, ↓mi_145_430_1, ↓mi_145_430_b, ↓mi_145_431, ↓mi_145_433, ↓mi_145_436, ↓mi_145_437, ↓mi_145_438, ↓mi_145_439, ↓mi_145_441, ↓mi_145_444, ↓mi_145_445, ↓mi_145_448, ↓mi_145_449, ↓mi_145_450, ↓mi_145_453, ↓mi_145_454, ↓mi_145_454_1, ↓mi_145_454_b, ↓mi_145_455, cond_true, mz_clv, mz_cln, Bool.false_or, Bool.true_or, Bool.or_false, Bool.or_true, if_true, if_false, ite_self, o1_66, na_up, na_eq, hs, c1, c2, sp_17, e40, hJ', if_pos b_f, lg_self]
  · simp (disch := omega) only [↓mi_145_395, ↓mi_145_396, ↓mi_145_397, ↓mi_145_399, ↓mi_145_400, ↓mi_145_401, ↓mi_145_402, ↓mi_145_403, ↓mi_145_406, ↓mi_145_408, ↓mi_145_409, ↓mi_145_410, ↓mi_145_412, ↓mi_145_413, ↓mi_145_414, ↓mi_145_415, ↓mi_145_418, ↓mi_145_420, ↓mi_145_421, ↓mi_145_424, ↓mi_145_426, ↓mi_145_429, ↓mi_145_430, ↓mi_145_430_1, ↓mi_145_430_b, ↓mi_145_431, ↓mi_145_433, ↓mi_145_436, ↓mi_145_437, ↓mi_145_438, ↓mi_145_439, ↓mi_145_441, ↓mi_145_444, ↓mi_145_445, ↓mi_145_448, ↓mi_145_449, ↓mi_145_450, ↓mi_145_453, ↓mi_145_454, ↓mi_145_454_1, ↓mi_145_454_b, ↓mi_145_455, cond_true, mz_clv, mz_cln, Bool.false_or, Bool.true_or, Bool.or_false, Bool.or_true, if_true, if_false, ite_self, na_up, na_eq, hs, c1, c2, sp_17, e40, if_neg]
theorem lr_lose {f : Nat → Int32} {i : Nat} (h : ms_iv f I J) (hi : i + 6 ≤ q.1) (hq : q.1 ≤ 3072) : ∃ (q' : Nat × Nat) (I' : ms_i) (J' : ms_j), (∀ w l5 l6, ∃ w' l5' l6', ms_G 145 458 [.ref (ms_ad 0 0), .ref (ms_ad 3 0), .ref (ms_ad 40 0), .ref (ms_ad 66 0), .int (nI i), l5, l6] [] (ms_Z q w I J) = ms_G 145 875 [.ref (ms_ad 0 0), .ref (ms_ad 3 0), .ref (ms_ad 40 0), .ref (ms_ad 66 0), .int (nI i), l5', l6'] [] (ms_Z q' w' I' J')) ∧ q'.1 = q.1 ∧ q'.2 ≤ q.2 + 1 ∧ ms_iv f I' J' := by
  obtain ⟨q', k, w1, w2, I1, J1, I2, J2, c1, c2, e40, q1, q2, e0, iv⟩ := lo_lose (q := q) (x := I 0 0 (i + 1)) h
  have hs : ∀ j, I1 0 0 j = I 0 0 j := fun j => by rw [e0, ← h.1]
  refine ⟨q', I2, J2, fun w l5 l6 => ⟨w || w1 || w2, .int (nI k), l6, ?_⟩, q1, q2, iv⟩
  simp (disch := omega) only [↓mi_145_458, ↓mi_145_459, ↓mi_145_460, ↓mi_145_462, ↓mi_145_463, ↓mi_145_464, ↓mi_145_465, ↓mi_145_468, ↓mi_145_470, ↓mi_145_471, ↓mi_145_472, ↓mi_145_474, ↓mi_145_475, ↓mi_145_476, ↓mi_145_477, ↓mi_145_480, ↓mi_145_481, ↓mi_145_484, ↓mi_145_486, ↓mi_145_489, ↓mi_145_490, ↓mi_145_490_1, ↓mi_145_490_b, ↓mi_145_491, cond_true, mz_clv, mz_cln, Bool.false_or, Bool.true_or, Bool.or_false, Bool.or_true, if_true, if_false, ite_self, na_up, hs, c1, c2, sp_17, e40]
theorem lr_alter {f : Nat → Int32} {i : Nat} (h : ms_iv f I J) (hi : i + 6 ≤ q.1) (hq : q.1 ≤ 3072) : ∃ (q' : Nat × Nat) (I' : ms_i) (J' : ms_j), (∀ w l5 l6, ∃ w' l5' l6', ms_G 145 494 [.ref (ms_ad 0 0), .ref (ms_ad 3 0), .ref (ms_ad 40 0), .ref (ms_ad 66 0), .int (nI i), l5, l6] [] (ms_Z q w I J) = ms_G 145 875 [.ref (ms_ad 0 0), .ref (ms_ad 3 0), .ref (ms_ad 40 0), .ref (ms_ad 66 0), .int (nI i), l5', l6'] [] (ms_Z q' w' I' J')) ∧ q'.1 = q.1 ∧ q'.2 ≤ q.2 + 1 ∧ ms_iv f I' J' := by
  obtain ⟨q', k, w1, w2, I1, J1, I2, J2, c1, c2, e40, q1, q2, e0, iv⟩ := lo_alter (q := q) (x := I 0 0 (i + 1)) (y := I 0 0 (i + 2)) (z := I 0 0 (i + 3)) h
  have hs : ∀ j, I1 0 0 j = I 0 0 j := fun j => by rw [e0, ← h.1]
  refine ⟨q', I2, J2, fun w l5 l6 => ⟨w || w1 || w2, .int (nI k), l6, ?_⟩, q1, q2, iv⟩
  simp (disch := omega) only [↓mi_145_494, ↓mi_145_495, ↓mi_145_496, ↓mi_145_498, ↓mi_145_499, ↓mi_145_500, ↓mi_145_501, ↓mi_145_502, ↓mi_145_504, ↓mi_145_505, ↓mi_145_506, ↓mi_145_507, ↓mi_145_508, ↓mi_145_510, ↓mi_145_511, ↓mi_145_512, ↓mi_145_513, ↓mi_145_516, ↓mi_145_518, ↓mi_145_519, ↓mi_145_520, ↓mi_145_522, ↓mi_145_523, ↓mi_145_524, ↓mi_145_525, ↓mi_145_526, ↓mi_145_528, ↓mi_145_529, ↓mi_145_530, ↓mi_145_531, ↓mi_145_532, ↓mi_145_534, ↓mi_145_535, ↓mi_145_536, ↓mi_145_537, ↓mi_145_540, ↓mi_145_541, ↓mi_145_544, ↓mi_145_546, ↓mi_145_549, ↓mi_145_550, ↓mi_145_550_1, ↓mi_145_550_b, ↓mi_145_551, cond_true, mz_clv, mz_cln, Bool.false_or, Bool.true_or, Bool.or_false, Bool.or_true, if_true, if_false, ite_self, na_up, hs, c1, c2, sp_17, e40]
theorem lr_message {f : Nat → Int32} {i : Nat} (h : ms_iv f I J) (hi : i + 6 ≤ q.1) (hq : q.1 ≤ 3072) : ∃ (q' : Nat × Nat) (I' : ms_i) (J' : ms_j), (∀ w l5 l6, ∃ w' l5' l6', ms_G 145 554 [.ref (ms_ad 0 0), .ref (ms_ad 3 0), .ref (ms_ad 40 0), .ref (ms_ad 66 0), .int (nI i), l5, l6] [] (ms_Z q w I J) = ms_G 145 875 [.ref (ms_ad 0 0), .ref (ms_ad 3 0), .ref (ms_ad 40 0), .ref (ms_ad 66 0), .int (nI i), l5', l6'] [] (ms_Z q' w' I' J')) ∧ q'.1 = q.1 ∧ q'.2 ≤ q.2 + 1 ∧ ms_iv f I' J' := by
  obtain ⟨q', k, v, w1, w2, I1, J1, I2, J2, c1, c2, e40, lk, hJ, q1, q2, e0, iv⟩ := lo_message (q := q) (x := I 0 0 (i + 1)) (y := I 0 0 (i + 2)) h
  have hs : ∀ j, I1 0 0 j = I 0 0 j := fun j => by rw [e0, ← h.1]
  refine ⟨q', I2, J2, fun w l5 l6 => ⟨w || w1 || w2, .int (nI k), .int v, ?_⟩, q1, q2, iv⟩
  by_cases hk : k = 0
  · have hJ' := hJ hk
    subst hk
    simp (disch := omega) only [↓mi_145_554, ↓mi_145_555, ↓mi_145_556, ↓mi_145_558, ↓mi_145_559, ↓mi_145_560, ↓mi_145_561, ↓mi_145_562, ↓mi_145_564, ↓mi_145_565, ↓mi_145_566, ↓mi_145_567, ↓mi_145_568, ↓mi_145_571, ↓mi_145_573, ↓mi_145_574, ↓mi_145_575, ↓mi_145_577, ↓mi_145_578, ↓mi_145_579, ↓mi_145_580, ↓mi_145_581, ↓mi_145_583, ↓mi_145_584, ↓mi_145_585, ↓mi_145_586, ↓mi_145_589, ↓mi_145_591, ↓mi_145_592, ↓mi_145_595, ↓mi_145_597, ↓mi_145_600, ↓mi_145_601, ↓mi_145_601_1, ↓mi_145_601_b, ↓mi_145_602, ↓mi_145_604, ↓mi_145_607, ↓mi_145_608, ↓mi_145_609, ↓mi_145_610, ↓mi_145_612, ↓mi_145_613, ↓mi_145_614, ↓mi_145_617, ↓mi_145_618, ↓mi_145_618_1, ↓mi_145_618_b, ↓mi_145_619, cond_true, mz_clv, mz_cln, Bool.false_or, Bool.true_or, Bool.or_false, Bool.or_true, if_true, if_false, ite_self, o1_66, na_up, na_eq, hs, c1, c2, sp_17, e40, hJ', lg_self]
  · simp (disch := omega) only [↓mi_145_554, ↓mi_145_555, ↓mi_145_556, ↓mi_145_558, ↓mi_145_559, ↓mi_145_560, ↓mi_145_561, ↓mi_145_562, ↓mi_145_564, ↓mi_145_565, ↓mi_145_566, ↓mi_145_567, ↓mi_145_568, ↓mi_145_571, ↓mi_145_573, ↓mi_145_574, ↓mi_145_575, ↓mi_145_577, ↓mi_145_578, ↓mi_145_579, ↓mi_145_580, ↓mi_145_581, ↓mi_145_583, ↓mi_145_584, ↓mi_145_585, ↓mi_145_586, ↓mi_145_589, ↓mi_145_591, ↓mi_145_592, ↓mi_145_595, ↓mi_145_597, ↓mi_145_600, ↓mi_145_601, ↓mi_145_601_1, ↓mi_145_601_b, ↓mi_145_602, ↓mi_145_604, ↓mi_145_607, ↓mi_145_608, ↓mi_145_609, ↓mi_145_610, ↓mi_145_612, ↓mi_145_613, ↓mi_145_614, ↓mi_145_617, ↓mi_145_618, ↓mi_145_618_1, ↓mi_145_618_b, ↓mi_145_619, cond_true, mz_clv, mz_cln, Bool.false_or, Bool.true_or, Bool.or_false, Bool.or_true, if_true, if_false, ite_self, na_up, na_eq, hs, c1, c2, sp_17, e40, if_neg]
theorem lr_total {f : Nat → Int32} {i : Nat} (h : ms_iv f I J) (hi : i + 6 ≤ q.1) (hq : q.1 ≤ 3072) : ∃ (q' : Nat × Nat) (I' : ms_i) (J' : ms_j), (∀ w l5 l6, ∃ w' l5' l6', ms_G 145 622 [.ref (ms_ad 0 0), .ref (ms_ad 3 0), .ref (ms_ad 40 0), .ref (ms_ad 66 0), .int (nI i), l5, l6] [] (ms_Z q w I J) = ms_G 145 875 [.ref (ms_ad 0 0), .ref (ms_ad 3 0), .ref (ms_ad 40 0), .ref (ms_ad 66 0), .int (nI i), l5', l6'] [] (ms_Z q' w' I' J')) ∧ q'.1 = q.1 ∧ q'.2 ≤ q.2 + 1 ∧ ms_iv f I' J' := by
  obtain ⟨q', k, v, w1, w2, I1, J1, I2, J2, c1, c2, e40, lk, hJ, q1, q2, e0, iv⟩ := lo_total (q := q) (x := I 0 0 (i + 1)) h
  have hs : ∀ j, I1 0 0 j = I 0 0 j := fun j => by rw [e0, ← h.1]
  refine ⟨q', I2, J2, fun w l5 l6 => ⟨w || w1 || w2, .int (nI k), .int v, ?_⟩, q1, q2, iv⟩
  by_cases hk : k = 0
  · have hJ' := hJ hk
    subst hk
    simp (disch := omega) only [↓mi_145_622, ↓mi_145_623, ↓mi_145_624, ↓mi_145_626, ↓mi_145_627, ↓mi_145_628, ↓mi_145_629, ↓mi_145_630, ↓mi_145_633, ↓mi_145_635, ↓mi_145_636, ↓mi_145_637, ↓mi_145_639, ↓mi_145_640, ↓mi_145_641, ↓mi_145_642, ↓mi_145_645, ↓mi_145_647, ↓mi_145_648, ↓mi_145_651, ↓mi_145_653, ↓mi_145_656, ↓mi_145_657, ↓mi_145_657_1, ↓mi_145_657_b, ↓mi_145_658, ↓mi_145_660, ↓mi_145_663, ↓mi_145_664, ↓mi_145_665, ↓mi_145_666, ↓mi_145_668, ↓mi_145_669, ↓mi_145_670, ↓mi_145_673, ↓mi_145_674, ↓mi_145_674_1, ↓mi_145_674_b, ↓mi_145_675, cond_true, mz_clv, mz_cln, Bool.false_or, Bool.true_or, Bool.or_false, Bool.or_true, if_true, if_false, ite_self, o1_66, na_up, na_eq, hs, c1, c2, sp_17, e40, hJ', lg_self]
  · simp (disch := omega) only [↓mi_145_622, ↓mi_145_623, ↓mi_145_624, ↓mi_145_626, ↓mi_145_627, ↓mi_145_628, ↓mi_145_629, ↓mi_145_630, ↓mi_145_633, ↓mi_145_635, ↓mi_145_636, ↓mi_145_637, ↓mi_145_639, ↓mi_145_640, ↓mi_145_641, ↓mi_145_642, ↓mi_145_645, ↓mi_145_647, ↓mi_145_648, ↓mi_145_651, ↓mi_145_653, ↓mi_145_656, ↓mi_145_657, ↓mi_145_657_1, ↓mi_145_657_b, ↓mi_145_658, ↓mi_145_660, ↓mi_145_663, ↓mi_145_664, ↓mi_145_665, ↓mi_145_666, ↓mi_145_668, ↓mi_145_669, ↓mi_145_670, ↓mi_145_673, ↓mi_145_674, ↓mi_145_674_1, ↓mi_145_674_b, ↓mi_145_675, cond_true, mz_clv, mz_cln, Bool.false_or, Bool.true_or, Bool.or_false, Bool.or_true, if_true, if_false, ite_self, na_up, na_eq, hs, c1, c2, sp_17, e40, if_neg]
theorem lr_phone {f : Nat → Int32} {i : Nat} (h : ms_iv f I J) (hi : i + 6 ≤ q.1) (hq : q.1 ≤ 3072) : ∃ (q' : Nat × Nat) (I' : ms_i) (J' : ms_j), (∀ w l5 l6, ∃ w' l5' l6', ms_G 145 678 [.ref (ms_ad 0 0), .ref (ms_ad 3 0), .ref (ms_ad 40 0), .ref (ms_ad 66 0), .int (nI i), l5, l6] [] (ms_Z q w I J) = ms_G 145 875 [.ref (ms_ad 0 0), .ref (ms_ad 3 0), .ref (ms_ad 40 0), .ref (ms_ad 66 0), .int (nI i), l5', l6'] [] (ms_Z q' w' I' J')) ∧ q'.1 = q.1 ∧ q'.2 ≤ q.2 + 1 ∧ ms_iv f I' J' := by
  obtain ⟨q', k, v, w1, w2, I1, J1, I2, J2, c1, c2, e40, lk, hJ, q1, q2, e0, iv⟩ := lo_phone (q := q) (x := I 0 0 (i + 1)) (y := I 0 0 (i + 2)) h
  have hs : ∀ j, I1 0 0 j = I 0 0 j := fun j => by rw [e0, ← h.1]
  refine ⟨q', I2, J2, fun w l5 l6 => ⟨w || w1 || w2, .int (nI k), .int v, ?_⟩, q1, q2, iv⟩
  by_cases hk : k = 0
  · have hJ' := hJ hk
    subst hk
    simp (disch := omega) only [↓mi_145_678, ↓mi_145_679, ↓mi_145_680, ↓mi_145_682, ↓mi_145_683, ↓mi_145_684, ↓mi_145_685, ↓mi_145_686, ↓mi_145_688, ↓mi_145_689, ↓mi_145_690, ↓mi_145_691, ↓mi_145_692, ↓mi_145_695, ↓mi_145_697, ↓mi_145_698, ↓mi_145_699, ↓mi_145_701, ↓mi_145_702, ↓mi_145_703, ↓mi_145_704, ↓mi_145_705, ↓mi_145_707, ↓mi_145_708, ↓mi_145_709, ↓mi_145_710, ↓mi_145_713, ↓mi_145_715, ↓mi_145_716, ↓mi_145_719, ↓mi_145_721, ↓mi_145_724, ↓mi_145_725, ↓mi_145_725_1, ↓mi_145_725_b, ↓mi_145_726, ↓mi_145_728, ↓mi_145_731, ↓mi_145_732, ↓mi_145_733, ↓mi_145_734, ↓mi_145_736, ↓mi_145_737, ↓mi_145_738, ↓mi_145_741, ↓mi_145_742, ↓mi_145_742_1, ↓mi_145_742_b, ↓mi_145_743, cond_true, mz_clv, mz_cln, Bool.false_or, Bool.true_or, Bool.or_false, Bool.or_true, if_true, if_false, ite_self, o1_66, na_up, na_eq, hs, c1, c2, sp_17, e40, hJ', lg_self]
  · simp (disch := omega) only [↓mi_145_678, ↓mi_145_679, ↓mi_145_680, ↓mi_145_682, ↓mi_145_683, ↓mi_145_684, ↓mi_145_685, ↓mi_145_686, ↓mi_145_688, ↓mi_145_689, ↓mi_145_690, ↓mi_145_691, ↓mi_145_692, ↓mi_145_695, ↓mi_145_697, ↓mi_145_698, ↓mi_145_699, ↓mi_145_701, ↓mi_145_702, ↓mi_145_703, ↓mi_145_704, ↓mi_145_705, ↓mi_145_707, ↓mi_145_708, ↓mi_145_709, ↓mi_145_710, ↓mi_145_713, ↓mi_145_715, ↓mi_145_716, ↓mi_145_719, ↓mi_145_721, ↓mi_145_724, ↓mi_145_725, ↓mi_145_725_1, ↓mi_145_725_b, ↓mi_145_726, ↓mi_145_728, ↓mi_145_731, ↓mi_145_732, ↓mi_145_733, ↓mi_145_734, ↓mi_145_736, ↓mi_145_737, ↓mi_145_738, ↓mi_145_741, ↓mi_145_742, ↓mi_145_742_1, ↓mi_145_742_b, ↓mi_145_743, cond_true, mz_clv, mz_cln, Bool.false_or, Bool.true_or, Bool.or_false, Bool.or_true, if_true, if_false, ite_self, na_up, na_eq, hs, c1, c2, sp_17, e40, if_neg]
theorem lr_count {f : Nat → Int32} {i : Nat} (h : ms_iv f I J) (hi : i + 6 ≤ q.1) (hq : q.1 ≤ 3072) : ∃ (q' : Nat × Nat) (I' : ms_i) (J' : ms_j), (∀ w l5 l6, ∃ w' l5' l6', ms_G 145 746 [.ref (ms_ad 0 0), .ref (ms_ad 3 0), .ref (ms_ad 40 0), .ref (ms_ad 66 0), .int (nI i), l5, l6] [] (ms_Z q w I J) = ms_G 145 875 [.ref (ms_ad 0 0), .ref (ms_ad 3 0), .ref (ms_ad 40 0), .ref (ms_ad 66 0), .int (nI i), l5', l6'] [] (ms_Z q' w' I' J')) ∧ q'.1 = q.1 ∧ q'.2 ≤ q.2 + 1 ∧ ms_iv f I' J' := by
  obtain ⟨v, I2, c1, c2, iv⟩ := lo_count (q := q) (x := I 0 0 (i + 1)) h
  refine ⟨q, I2, J, fun w l5 l6 => ⟨true, l5, l6, ?_⟩, rfl, by omega, iv⟩
  simp (disch := omega) only [↓mi_145_746, ↓mi_145_747, ↓mi_145_748, ↓mi_145_750, ↓mi_145_751, ↓mi_145_752, ↓mi_145_753, ↓mi_145_756, ↓mi_145_757, ↓mi_145_758, ↓mi_145_760, ↓mi_145_761, ↓mi_145_762, ↓mi_145_763, ↓mi_145_766, cond_true, mz_clv, mz_cln, Bool.false_or, Bool.true_or, Bool.or_false, Bool.or_true, if_true, if_false, ite_self, na_up, c1, c2]
theorem lr_stream {f : Nat → Int32} {i : Nat} (h : ms_iv f I J) (hi : i + 6 ≤ q.1) (hq : q.1 ≤ 3072) : ∃ (q' : Nat × Nat) (I' : ms_i) (J' : ms_j), (∀ w l5 l6, ∃ w' l5' l6', ms_G 145 771 [.ref (ms_ad 0 0), .ref (ms_ad 3 0), .ref (ms_ad 40 0), .ref (ms_ad 66 0), .int (nI i), l5, l6] [] (ms_Z q w I J) = ms_G 145 875 [.ref (ms_ad 0 0), .ref (ms_ad 3 0), .ref (ms_ad 40 0), .ref (ms_ad 66 0), .int (nI i), l5', l6'] [] (ms_Z q' w' I' J')) ∧ q'.1 = q.1 ∧ q'.2 ≤ q.2 + 1 ∧ ms_iv f I' J' := by
  obtain ⟨q', k, v, w1, w2, I1, J1, I2, J2, c1, c2, e40, lk, hJ, q1, q2, e0, iv⟩ := lo_stream (q := q) (x := I 0 0 (i + 1)) (y := I 0 0 (i + 2)) (a := I 0 0 (i + 3)) (b := I 0 0 (i + 4)) (c := I 0 0 (i + 5)) h
  have hs : ∀ j, I1 0 0 j = I 0 0 j := fun j => by rw [e0, ← h.1]
  refine ⟨q', I2, J2, fun w l5 l6 => ⟨w || w1 || w2, .int (nI k), .int v, ?_⟩, q1, q2, iv⟩
  by_cases hk : k = 0
  · have hJ' := hJ hk
    subst hk
    simp (disch := omega) only [↓mi_145_771, ↓mi_145_772, ↓mi_145_773, ↓mi_145_775, ↓mi_145_776, ↓mi_145_777, ↓mi_145_778, ↓mi_145_779, ↓mi_145_781, ↓mi_145_782, ↓mi_145_783, ↓mi_145_784, ↓mi_145_785, ↓mi_145_787, ↓mi_145_788, ↓mi_145_789, ↓mi_145_790, ↓mi_145_791, ↓mi_145_793, ↓mi_145_794, ↓mi_145_795, ↓mi_145_796, ↓mi_145_797, ↓mi_145_799, ↓mi_145_800, ↓mi_145_801, ↓mi_145_802, ↓mi_145_803, ↓mi_145_806, ↓mi_145_808, ↓mi_145_809, ↓mi_145_810, ↓mi_145_812, ↓mi_145_813, ↓mi_145_814, ↓mi_145_815, ↓mi_145_816, ↓mi_145_818, ↓mi_145_819, ↓mi_145_820, ↓mi_145_821, ↓mi_145_822, ↓mi_145_824, ↓mi_145_825, ↓mi_145_826, ↓mi_145_827, ↓mi_145_828, ↓mi_145_830, ↓mi_145_831, ↓mi_145_832, ↓mi_145_833, ↓mi_145_834, ↓mi_145_836, ↓mi_145_837, ↓mi_145_838, ↓mi_145_839, ↓mi_145_842, ↓mi_145_844, ↓mi_145_845, ↓mi_145_848, ↓mi_145_850, ↓mi_145_853, ↓mi_145_854, ↓mi_145_854_1, ↓mi_145_854_b, ↓mi_145_855, ↓mi_145_857, ↓mi_145_860, ↓mi_145_861, ↓mi_145_862, ↓mi_145_863, ↓mi_145_865, ↓mi_145_866, ↓mi_145_867, ↓mi_145_870, ↓mi_145_871, ↓mi_145_871_1, ↓mi_145_871_b, ↓mi_145_872, cond_true, mz_clv, mz_cln, Bool.false_or, Bool.true_or, Bool.or_false, Bool.or_true, if_true, if_false, ite_self, o1_66, na_up, na_eq, hs, c1, c2, sp_17, e40, hJ', lg_self]
  · simp (disch := omega) only [↓mi_145_771, ↓mi_145_772, ↓mi_145_773, ↓mi_145_775, ↓mi_145_776, ↓mi_145_777, ↓mi_145_778, ↓mi_145_779, ↓mi_145_781, ↓mi_145_782, ↓mi_145_783, ↓mi_145_784, ↓mi_145_785, ↓mi_145_787, ↓mi_145_788, ↓mi_145_789, ↓mi_145_790, ↓mi_145_791, ↓mi_145_793, ↓mi_145_794, ↓mi_145_795, ↓mi_145_796, ↓mi_145_797, ↓mi_145_799, ↓mi_145_800, ↓mi_145_801, ↓mi_145_802, ↓mi_145_803, ↓mi_145_806, ↓mi_145_808, ↓mi_145_809, ↓mi_145_810, ↓mi_145_812, ↓mi_145_813, ↓mi_145_814, ↓mi_145_815, ↓mi_145_816, ↓mi_145_818, ↓mi_145_819, ↓mi_145_820, ↓mi_145_821, ↓mi_145_822, ↓mi_145_824, ↓mi_145_825, ↓mi_145_826, ↓mi_145_827, ↓mi_145_828, ↓mi_145_830, ↓mi_145_831, ↓mi_145_832, ↓mi_145_833, ↓mi_145_834, ↓mi_145_836, ↓mi_145_837, ↓mi_145_838, ↓mi_145_839, ↓mi_145_842, ↓mi_145_844, ↓mi_145_845, ↓mi_145_848, ↓mi_145_850, ↓mi_145_853, ↓mi_145_854, ↓mi_145_854_1, ↓mi_145_854_b, ↓mi_145_855, ↓mi_145_857, ↓mi_145_860, ↓mi_145_861, ↓mi_145_862, ↓mi_145_863, ↓mi_145_865, ↓mi_145_866, ↓mi_145_867, ↓mi_145_870, ↓mi_145_871, ↓mi_145_871_1, ↓mi_145_871_b, ↓mi_145_872, cond_true, mz_clv, mz_cln, Bool.false_or, Bool.true_or, Bool.or_false, Bool.or_true, if_true, if_false, ite_self, na_up, na_eq, hs, c1, c2, sp_17, e40, if_neg]
/-- one round -/
theorem lr_any {f : Nat → Int32} {i : Nat} (h : ms_iv f I J) (hi : i + 6 ≤ q.1) (hq : q.1 ≤ 3072) : ∃ (q' : Nat × Nat) (I' : ms_i) (J' : ms_j), (∀ w l5 l6, ∃ w' l5' l6', ms_G 145 33 [.ref (ms_ad 0 0), .ref (ms_ad 3 0), .ref (ms_ad 40 0), .ref (ms_ad 66 0), .int (nI i), l5, l6] [] (ms_Z q w I J) = ms_G 145 875 [.ref (ms_ad 0 0), .ref (ms_ad 3 0), .ref (ms_ad 40 0), .ref (ms_ad 66 0), .int (nI i), l5', l6'] [] (ms_Z q' w' I' J')) ∧ q'.1 = q.1 ∧ q'.2 ≤ q.2 + 1 ∧ ms_iv f I' J' := by
  obtain ⟨c, ec⟩ : ∃ c, c = mU (I 0 0 i) % 16 := ⟨_, rfl⟩
  have lc : c < 16 := by omega
  have la : I 0 0 i &&& nI 15 = nI c := by
    have := pk_andN (n := mU (I 0 0 i)) (mU_lt _) (m := nI 15) 4 (by decide)
    rw [nI_mU] at this
    rw [this, ec]
  have pre : ∀ w l5 l6, ms_G 145 33 [.ref (ms_ad 0 0), .ref (ms_ad 3 0), .ref (ms_ad 40 0), .ref (ms_ad 66 0), .int (nI i), l5, l6] [] (ms_Z q w I J) = ms_G 145 40 [.ref (ms_ad 0 0), .ref (ms_ad 3 0), .ref (ms_ad 40 0), .ref (ms_ad 66 0), .int (nI i), l5, l6] [.int (nI c)] (ms_Z q w I J) := fun w l5 l6 => by
    simp (disch := omega) only [↓mi_145_33, ↓mi_145_34, ↓mi_145_36, ↓mi_145_37, ↓mi_145_39, la]
  have cs : c = 0 ∨ c = 1 ∨ c = 2 ∨ c = 3 ∨ c = 4 ∨ c = 5 ∨ c = 6 ∨ c = 7 ∨ c = 8 ∨ c = 9 ∨ c = 10 ∨ c = 11 ∨ c = 12 ∨ 13 ≤ c := by omega
  rcases cs with e | e | e | e | e | e | e | e | e | e | e | e | e | e
  · obtain ⟨q', I', J', r, z⟩ := lr_start h hi hq
    refine ⟨q', I', J', fun w l5 l6 => ?_, z⟩
    obtain ⟨w', l5', l6', r⟩ := r w l5 l6
    refine ⟨w', l5', l6', ?_⟩
    rw [pre, e, mi_145_40_c0]
    exact r
  · obtain ⟨q', I', J', r, z⟩ := lr_secret h hi hq
    refine ⟨q', I', J', fun w l5 l6 => ?_, z⟩
    obtain ⟨w', l5', l6', r⟩ := r w l5 l6
    refine ⟨w', l5', l6', ?_⟩
    rw [pre, e, mi_145_40_c1]
    exact r
  · obtain ⟨q', I', J', r, z⟩ := lr_input h hi hq
    refine ⟨q', I', J', fun w l5 l6 => ?_, z⟩
    obtain ⟨w', l5', l6', r⟩ := r w l5 l6
    refine ⟨w', l5', l6', ?_⟩
    rw [pre, e, mi_145_40_c2]
    exact r
  · obtain ⟨q', I', J', r, z⟩ := lr_step h hi hq
    refine ⟨q', I', J', fun w l5 l6 => ?_, z⟩
    obtain ⟨w', l5', l6', r⟩ := r w l5 l6
    refine ⟨w', l5', l6', ?_⟩
    rw [pre, e, mi_145_40_c3]
    exact r
  · obtain ⟨q', I', J', r, z⟩ := lr_close h hi hq
    refine ⟨q', I', J', fun w l5 l6 => ?_, z⟩
    obtain ⟨w', l5', l6', r⟩ := r w l5 l6
    refine ⟨w', l5', l6', ?_⟩
    rw [pre, e, mi_145_40_c4]
    exact r
  · obtain ⟨q', I', J', r, z⟩ := lr_deliver h hi hq
    refine ⟨q', I', J', fun w l5 l6 => ?_, z⟩
    obtain ⟨w', l5', l6', r⟩ := r w l5 l6
    refine ⟨w', l5', l6', ?_⟩
    rw [pre, e, mi_145_40_c5]
    exact r
  · obtain ⟨q', I', J', r, z⟩ := lr_lose h hi hq
    refine ⟨q', I', J', fun w l5 l6 => ?_, z⟩
    obtain ⟨w', l5', l6', r⟩ := r w l5 l6
    refine ⟨w', l5', l6', ?_⟩
    rw [pre, e, mi_145_40_c6]
    exact r
  · obtain ⟨q', I', J', r, z⟩ := lr_alter h hi hq
    refine ⟨q', I', J', fun w l5 l6 => ?_, z⟩
    obtain ⟨w', l5', l6', r⟩ := r w l5 l6
    refine ⟨w', l5', l6', ?_⟩
    rw [pre, e, mi_145_40_c7]
    exact r
  · obtain ⟨q', I', J', r, z⟩ := lr_message h hi hq
    refine ⟨q', I', J', fun w l5 l6 => ?_, z⟩
    obtain ⟨w', l5', l6', r⟩ := r w l5 l6
    refine ⟨w', l5', l6', ?_⟩
    rw [pre, e, mi_145_40_c8]
    exact r
  · obtain ⟨q', I', J', r, z⟩ := lr_total h hi hq
    refine ⟨q', I', J', fun w l5 l6 => ?_, z⟩
    obtain ⟨w', l5', l6', r⟩ := r w l5 l6
    refine ⟨w', l5', l6', ?_⟩
    rw [pre, e, mi_145_40_c9]
    exact r
  · obtain ⟨q', I', J', r, z⟩ := lr_phone h hi hq
    refine ⟨q', I', J', fun w l5 l6 => ?_, z⟩
    obtain ⟨w', l5', l6', r⟩ := r w l5 l6
    refine ⟨w', l5', l6', ?_⟩
    rw [pre, e, mi_145_40_c10]
    exact r
  · obtain ⟨q', I', J', r, z⟩ := lr_count h hi hq
    refine ⟨q', I', J', fun w l5 l6 => ?_, z⟩
    obtain ⟨w', l5', l6', r⟩ := r w l5 l6
    refine ⟨w', l5', l6', ?_⟩
    rw [pre, e, mi_145_40_c11]
    exact r
  · obtain ⟨q', I', J', r, z⟩ := lr_stream h hi hq
    refine ⟨q', I', J', fun w l5 l6 => ?_, z⟩
    obtain ⟨w', l5', l6', r⟩ := r w l5 l6
    refine ⟨w', l5', l6', ?_⟩
    rw [pre, e, mi_145_40_c12]
    exact r
  · refine ⟨q, I, J, fun w l5 l6 => ⟨w, l5, l6, ?_⟩, rfl, by omega, h⟩
    rw [pre]
    exact mi_145_40_d (by rw [nI_toInt (by omega)]; omega)
theorem lw_l {f : Nat → Int32} : ∀ (m i : Nat) (q : Nat × Nat) (w : Bool) (I : ms_i) (J : ms_j) (l5 l6 : Value), q.1 ≤ 3072 → i ≤ q.1 → q.1 ≤ i + 6 * m + 5 → ms_iv f I J → ∃ (q' : Nat × Nat) (w' : Bool) (I' : ms_i) (J' : ms_j), ms_G 145 23 [.ref (ms_ad 0 0), .ref (ms_ad 3 0), .ref (ms_ad 40 0), .ref (ms_ad 66 0), .int (nI i), l5, l6] [] (ms_Z q w I J) = some (.inl (some (.int (nI 1))), ms_Z q' w' I' J') ∧ q'.2 ≤ q.2 + m
  | 0, i, q, w, I, J, l5, l6, hq, h0, hi, h => by
    refine ⟨q, w, I, J, ?_, Nat.le_refl _⟩
    simp (disch := omega) only [↓mi_145_23, ↓mi_145_25, ↓mi_145_26, ↓mi_145_27, ↓mi_145_29, ↓mi_145_30, ↓mi_145_881, ↓mi_145_882, ↓mi_145_882_1, ↓mi_145_882_b, cond_true, mz_clv, mz_cln, Bool.false_or, Bool.true_or, Bool.or_false, Bool.or_true, if_true, if_false, ite_self, o3_0, nr_0, lt_sub, if_pos]
  | m + 1, i, q, w, I, J, l5, l6, hq, h0, hi, h => by
    by_cases hx : q.1 < i + 6
    · refine ⟨q, w, I, J, ?_, by omega⟩
      simp (disch := omega) only [↓mi_145_23, ↓mi_145_25, ↓mi_145_26, ↓mi_145_27, ↓mi_145_29, ↓mi_145_30, ↓mi_145_881, ↓mi_145_882, ↓mi_145_882_1, ↓mi_145_882_b, cond_true, mz_clv, mz_cln, Bool.false_or, Bool.true_or, Bool.or_false, Bool.or_true, if_true, if_false, ite_self, o3_0, nr_0, lt_sub, if_pos]
    · obtain ⟨q1, I1, J1, r, a, b, c⟩ := lr_any (q := q) (i := i) h (by omega) hq
      obtain ⟨w1, m5, m6, r⟩ := r w l5 l6
      obtain ⟨q', w', I', J', r2, d⟩ := lw_l m (i + 6) q1 w1 I1 J1 m5 m6 (by omega) (by omega) (by omega) c
      refine ⟨q', w', I', J', ?_, by omega⟩
      rw [mi_145_23]
      simp (disch := omega) only [↓mi_145_25, ↓mi_145_26, ↓mi_145_27, ↓mi_145_29, ↓mi_145_30, cond_true, mz_clv, mz_cln, Bool.false_or, Bool.true_or, Bool.or_false, Bool.or_true, if_true, if_false, ite_self, o3_0, nr_0, lt_sub, if_neg]
      rw [r]
      simp (disch := omega) only [↓mi_145_875, ↓mi_145_878, na_up]
      exact r2
end Law
