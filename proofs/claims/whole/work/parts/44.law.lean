/-! the law's loop -/
section LW
variable {h h1 h2 : aH} {xs : List Int32} {n : Nat}
theorem ia2_at {a k : Nat} {ys : List Int32} (ha : h[a]? = some (.inr (.inl (2, ys)))) (hn : k < ys.length) (hx : ys.length < 2 ^ 31) : ia h a (nI k) = some (ys.getD k 0) := by
  unfold ia
  rw [ha]
  have h1 : ¬ nI k < 0 := nI_pos (by omega)
  simp only [or_true, h1, not_false_eq_true, and_self, if_true, nI_clamp (show k < 2 ^ 31 by omega)]
  simp [List.getD_eq_getElem?_getD, List.getElem?_eq_getElem hn]
def lwL (i : Int32) : List Value := [.ref 4, .ref 5, .ref 96, .int i]
theorem sg_side {x : Int32} {i : Int32} (r1 : ia h 4 (i + 1) = some x) (s1 : ∀ h1 : aH, h1[4]? = some (.inr (.inl (2, xs))) → ia h1 4 (i + 1) = some x) (B : Bth xs h 41 [.ref 5, .int x, aU] 73 [.ref 96, .int x, aU, aU]) : ∃ h', LI xs h' ∧ go 40 123 124 [.ref 4, .ref 5, .ref 96, .int i] [] h = go 40 123 621 [.ref 4, .ref 5, .ref 96, .int i] [] h' := by
  obtain ⟨v, h1, h2, e1, e2, k5, k96, k4, L2⟩ := B
  refine ⟨h2, L2, ?_⟩
  show go (39 + 1) 123 124 [.ref 4, .ref 5, .ref 96, .int i] [] h = go (39 + 1) 123 621 [.ref 4, .ref 5, .ref 96, .int i] [] h2
  simp only [ee_123_124, ee_123_125, ee_123_126, ee_123_127, ee_123_128, ee_123_129, ee_123_130, ee_123_133, ee_123_134, ee_123_135, ee_123_136, ee_123_137, ee_123_138, ee_123_139, ee_123_142, ee_123_145, ee_123_146, ee_123_146T, k5, k96, e1, e2, r1, s1 h1 k4, Option.bind_some, Option.toList, List.cons_append, List.nil_append, List.append_nil, if_true, if_false, Bool.false_eq_true, eq_self, not_true_eq_false, not_false_eq_true]
theorem sg_set {x y : Int32} {i : Int32} (r1 : ia h 4 (i + 1) = some x) (s1 : ∀ h1 : aH, h1[4]? = some (.inr (.inl (2, xs))) → ia h1 4 (i + 1) = some x) (r2 : ia h 4 (i + 2) = some y) (s2 : ∀ h1 : aH, h1[4]? = some (.inr (.inl (2, xs))) → ia h1 4 (i + 2) = some y) (B : Bth xs h 42 [.ref 5, .int x, .int y, aU] 74 [.ref 96, .int x, .int y, aU]) : ∃ h', LI xs h' ∧ go 40 123 147 [.ref 4, .ref 5, .ref 96, .int i] [] h = go 40 123 621 [.ref 4, .ref 5, .ref 96, .int i] [] h' := by
  obtain ⟨v, h1, h2, e1, e2, k5, k96, k4, L2⟩ := B
  refine ⟨h2, L2, ?_⟩
  show go (39 + 1) 123 147 [.ref 4, .ref 5, .ref 96, .int i] [] h = go (39 + 1) 123 621 [.ref 4, .ref 5, .ref 96, .int i] [] h2
  simp only [ee_123_147, ee_123_148, ee_123_149, ee_123_150, ee_123_151, ee_123_152, ee_123_153, ee_123_154, ee_123_155, ee_123_156, ee_123_157, ee_123_158, ee_123_161, ee_123_162, ee_123_163, ee_123_164, ee_123_165, ee_123_166, ee_123_167, ee_123_168, ee_123_169, ee_123_170, ee_123_171, ee_123_172, ee_123_175, ee_123_178, ee_123_179, ee_123_179T, k5, k96, e1, e2, r1, s1 h1 k4, r2, s2 h1 k4, Option.bind_some, Option.toList, List.cons_append, List.nil_append, List.append_nil, if_true, if_false, Bool.false_eq_true, eq_self, not_true_eq_false, not_false_eq_true]
theorem sg_at {x : Int32} {i : Int32} (r1 : ia h 4 (i + 1) = some x) (s1 : ∀ h1 : aH, h1[4]? = some (.inr (.inl (2, xs))) → ia h1 4 (i + 1) = some x) (B : Bth xs h 43 [.ref 5, .int x, aU] 75 [.ref 96, .int x]) : ∃ h', LI xs h' ∧ go 40 123 180 [.ref 4, .ref 5, .ref 96, .int i] [] h = go 40 123 621 [.ref 4, .ref 5, .ref 96, .int i] [] h' := by
  obtain ⟨v, h1, h2, e1, e2, k5, k96, k4, L2⟩ := B
  refine ⟨h2, L2, ?_⟩
  show go (39 + 1) 123 180 [.ref 4, .ref 5, .ref 96, .int i] [] h = go (39 + 1) 123 621 [.ref 4, .ref 5, .ref 96, .int i] [] h2
  simp only [ee_123_180, ee_123_181, ee_123_182, ee_123_183, ee_123_184, ee_123_185, ee_123_186, ee_123_189, ee_123_190, ee_123_191, ee_123_192, ee_123_193, ee_123_194, ee_123_195, ee_123_198, ee_123_201, ee_123_202, ee_123_202T, k5, k96, e1, e2, r1, s1 h1 k4, Option.bind_some, Option.toList, List.cons_append, List.nil_append, List.append_nil, if_true, if_false, Bool.false_eq_true, eq_self, not_true_eq_false, not_false_eq_true]
theorem sg_say {x : Int32} {i : Int32} (r1 : ia h 4 (i + 1) = some x) (s1 : ∀ h1 : aH, h1[4]? = some (.inr (.inl (2, xs))) → ia h1 4 (i + 1) = some x) (B : Bth xs h 44 [.ref 5, .int x] 76 [.ref 96, .int x]) : ∃ h', LI xs h' ∧ go 40 123 203 [.ref 4, .ref 5, .ref 96, .int i] [] h = go 40 123 621 [.ref 4, .ref 5, .ref 96, .int i] [] h' := by
  obtain ⟨v, h1, h2, e1, e2, k5, k96, k4, L2⟩ := B
  refine ⟨h2, L2, ?_⟩
  show go (39 + 1) 123 203 [.ref 4, .ref 5, .ref 96, .int i] [] h = go (39 + 1) 123 621 [.ref 4, .ref 5, .ref 96, .int i] [] h2
  simp only [ee_123_203, ee_123_204, ee_123_205, ee_123_206, ee_123_207, ee_123_208, ee_123_209, ee_123_212, ee_123_213, ee_123_214, ee_123_215, ee_123_216, ee_123_217, ee_123_218, ee_123_221, ee_123_224, ee_123_225, ee_123_225T, k5, k96, e1, e2, r1, s1 h1 k4, Option.bind_some, Option.toList, List.cons_append, List.nil_append, List.append_nil, if_true, if_false, Bool.false_eq_true, eq_self, not_true_eq_false, not_false_eq_true]
theorem sg_wipe {i : Int32} (B : Bth xs h 45 [.ref 5, aU] 77 [.ref 96, aU]) : ∃ h', LI xs h' ∧ go 40 123 226 [.ref 4, .ref 5, .ref 96, .int i] [] h = go 40 123 621 [.ref 4, .ref 5, .ref 96, .int i] [] h' := by
  obtain ⟨v, h1, h2, e1, e2, k5, k96, k4, L2⟩ := B
  refine ⟨h2, L2, ?_⟩
  show go (39 + 1) 123 226 [.ref 4, .ref 5, .ref 96, .int i] [] h = go (39 + 1) 123 621 [.ref 4, .ref 5, .ref 96, .int i] [] h2
  simp only [ee_123_226, ee_123_227, ee_123_230, ee_123_231, ee_123_234, ee_123_237, ee_123_238, ee_123_238T, k5, k96, e1, e2, Option.bind_some, Option.toList, List.cons_append, List.nil_append, List.append_nil, if_true, if_false, Bool.false_eq_true, eq_self, not_true_eq_false, not_false_eq_true]
theorem sg_take {x : Int32} {i : Int32} (r1 : ia h 4 (i + 1) = some x) (s1 : ∀ h1 : aH, h1[4]? = some (.inr (.inl (2, xs))) → ia h1 4 (i + 1) = some x) (B : Bth xs h 46 [.ref 5, .int x, aU] 79 [.ref 96, .int x, aU, aU]) : ∃ h', LI xs h' ∧ go 40 123 239 [.ref 4, .ref 5, .ref 96, .int i] [] h = go 40 123 621 [.ref 4, .ref 5, .ref 96, .int i] [] h' := by
  obtain ⟨v, h1, h2, e1, e2, k5, k96, k4, L2⟩ := B
  refine ⟨h2, L2, ?_⟩
  show go (39 + 1) 123 239 [.ref 4, .ref 5, .ref 96, .int i] [] h = go (39 + 1) 123 621 [.ref 4, .ref 5, .ref 96, .int i] [] h2
  simp only [ee_123_239, ee_123_240, ee_123_241, ee_123_242, ee_123_243, ee_123_244, ee_123_245, ee_123_248, ee_123_249, ee_123_250, ee_123_251, ee_123_252, ee_123_253, ee_123_254, ee_123_257, ee_123_260, ee_123_261, ee_123_261T, k5, k96, e1, e2, r1, s1 h1 k4, Option.bind_some, Option.toList, List.cons_append, List.nil_append, List.append_nil, if_true, if_false, Bool.false_eq_true, eq_self, not_true_eq_false, not_false_eq_true]
theorem sg_drop {x : Int32} {i : Int32} (r1 : ia h 4 (i + 1) = some x) (s1 : ∀ h1 : aH, h1[4]? = some (.inr (.inl (2, xs))) → ia h1 4 (i + 1) = some x) (B : Bth xs h 47 [.ref 5, .int x, aU] 80 [.ref 96, .int x, aU]) : ∃ h', LI xs h' ∧ go 40 123 262 [.ref 4, .ref 5, .ref 96, .int i] [] h = go 40 123 621 [.ref 4, .ref 5, .ref 96, .int i] [] h' := by
  obtain ⟨v, h1, h2, e1, e2, k5, k96, k4, L2⟩ := B
  refine ⟨h2, L2, ?_⟩
  show go (39 + 1) 123 262 [.ref 4, .ref 5, .ref 96, .int i] [] h = go (39 + 1) 123 621 [.ref 4, .ref 5, .ref 96, .int i] [] h2
  simp only [ee_123_262, ee_123_263, ee_123_264, ee_123_265, ee_123_266, ee_123_267, ee_123_268, ee_123_271, ee_123_272, ee_123_273, ee_123_274, ee_123_275, ee_123_276, ee_123_277, ee_123_280, ee_123_283, ee_123_284, ee_123_284T, k5, k96, e1, e2, r1, s1 h1 k4, Option.bind_some, Option.toList, List.cons_append, List.nil_append, List.append_nil, if_true, if_false, Bool.false_eq_true, eq_self, not_true_eq_false, not_false_eq_true]
theorem sg_fill {i : Int32} (B : Bth xs h 48 [.ref 5, aU, aU] 81 [.ref 96, aU, aU]) : ∃ h', LI xs h' ∧ go 40 123 285 [.ref 4, .ref 5, .ref 96, .int i] [] h = go 40 123 621 [.ref 4, .ref 5, .ref 96, .int i] [] h' := by
  obtain ⟨v, h1, h2, e1, e2, k5, k96, k4, L2⟩ := B
  refine ⟨h2, L2, ?_⟩
  show go (39 + 1) 123 285 [.ref 4, .ref 5, .ref 96, .int i] [] h = go (39 + 1) 123 621 [.ref 4, .ref 5, .ref 96, .int i] [] h2
  simp only [ee_123_285, ee_123_286, ee_123_289, ee_123_290, ee_123_293, ee_123_296, ee_123_297, ee_123_297T, k5, k96, e1, e2, Option.bind_some, Option.toList, List.cons_append, List.nil_append, List.append_nil, if_true, if_false, Bool.false_eq_true, eq_self, not_true_eq_false, not_false_eq_true]
theorem sg_letter {x y z : Int32} {i : Int32} (r1 : ia h 4 (i + 1) = some x) (s1 : ∀ h1 : aH, h1[4]? = some (.inr (.inl (2, xs))) → ia h1 4 (i + 1) = some x) (r2 : ia h 4 (i + 2) = some y) (s2 : ∀ h1 : aH, h1[4]? = some (.inr (.inl (2, xs))) → ia h1 4 (i + 2) = some y) (r3 : ia h 4 (i + 3) = some z) (s3 : ∀ h1 : aH, h1[4]? = some (.inr (.inl (2, xs))) → ia h1 4 (i + 3) = some z) (B : Bth xs h 49 [.ref 5, .int x, .int y, .int z, aU] 82 [.ref 96, .int x, .int y, .int z]) : ∃ h', LI xs h' ∧ go 40 123 298 [.ref 4, .ref 5, .ref 96, .int i] [] h = go 40 123 621 [.ref 4, .ref 5, .ref 96, .int i] [] h' := by
  obtain ⟨v, h1, h2, e1, e2, k5, k96, k4, L2⟩ := B
  refine ⟨h2, L2, ?_⟩
  show go (39 + 1) 123 298 [.ref 4, .ref 5, .ref 96, .int i] [] h = go (39 + 1) 123 621 [.ref 4, .ref 5, .ref 96, .int i] [] h2
  simp only [ee_123_298, ee_123_299, ee_123_300, ee_123_301, ee_123_302, ee_123_303, ee_123_304, ee_123_305, ee_123_306, ee_123_307, ee_123_308, ee_123_309, ee_123_310, ee_123_311, ee_123_312, ee_123_313, ee_123_314, ee_123_317, ee_123_318, ee_123_319, ee_123_320, ee_123_321, ee_123_322, ee_123_323, ee_123_324, ee_123_325, ee_123_326, ee_123_327, ee_123_328, ee_123_329, ee_123_330, ee_123_331, ee_123_332, ee_123_333, ee_123_336, ee_123_339, ee_123_340, ee_123_340T, k5, k96, e1, e2, r1, s1 h1 k4, r2, s2 h1 k4, r3, s3 h1 k4, Option.bind_some, Option.toList, List.cons_append, List.nil_append, List.append_nil, if_true, if_false, Bool.false_eq_true, eq_self, not_true_eq_false, not_false_eq_true]
theorem sg_stands {x y z : Int32} {i : Int32} (r1 : ia h 4 (i + 1) = some x) (s1 : ∀ h1 : aH, h1[4]? = some (.inr (.inl (2, xs))) → ia h1 4 (i + 1) = some x) (r2 : ia h 4 (i + 2) = some y) (s2 : ∀ h1 : aH, h1[4]? = some (.inr (.inl (2, xs))) → ia h1 4 (i + 2) = some y) (r3 : ia h 4 (i + 3) = some z) (s3 : ∀ h1 : aH, h1[4]? = some (.inr (.inl (2, xs))) → ia h1 4 (i + 3) = some z) (B : Bth xs h 50 [.ref 5, .int x, .int y, .int z, aU] 94 [.ref 96, .int x, .int y, .int z, aU, aU]) : ∃ h', LI xs h' ∧ go 40 123 341 [.ref 4, .ref 5, .ref 96, .int i] [] h = go 40 123 621 [.ref 4, .ref 5, .ref 96, .int i] [] h' := by
  obtain ⟨v, h1, h2, e1, e2, k5, k96, k4, L2⟩ := B
  refine ⟨h2, L2, ?_⟩
  show go (39 + 1) 123 341 [.ref 4, .ref 5, .ref 96, .int i] [] h = go (39 + 1) 123 621 [.ref 4, .ref 5, .ref 96, .int i] [] h2
  simp only [ee_123_341, ee_123_342, ee_123_343, ee_123_344, ee_123_345, ee_123_346, ee_123_347, ee_123_348, ee_123_349, ee_123_350, ee_123_351, ee_123_352, ee_123_353, ee_123_354, ee_123_355, ee_123_356, ee_123_357, ee_123_360, ee_123_361, ee_123_362, ee_123_363, ee_123_364, ee_123_365, ee_123_366, ee_123_367, ee_123_368, ee_123_369, ee_123_370, ee_123_371, ee_123_372, ee_123_373, ee_123_374, ee_123_375, ee_123_376, ee_123_379, ee_123_382, ee_123_383, ee_123_383T, k5, k96, e1, e2, r1, s1 h1 k4, r2, s2 h1 k4, r3, s3 h1 k4, Option.bind_some, Option.toList, List.cons_append, List.nil_append, List.append_nil, if_true, if_false, Bool.false_eq_true, eq_self, not_true_eq_false, not_false_eq_true]
theorem sg_put {x y : Int32} {i : Int32} (r1 : ia h 4 (i + 1) = some x) (s1 : ∀ h1 : aH, h1[4]? = some (.inr (.inl (2, xs))) → ia h1 4 (i + 1) = some x) (r2 : ia h 4 (i + 2) = some y) (s2 : ∀ h1 : aH, h1[4]? = some (.inr (.inl (2, xs))) → ia h1 4 (i + 2) = some y) (B : Bth xs h 51 [.ref 5, .int x, .int y, aU, aU] 96 [.ref 96, .int x, .int y, aU, aU, aU]) : ∃ h', LI xs h' ∧ go 40 123 384 [.ref 4, .ref 5, .ref 96, .int i] [] h = go 40 123 621 [.ref 4, .ref 5, .ref 96, .int i] [] h' := by
  obtain ⟨v, h1, h2, e1, e2, k5, k96, k4, L2⟩ := B
  refine ⟨h2, L2, ?_⟩
  show go (39 + 1) 123 384 [.ref 4, .ref 5, .ref 96, .int i] [] h = go (39 + 1) 123 621 [.ref 4, .ref 5, .ref 96, .int i] [] h2
  simp only [ee_123_384, ee_123_385, ee_123_386, ee_123_387, ee_123_388, ee_123_389, ee_123_390, ee_123_391, ee_123_392, ee_123_393, ee_123_394, ee_123_395, ee_123_398, ee_123_399, ee_123_400, ee_123_401, ee_123_402, ee_123_403, ee_123_404, ee_123_405, ee_123_406, ee_123_407, ee_123_408, ee_123_409, ee_123_412, ee_123_415, ee_123_416, ee_123_416T, k5, k96, e1, e2, r1, s1 h1 k4, r2, s2 h1 k4, Option.bind_some, Option.toList, List.cons_append, List.nil_append, List.append_nil, if_true, if_false, Bool.false_eq_true, eq_self, not_true_eq_false, not_false_eq_true]
theorem sg_fits {x y : Int32} {i : Int32} (r1 : ia h 4 (i + 1) = some x) (s1 : ∀ h1 : aH, h1[4]? = some (.inr (.inl (2, xs))) → ia h1 4 (i + 1) = some x) (r2 : ia h 4 (i + 2) = some y) (s2 : ∀ h1 : aH, h1[4]? = some (.inr (.inl (2, xs))) → ia h1 4 (i + 2) = some y) (B : Bth xs h 52 [.ref 5, .int x, .int y, aU, aU, aU, aU] 97 [.ref 96, .int x, .int y, aU, aU]) : ∃ h', LI xs h' ∧ go 40 123 417 [.ref 4, .ref 5, .ref 96, .int i] [] h = go 40 123 621 [.ref 4, .ref 5, .ref 96, .int i] [] h' := by
  obtain ⟨v, h1, h2, e1, e2, k5, k96, k4, L2⟩ := B
  refine ⟨h2, L2, ?_⟩
  show go (39 + 1) 123 417 [.ref 4, .ref 5, .ref 96, .int i] [] h = go (39 + 1) 123 621 [.ref 4, .ref 5, .ref 96, .int i] [] h2
  simp only [ee_123_417, ee_123_418, ee_123_419, ee_123_420, ee_123_421, ee_123_422, ee_123_423, ee_123_424, ee_123_425, ee_123_426, ee_123_427, ee_123_428, ee_123_431, ee_123_432, ee_123_433, ee_123_434, ee_123_435, ee_123_436, ee_123_437, ee_123_438, ee_123_439, ee_123_440, ee_123_441, ee_123_442, ee_123_445, ee_123_448, ee_123_449, ee_123_449T, k5, k96, e1, e2, r1, s1 h1 k4, r2, s2 h1 k4, Option.bind_some, Option.toList, List.cons_append, List.nil_append, List.append_nil, if_true, if_false, Bool.false_eq_true, eq_self, not_true_eq_false, not_false_eq_true]
theorem sg_most {x : Int32} {i : Int32} (r1 : ia h 4 (i + 1) = some x) (s1 : ∀ h1 : aH, h1[4]? = some (.inr (.inl (2, xs))) → ia h1 4 (i + 1) = some x) (B : Bth xs h 53 [.ref 5, .int x, aU] 105 [.ref 96, .int x]) : ∃ h', LI xs h' ∧ go 40 123 450 [.ref 4, .ref 5, .ref 96, .int i] [] h = go 40 123 621 [.ref 4, .ref 5, .ref 96, .int i] [] h' := by
  obtain ⟨v, h1, h2, e1, e2, k5, k96, k4, L2⟩ := B
  refine ⟨h2, L2, ?_⟩
  show go (39 + 1) 123 450 [.ref 4, .ref 5, .ref 96, .int i] [] h = go (39 + 1) 123 621 [.ref 4, .ref 5, .ref 96, .int i] [] h2
  simp only [ee_123_450, ee_123_451, ee_123_452, ee_123_453, ee_123_454, ee_123_455, ee_123_456, ee_123_459, ee_123_460, ee_123_461, ee_123_462, ee_123_463, ee_123_464, ee_123_465, ee_123_468, ee_123_471, ee_123_472, ee_123_472T, k5, k96, e1, e2, r1, s1 h1 k4, Option.bind_some, Option.toList, List.cons_append, List.nil_append, List.append_nil, if_true, if_false, Bool.false_eq_true, eq_self, not_true_eq_false, not_false_eq_true]
theorem sg_covers {x y z : Int32} {i : Int32} (r1 : ia h 4 (i + 1) = some x) (s1 : ∀ h1 : aH, h1[4]? = some (.inr (.inl (2, xs))) → ia h1 4 (i + 1) = some x) (r2 : ia h 4 (i + 2) = some y) (s2 : ∀ h1 : aH, h1[4]? = some (.inr (.inl (2, xs))) → ia h1 4 (i + 2) = some y) (r3 : ia h 4 (i + 3) = some z) (s3 : ∀ h1 : aH, h1[4]? = some (.inr (.inl (2, xs))) → ia h1 4 (i + 3) = some z) (B : Bth xs h 54 [.ref 5, .int x, .int y, .int z, aU, aU, aU, aU, aU, aU] 107 [.ref 96, .int x, .int y, .int z]) : ∃ h', LI xs h' ∧ go 40 123 473 [.ref 4, .ref 5, .ref 96, .int i] [] h = go 40 123 621 [.ref 4, .ref 5, .ref 96, .int i] [] h' := by
  obtain ⟨v, h1, h2, e1, e2, k5, k96, k4, L2⟩ := B
  refine ⟨h2, L2, ?_⟩
  show go (39 + 1) 123 473 [.ref 4, .ref 5, .ref 96, .int i] [] h = go (39 + 1) 123 621 [.ref 4, .ref 5, .ref 96, .int i] [] h2
  simp only [ee_123_473, ee_123_474, ee_123_475, ee_123_476, ee_123_477, ee_123_478, ee_123_479, ee_123_480, ee_123_481, ee_123_482, ee_123_483, ee_123_484, ee_123_485, ee_123_486, ee_123_487, ee_123_488, ee_123_489, ee_123_492, ee_123_493, ee_123_494, ee_123_495, ee_123_496, ee_123_497, ee_123_498, ee_123_499, ee_123_500, ee_123_501, ee_123_502, ee_123_503, ee_123_504, ee_123_505, ee_123_506, ee_123_507, ee_123_508, ee_123_511, ee_123_514, ee_123_515, ee_123_515T, k5, k96, e1, e2, r1, s1 h1 k4, r2, s2 h1 k4, r3, s3 h1 k4, Option.bind_some, Option.toList, List.cons_append, List.nil_append, List.append_nil, if_true, if_false, Bool.false_eq_true, eq_self, not_true_eq_false, not_false_eq_true]
theorem sg_good {x : Int32} {i : Int32} (r1 : ia h 4 (i + 1) = some x) (s1 : ∀ h1 : aH, h1[4]? = some (.inr (.inl (2, xs))) → ia h1 4 (i + 1) = some x) (B : Bth xs h 55 [.ref 5, .int x, aU, aU, aU] 112 [.ref 96, .int x]) : ∃ h', LI xs h' ∧ go 40 123 516 [.ref 4, .ref 5, .ref 96, .int i] [] h = go 40 123 621 [.ref 4, .ref 5, .ref 96, .int i] [] h' := by
  obtain ⟨v, h1, h2, e1, e2, k5, k96, k4, L2⟩ := B
  refine ⟨h2, L2, ?_⟩
  show go (39 + 1) 123 516 [.ref 4, .ref 5, .ref 96, .int i] [] h = go (39 + 1) 123 621 [.ref 4, .ref 5, .ref 96, .int i] [] h2
  simp only [ee_123_516, ee_123_517, ee_123_518, ee_123_519, ee_123_520, ee_123_521, ee_123_522, ee_123_525, ee_123_526, ee_123_527, ee_123_528, ee_123_529, ee_123_530, ee_123_531, ee_123_534, ee_123_537, ee_123_538, ee_123_538T, k5, k96, e1, e2, r1, s1 h1 k4, Option.bind_some, Option.toList, List.cons_append, List.nil_append, List.append_nil, if_true, if_false, Bool.false_eq_true, eq_self, not_true_eq_false, not_false_eq_true]
theorem sg_hide {i : Int32} (B : Bth xs h 56 [.ref 5] 113 [.ref 96, aU, aU]) : ∃ h', LI xs h' ∧ go 40 123 539 [.ref 4, .ref 5, .ref 96, .int i] [] h = go 40 123 621 [.ref 4, .ref 5, .ref 96, .int i] [] h' := by
  obtain ⟨v, h1, h2, e1, e2, k5, k96, k4, L2⟩ := B
  refine ⟨h2, L2, ?_⟩
  show go (39 + 1) 123 539 [.ref 4, .ref 5, .ref 96, .int i] [] h = go (39 + 1) 123 621 [.ref 4, .ref 5, .ref 96, .int i] [] h2
  simp only [ee_123_539, ee_123_540, ee_123_543, ee_123_544, ee_123_547, ee_123_550, ee_123_551, ee_123_551T, k5, k96, e1, e2, Option.bind_some, Option.toList, List.cons_append, List.nil_append, List.append_nil, if_true, if_false, Bool.false_eq_true, eq_self, not_true_eq_false, not_false_eq_true]
theorem sg_image {x : Int32} {i : Int32} (r1 : ia h 4 (i + 1) = some x) (s1 : ∀ h1 : aH, h1[4]? = some (.inr (.inl (2, xs))) → ia h1 4 (i + 1) = some x) (B : Bth xs h 57 [.ref 5, .int x] 114 [.ref 96, .int x, aU]) : ∃ h', LI xs h' ∧ go 40 123 552 [.ref 4, .ref 5, .ref 96, .int i] [] h = go 40 123 621 [.ref 4, .ref 5, .ref 96, .int i] [] h' := by
  obtain ⟨v, h1, h2, e1, e2, k5, k96, k4, L2⟩ := B
  refine ⟨h2, L2, ?_⟩
  show go (39 + 1) 123 552 [.ref 4, .ref 5, .ref 96, .int i] [] h = go (39 + 1) 123 621 [.ref 4, .ref 5, .ref 96, .int i] [] h2
  simp only [ee_123_552, ee_123_553, ee_123_554, ee_123_555, ee_123_556, ee_123_557, ee_123_558, ee_123_561, ee_123_562, ee_123_563, ee_123_564, ee_123_565, ee_123_566, ee_123_567, ee_123_570, ee_123_573, ee_123_574, ee_123_574T, k5, k96, e1, e2, r1, s1 h1 k4, Option.bind_some, Option.toList, List.cons_append, List.nil_append, List.append_nil, if_true, if_false, Bool.false_eq_true, eq_self, not_true_eq_false, not_false_eq_true]
theorem sg_restore {x : Int32} {i : Int32} (r1 : ia h 4 (i + 1) = some x) (s1 : ∀ h1 : aH, h1[4]? = some (.inr (.inl (2, xs))) → ia h1 4 (i + 1) = some x) (B : Bth xs h 58 [.ref 5, .int x] 115 [.ref 96, .int x, aU]) : ∃ h', LI xs h' ∧ go 40 123 575 [.ref 4, .ref 5, .ref 96, .int i] [] h = go 40 123 621 [.ref 4, .ref 5, .ref 96, .int i] [] h' := by
  obtain ⟨v, h1, h2, e1, e2, k5, k96, k4, L2⟩ := B
  refine ⟨h2, L2, ?_⟩
  show go (39 + 1) 123 575 [.ref 4, .ref 5, .ref 96, .int i] [] h = go (39 + 1) 123 621 [.ref 4, .ref 5, .ref 96, .int i] [] h2
  simp only [ee_123_575, ee_123_576, ee_123_577, ee_123_578, ee_123_579, ee_123_580, ee_123_581, ee_123_584, ee_123_585, ee_123_586, ee_123_587, ee_123_588, ee_123_589, ee_123_590, ee_123_593, ee_123_596, ee_123_597, ee_123_597T, k5, k96, e1, e2, r1, s1 h1 k4, Option.bind_some, Option.toList, List.cons_append, List.nil_append, List.append_nil, if_true, if_false, Bool.false_eq_true, eq_self, not_true_eq_false, not_false_eq_true]
theorem sg_count {x : Int32} {i : Int32} (r1 : ia h 4 (i + 1) = some x) (s1 : ∀ h1 : aH, h1[4]? = some (.inr (.inl (2, xs))) → ia h1 4 (i + 1) = some x) (B : Bth xs h 59 [.ref 5, .int x] 118 [.ref 96, .int x]) : ∃ h', LI xs h' ∧ go 40 123 598 [.ref 4, .ref 5, .ref 96, .int i] [] h = go 40 123 621 [.ref 4, .ref 5, .ref 96, .int i] [] h' := by
  obtain ⟨v, h1, h2, e1, e2, k5, k96, k4, L2⟩ := B
  refine ⟨h2, L2, ?_⟩
  show go (39 + 1) 123 598 [.ref 4, .ref 5, .ref 96, .int i] [] h = go (39 + 1) 123 621 [.ref 4, .ref 5, .ref 96, .int i] [] h2
  simp only [ee_123_598, ee_123_599, ee_123_600, ee_123_601, ee_123_602, ee_123_603, ee_123_604, ee_123_607, ee_123_608, ee_123_609, ee_123_610, ee_123_611, ee_123_612, ee_123_613, ee_123_616, ee_123_619, ee_123_620, ee_123_620T, k5, k96, e1, e2, r1, s1 h1 k4, Option.bind_some, Option.toList, List.cons_append, List.nil_append, List.append_nil, if_true, if_false, Bool.false_eq_true, eq_self, not_true_eq_false, not_false_eq_true]
theorem case18 {k : Nat} (hk : k < 2 ^ 5) : k = 0 ∨ k = 1 ∨ k = 2 ∨ k = 3 ∨ k = 4 ∨ k = 5 ∨ k = 6 ∨ k = 7 ∨ k = 8 ∨ k = 9 ∨ k = 10 ∨ k = 11 ∨ k = 12 ∨ k = 13 ∨ k = 14 ∨ k = 15 ∨ k = 16 ∨ k = 17 ∨ k = 18 ∨ (18 < k ∧ k < 32) := by omega
theorem law_step (hL : xs.length ≤ 2048) (hn : n + 4 ≤ xs.length) (I : LI xs h) : ∃ h', LI xs h' ∧ go 40 123 18 [.ref 4, .ref 5, .ref 96, .int (nI n)] [] h = go 40 123 18 [.ref 4, .ref 5, .ref 96, .int (nI (n + 4))] [] h' := by
  have hl : al h 4 = some (nI xs.length) := by unfold al; rw [I.1]; rfl
  have hs : nI xs.length - 4 = nI (xs.length - 4) := pk_sub (a := xs.length) (b := 4) (by omega)
  have hc : ¬ nI (xs.length - 4) < nI n := by rw [nI_ltI (by omega) (by omega)]; omega
  have hrd : ∀ (h1 : aH), h1[4]? = some (.inr (.inl (2, xs))) → ∀ q, q < 4 → ia h1 4 (nI (n + q)) = some (xs.getD (n + q) 0) := fun h1 e q hq => ia2_at e (by omega) (by omega)
  have r0 : ia h 4 (nI n) = some (xs.getD n 0) := hrd h I.1 0 (by decide)
  have s1 : ∀ h1 : aH, h1[4]? = some (.inr (.inl (2, xs))) → ia h1 4 (nI n + 1) = some (xs.getD (n + 1) 0) := fun h1 e => by rw [show nI n + 1 = nI (n + 1) from nI_add n 1]; exact hrd h1 e 1 (by decide)
  have s2 : ∀ h1 : aH, h1[4]? = some (.inr (.inl (2, xs))) → ia h1 4 (nI n + 2) = some (xs.getD (n + 2) 0) := fun h1 e => by rw [show nI n + 2 = nI (n + 2) from nI_add n 2]; exact hrd h1 e 2 (by decide)
  have s3 : ∀ h1 : aH, h1[4]? = some (.inr (.inl (2, xs))) → ia h1 4 (nI n + 3) = some (xs.getD (n + 3) 0) := fun h1 e => by rw [show nI n + 3 = nI (n + 3) from nI_add n 3]; exact hrd h1 e 3 (by decide)
  have en : ∀ h' : aH, go 40 123 621 [.ref 4, .ref 5, .ref 96, .int (nI n)] [] h' = go 40 123 18 [.ref 4, .ref 5, .ref 96, .int (nI (n + 4))] [] h' := fun h' => by
    rw [ee_123_621, ee_123_624, show nI n + 4 = nI (n + 4) from nI_add n 4]
  obtain ⟨k, hk, ek⟩ := pk_andE (xs.getD n 0) (m := 31) 5 (by decide)
  have st : go 40 123 18 [.ref 4, .ref 5, .ref 96, .int (nI n)] [] h = go 40 123 32 [.ref 4, .ref 5, .ref 96, .int (nI n)] [.int (nI k)] h := by
    simp only [ee_123_18, ee_123_19, ee_123_20, ee_123_21, ee_123_22, ee_123_23, ee_123_26, ee_123_27, ee_123_28, ee_123_29, ee_123_31, hl, hs, hc, r0, ek, Option.bind_some, Option.toList, List.cons_append, List.nil_append, List.append_nil, if_true, if_false, Bool.false_eq_true, eq_self, not_true_eq_false, not_false_eq_true]
  rw [st]
  rcases case18 hk with z | z | z | z | z | z | z | z | z | z | z | z | z | z | z | z | z | z | z | z
  · subst z
    obtain ⟨h', L2, e⟩ := sg_side (s1 h I.1) s1 (b_side I)
    refine ⟨h', L2, ?_⟩
    rw [show nI 0 = (0 : Int32) from rfl, ee_123_32_0, e, en]
  · subst z
    obtain ⟨h', L2, e⟩ := sg_set (s1 h I.1) s1 (s2 h I.1) s2 (b_set I)
    refine ⟨h', L2, ?_⟩
    rw [show nI 1 = (1 : Int32) from rfl, ee_123_32_1, e, en]
  · subst z
    obtain ⟨h', L2, e⟩ := sg_at (s1 h I.1) s1 (b_at I)
    refine ⟨h', L2, ?_⟩
    rw [show nI 2 = (2 : Int32) from rfl, ee_123_32_2, e, en]
  · subst z
    obtain ⟨h', L2, e⟩ := sg_say (s1 h I.1) s1 (b_say I)
    refine ⟨h', L2, ?_⟩
    rw [show nI 3 = (3 : Int32) from rfl, ee_123_32_3, e, en]
  · subst z
    obtain ⟨h', L2, e⟩ := sg_wipe (b_wipe I)
    refine ⟨h', L2, ?_⟩
    rw [show nI 4 = (4 : Int32) from rfl, ee_123_32_4, e, en]
  · subst z
    obtain ⟨h', L2, e⟩ := sg_take (s1 h I.1) s1 (b_take I)
    refine ⟨h', L2, ?_⟩
    rw [show nI 5 = (5 : Int32) from rfl, ee_123_32_5, e, en]
  · subst z
    obtain ⟨h', L2, e⟩ := sg_drop (s1 h I.1) s1 (b_drop I)
    refine ⟨h', L2, ?_⟩
    rw [show nI 6 = (6 : Int32) from rfl, ee_123_32_6, e, en]
  · subst z
    obtain ⟨h', L2, e⟩ := sg_fill (b_fill I)
    refine ⟨h', L2, ?_⟩
    rw [show nI 7 = (7 : Int32) from rfl, ee_123_32_7, e, en]
  · subst z
    obtain ⟨h', L2, e⟩ := sg_letter (s1 h I.1) s1 (s2 h I.1) s2 (s3 h I.1) s3 (b_letter I)
    refine ⟨h', L2, ?_⟩
    rw [show nI 8 = (8 : Int32) from rfl, ee_123_32_8, e, en]
  · subst z
    obtain ⟨h', L2, e⟩ := sg_stands (s1 h I.1) s1 (s2 h I.1) s2 (s3 h I.1) s3 (b_stands I)
    refine ⟨h', L2, ?_⟩
    rw [show nI 9 = (9 : Int32) from rfl, ee_123_32_9, e, en]
  · subst z
    obtain ⟨h', L2, e⟩ := sg_put (s1 h I.1) s1 (s2 h I.1) s2 (b_put I)
    refine ⟨h', L2, ?_⟩
    rw [show nI 10 = (10 : Int32) from rfl, ee_123_32_10, e, en]
  · subst z
    obtain ⟨h', L2, e⟩ := sg_fits (s1 h I.1) s1 (s2 h I.1) s2 (b_fits I)
    refine ⟨h', L2, ?_⟩
    rw [show nI 11 = (11 : Int32) from rfl, ee_123_32_11, e, en]
  · subst z
    obtain ⟨h', L2, e⟩ := sg_most (s1 h I.1) s1 (b_most I)
    refine ⟨h', L2, ?_⟩
    rw [show nI 12 = (12 : Int32) from rfl, ee_123_32_12, e, en]
  · subst z
    obtain ⟨h', L2, e⟩ := sg_covers (s1 h I.1) s1 (s2 h I.1) s2 (s3 h I.1) s3 (b_covers I)
    refine ⟨h', L2, ?_⟩
    rw [show nI 13 = (13 : Int32) from rfl, ee_123_32_13, e, en]
  · subst z
    obtain ⟨h', L2, e⟩ := sg_good (s1 h I.1) s1 (b_good I)
    refine ⟨h', L2, ?_⟩
    rw [show nI 14 = (14 : Int32) from rfl, ee_123_32_14, e, en]
  · subst z
    obtain ⟨h', L2, e⟩ := sg_hide (b_hide I)
    refine ⟨h', L2, ?_⟩
    rw [show nI 15 = (15 : Int32) from rfl, ee_123_32_15, e, en]
  · subst z
    obtain ⟨h', L2, e⟩ := sg_image (s1 h I.1) s1 (b_image I)
    refine ⟨h', L2, ?_⟩
    rw [show nI 16 = (16 : Int32) from rfl, ee_123_32_16, e, en]
  · subst z
    obtain ⟨h', L2, e⟩ := sg_restore (s1 h I.1) s1 (b_restore I)
    refine ⟨h', L2, ?_⟩
    rw [show nI 17 = (17 : Int32) from rfl, ee_123_32_17, e, en]
  · subst z
    obtain ⟨h', L2, e⟩ := sg_count (s1 h I.1) s1 (b_count I)
    refine ⟨h', L2, ?_⟩
    rw [show nI 18 = (18 : Int32) from rfl, ee_123_32_18, e, en]
  · refine ⟨h, I, ?_⟩
    rw [ee_123_32_d (Or.inr (by rw [nI_toInt (by omega)]; omega)), en]
theorem law_loop (hL : xs.length ≤ 2048) : ∀ (r n : Nat) (h : aH), n + 4 * r ≤ xs.length → LI xs h → ∃ h', LI xs h' ∧ go 40 123 18 [.ref 4, .ref 5, .ref 96, .int (nI n)] [] h = go 40 123 18 [.ref 4, .ref 5, .ref 96, .int (nI (n + 4 * r))] [] h'
  | 0, n, h, _, I => ⟨h, I, rfl⟩
  | r + 1, n, h, hn, I => by
    obtain ⟨h1, I1, e1⟩ := law_step hL (show n + 4 ≤ xs.length by omega) I
    obtain ⟨h2, I2, e2⟩ := law_loop hL r (n + 4) h1 (by omega) I1
    refine ⟨h2, I2, ?_⟩
    rw [e1, e2, show n + 4 + 4 * r = n + 4 * (r + 1) by omega]
theorem law_end (hL : xs.length ≤ 2048) (hn : xs.length < n + 4) (hn2 : n ≤ xs.length) (I : LI xs h) : go 40 123 18 [.ref 4, .ref 5, .ref 96, .int (nI n)] [] h = some (some (.int 1), h) := by
  have hl : al h 4 = some (nI xs.length) := by unfold al; rw [I.1]; rfl
  have hc : nI xs.length - 4 < nI n := by
    by_cases h4 : 4 ≤ xs.length
    · rw [show nI xs.length - 4 = nI (xs.length - 4) from pk_sub (a := xs.length) (b := 4) h4, nI_ltI (by omega) (by omega)]
      omega
    · have hz : ∀ m, m < 4 → nI m - 4 < 0 := by decide
      have h1 := hz xs.length (by omega)
      have h2 := nI_pos' (n := n) (by omega)
      exact Int32.lt_of_lt_of_le h1 h2
  simp only [ee_123_18, ee_123_19, ee_123_20, ee_123_21, ee_123_22, ee_123_23, ee_123_26, ee_123_27, ee_123_28, ee_123_29, ee_123_31, ee_123_627, ee_123_628, ee_123_628T, hl, hc, Option.bind_some, Option.toList, List.cons_append, List.nil_append, List.append_nil, if_true, if_false, Bool.false_eq_true, eq_self, not_true_eq_false, not_false_eq_true]
theorem law_runs (xs : List Int32) (hL : xs.length ≤ 2048) : LawRuns xs := by
  have I0 : LI xs (hS xs) := ⟨hS_4 xs, hS_len xs, by rw [hS_asl]; omega, g00, [], g00, g00, false, false, ci0 xs, mi0 xs⟩
  obtain ⟨h', I1, e⟩ := law_loop hL (xs.length / 4) 0 (hS xs) (by omega) I0
  rw [Nat.zero_add] at e
  have e2 := law_end hL (n := 4 * (xs.length / 4)) (by omega) (by omega) I1
  refine ⟨h', ?_, by rw [I1.2.1]; decide, I1.2.2.1⟩
  rw [law_start, show (0 : Int32) = nI 0 by decide, e, e2]
end LW
