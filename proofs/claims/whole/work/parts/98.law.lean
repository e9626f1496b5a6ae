/-! the law's loop -/
theorem ev_ok {y pc : Nat} {L st : List AV} {σ : aM} {v : Option AV} {σ' : aM} (h : ev y pc L st σ = some (v, σ')) (hL : okA L) (hst : okA st) (hM : okM σ) : okM σ' ∧ ∀ j, gI σ' 34 0 j = gI σ 34 0 j := by
  obtain ⟨k, hk⟩ := ev_iff.mp h
  exact (run_ok k y pc L st σ v σ' hk hL hst hM).2
theorem PR_use {B : Int} {μ : aM} {y y' : Nat} {L L' : List AV} (h : PR B μ (fun σ => ev y 0 L [] σ) (fun σ => ev y' 0 L' [] σ)) (hM : okM μ) (hL : okA L) (hL' : okA L') : ∃ a μ1 μ2, ev y 0 L [] μ = some (some (aI a), μ1) ∧ ev y' 0 L' [] μ1 = some (some (aI a), μ2) ∧ Inv μ2 (B + 2000000) ∧ okM μ2 ∧ (∀ j, gI μ1 34 0 j = gI μ 34 0 j) ∧ ∀ j, gI μ2 34 0 j = gI μ 34 0 j := by
  obtain ⟨a, μ1, μ2, h1, h2, h3⟩ := h
  obtain ⟨o1, s1⟩ := ev_ok h1 hL okA_nil hM
  obtain ⟨o2, s2⟩ := ev_ok h2 hL' okA_nil o1
  exact ⟨a, μ1, μ2, h1, h2, h3, o2, s1, fun j => (s2 j).trans (s1 j)⟩
theorem okv_0 : okv (aR 0 0) := ok_aR ⟨by decide, by decide, by decide⟩
theorem okv_25 : okv (aR 25 0) := ok_aR ⟨by decide, by decide, by decide⟩
theorem okv_I {x : Int} (h : okZ x) : okv (aI x) := h
theorem okv_J {x : Int64} : okv (aJ x) := trivial
theorem okv_U : okv aU := trivial
def LW (μ : aM) (B : Int) (pc : Nat) (i : Int) : Prop := ∃ μ2, ev 213 pc [aR 34 0, aR 0 0, aR 25 0, aI i] [] μ = ev 213 1324 [aR 34 0, aR 0 0, aR 25 0, aI i] [] μ2 ∧ Inv μ2 (B + 2000000) ∧ okM μ2 ∧ ∀ j, gI μ2 34 0 j = gI μ 34 0 j
theorem lw_row {μ : aM} {B i : Int} (hI : Inv μ B) (hM : okM μ) (hB : B + 2000000 < 2147483647) (hi : 0 ≤ i ∧ i + 6 ≤ gI μ 34 0 (-1)) (hn : gI μ 34 0 (-1) ≤ 3072) : LW μ B 188 i := by
  obtain ⟨a, μ1, μ2, h1, h2, h3, h4, h5, h6⟩ := PR_use (PR_row hI (gI μ 34 0 (i + 1)) (gI μ 34 0 (i + 2)) (gI μ 34 0 (i + 3))) hM (okA_cons okv_0 (okA_cons (okv_I (hM.1 _ _ _)) (okA_cons (okv_I (hM.1 _ _ _)) (okA_cons (okv_I (hM.1 _ _ _)) okA_nil)))) (okA_cons okv_25 (okA_cons (okv_I (hM.1 _ _ _)) (okA_cons (okv_I (hM.1 _ _ _)) (okA_cons (okv_I (hM.1 _ _ _)) (okA_cons okv_U okA_nil)))))
  have k1 := h5 (-1)
  refine ⟨μ2, ?_, h3, h4, h6⟩
  simp (disch := omega) only [e_Law_law_188, e_Law_law_189, e_Law_law_190, e_Law_law_191, e_Law_law_192, e_Law_law_193, e_Law_law_194, e_Law_law_195, e_Law_law_196, e_Law_law_197, e_Law_law_198, e_Law_law_199, e_Law_law_200, e_Law_law_201, e_Law_law_202, e_Law_law_203, e_Law_law_204, e_Law_law_207, e_Law_law_208, e_Law_law_209, e_Law_law_210, e_Law_law_211, e_Law_law_212, e_Law_law_213, e_Law_law_214, e_Law_law_215, e_Law_law_216, e_Law_law_217, e_Law_law_218, e_Law_law_219, e_Law_law_220, e_Law_law_221, e_Law_law_222, e_Law_law_223, e_Law_law_226, e_Law_law_229, e_Law_law_230, wr_id, h1, evK_i, h5, h2, if_true]
theorem lw_set {μ : aM} {B i : Int} (hI : Inv μ B) (hM : okM μ) (hB : B + 2000000 < 2147483647) (hi : 0 ≤ i ∧ i + 6 ≤ gI μ 34 0 (-1)) (hn : gI μ 34 0 (-1) ≤ 3072) : LW μ B 231 i := by
  obtain ⟨a, μ1, μ2, h1, h2, h3, h4, h5, h6⟩ := PR_use (PR_set hI (gI μ 34 0 (i + 1)) (gI μ 34 0 (i + 2)) (toj (gI μ 34 0 (i + 3)) <<< (toj 32 &&& 63) ||| toj (gI μ 34 0 (i + 4)) &&& 4294967295)) hM (okA_cons okv_0 (okA_cons (okv_I (hM.1 _ _ _)) (okA_cons (okv_I (hM.1 _ _ _)) (okA_cons okv_J (okA_cons okv_U (okA_cons okv_U okA_nil)))))) (okA_cons okv_25 (okA_cons (okv_I (hM.1 _ _ _)) (okA_cons (okv_I (hM.1 _ _ _)) (okA_cons okv_J (okA_cons okv_U (okA_cons okv_U okA_nil))))))
  have k1 := h5 (-1)
  refine ⟨μ2, ?_, h3, h4, h6⟩
  simp (disch := omega) only [e_Law_law_231, e_Law_law_232, e_Law_law_233, e_Law_law_234, e_Law_law_235, e_Law_law_236, e_Law_law_237, e_Law_law_238, e_Law_law_239, e_Law_law_240, e_Law_law_241, e_Law_law_242, e_Law_law_243, e_Law_law_244, e_Law_law_245, e_Law_law_246, e_Law_law_247, e_Law_law_248, e_Law_law_250, e_Law_law_251, e_Law_law_252, e_Law_law_253, e_Law_law_254, e_Law_law_255, e_Law_law_256, e_Law_law_257, e_Law_law_260, e_Law_law_261, e_Law_law_262, e_Law_law_265, e_Law_law_266, e_Law_law_267, e_Law_law_268, e_Law_law_269, e_Law_law_270, e_Law_law_271, e_Law_law_272, e_Law_law_273, e_Law_law_274, e_Law_law_275, e_Law_law_276, e_Law_law_277, e_Law_law_278, e_Law_law_279, e_Law_law_280, e_Law_law_281, e_Law_law_282, e_Law_law_284, e_Law_law_285, e_Law_law_286, e_Law_law_287, e_Law_law_288, e_Law_law_289, e_Law_law_290, e_Law_law_291, e_Law_law_294, e_Law_law_295, e_Law_law_296, e_Law_law_299, e_Law_law_302, e_Law_law_303, wr_id, h1, evK_i, h5, h2, if_true]
theorem lw_copy {μ : aM} {B i : Int} (hI : Inv μ B) (hM : okM μ) (hB : B + 2000000 < 2147483647) (hi : 0 ≤ i ∧ i + 6 ≤ gI μ 34 0 (-1)) (hn : gI μ 34 0 (-1) ≤ 3072) : LW μ B 304 i := by
  obtain ⟨a, μ1, μ2, h1, h2, h3, h4, h5, h6⟩ := PR_use (PR_copy hI (gI μ 34 0 (i + 1)) (gI μ 34 0 (i + 2)) (gI μ 34 0 (i + 3)) (gI μ 34 0 (i + 4)) (gI μ 34 0 (i + 5)) (hM.1 _ _ _) (hM.1 _ _ _) (hM.1 _ _ _)) hM (okA_cons okv_0 (okA_cons (okv_I (hM.1 _ _ _)) (okA_cons (okv_I (hM.1 _ _ _)) (okA_cons (okv_I (hM.1 _ _ _)) (okA_cons (okv_I (hM.1 _ _ _)) (okA_cons (okv_I (hM.1 _ _ _)) (okA_cons okv_U (okA_cons okv_U okA_nil)))))))) (okA_cons okv_25 (okA_cons (okv_I (hM.1 _ _ _)) (okA_cons (okv_I (hM.1 _ _ _)) (okA_cons (okv_I (hM.1 _ _ _)) (okA_cons (okv_I (hM.1 _ _ _)) (okA_cons (okv_I (hM.1 _ _ _)) (okA_cons okv_U (okA_cons okv_U okA_nil))))))))
  have k1 := h5 (-1)
  refine ⟨μ2, ?_, h3, h4, h6⟩
  simp (disch := omega) only [e_Law_law_304, e_Law_law_305, e_Law_law_306, e_Law_law_307, e_Law_law_308, e_Law_law_309, e_Law_law_310, e_Law_law_311, e_Law_law_312, e_Law_law_313, e_Law_law_314, e_Law_law_315, e_Law_law_316, e_Law_law_317, e_Law_law_318, e_Law_law_319, e_Law_law_320, e_Law_law_321, e_Law_law_322, e_Law_law_323, e_Law_law_324, e_Law_law_325, e_Law_law_326, e_Law_law_327, e_Law_law_328, e_Law_law_329, e_Law_law_330, e_Law_law_333, e_Law_law_334, e_Law_law_335, e_Law_law_336, e_Law_law_337, e_Law_law_338, e_Law_law_339, e_Law_law_340, e_Law_law_341, e_Law_law_342, e_Law_law_343, e_Law_law_344, e_Law_law_345, e_Law_law_346, e_Law_law_347, e_Law_law_348, e_Law_law_349, e_Law_law_350, e_Law_law_351, e_Law_law_352, e_Law_law_353, e_Law_law_354, e_Law_law_355, e_Law_law_356, e_Law_law_357, e_Law_law_358, e_Law_law_359, e_Law_law_362, e_Law_law_365, e_Law_law_366, wr_id, h1, evK_i, h5, h2, if_true]
theorem lw_element {μ : aM} {B i : Int} (hI : Inv μ B) (hM : okM μ) (hB : B + 2000000 < 2147483647) (hi : 0 ≤ i ∧ i + 6 ≤ gI μ 34 0 (-1)) (hn : gI μ 34 0 (-1) ≤ 3072) : LW μ B 367 i := by
  obtain ⟨a, h1, h2⟩ := PR_element hI (gI μ 34 0 (i + 1)) (gI μ 34 0 (i + 2))
  have e : (lg_cmp a a).toInt = 0 := by unfold lg_cmp; simp
  refine ⟨μ, ?_, Inv_mono hI (by omega), hM, fun _ => rfl⟩
  simp (disch := omega) only [e_Law_law_367, e_Law_law_368, e_Law_law_369, e_Law_law_370, e_Law_law_371, e_Law_law_372, e_Law_law_373, e_Law_law_374, e_Law_law_375, e_Law_law_376, e_Law_law_377, e_Law_law_378, e_Law_law_381, e_Law_law_382, e_Law_law_383, e_Law_law_384, e_Law_law_385, e_Law_law_386, e_Law_law_387, e_Law_law_388, e_Law_law_389, e_Law_law_390, e_Law_law_391, e_Law_law_392, e_Law_law_395, e_Law_law_396, e_Law_law_399, e_Law_law_400, wr_id, h1, evK_i, h2, e, if_true]
theorem lw_show {μ : aM} {B i : Int} (hI : Inv μ B) (hM : okM μ) (hB : B + 2000000 < 2147483647) (hi : 0 ≤ i ∧ i + 6 ≤ gI μ 34 0 (-1)) (hn : gI μ 34 0 (-1) ≤ 3072) : LW μ B 401 i := by
  obtain ⟨a, μ1, μ2, h1, h2, h3, h4, h5, h6⟩ := PR_use (PR_show hI (gI μ 34 0 (i + 1)) (gI μ 34 0 (i + 2))) hM (okA_cons okv_0 (okA_cons (okv_I (hM.1 _ _ _)) (okA_cons (okv_I (hM.1 _ _ _)) okA_nil))) (okA_cons okv_25 (okA_cons (okv_I (hM.1 _ _ _)) (okA_cons (okv_I (hM.1 _ _ _)) okA_nil)))
  have k1 := h5 (-1)
  refine ⟨μ2, ?_, h3, h4, h6⟩
  simp (disch := omega) only [e_Law_law_401, e_Law_law_402, e_Law_law_403, e_Law_law_404, e_Law_law_405, e_Law_law_406, e_Law_law_407, e_Law_law_408, e_Law_law_409, e_Law_law_410, e_Law_law_411, e_Law_law_412, e_Law_law_415, e_Law_law_416, e_Law_law_417, e_Law_law_418, e_Law_law_419, e_Law_law_420, e_Law_law_421, e_Law_law_422, e_Law_law_423, e_Law_law_424, e_Law_law_425, e_Law_law_426, e_Law_law_429, e_Law_law_432, e_Law_law_433, wr_id, h1, evK_i, h5, h2, if_true]
theorem lw_holds {μ : aM} {B i : Int} (hI : Inv μ B) (hM : okM μ) (hB : B + 2000000 < 2147483647) (hi : 0 ≤ i ∧ i + 6 ≤ gI μ 34 0 (-1)) (hn : gI μ 34 0 (-1) ≤ 3072) : LW μ B 434 i := by
  obtain ⟨a, μ1, μ2, h1, h2, h3, h4, h5, h6⟩ := PR_use (PR_holds hI (gI μ 34 0 (i + 1))) hM (okA_cons okv_0 (okA_cons (okv_I (hM.1 _ _ _)) (okA_cons okv_U okA_nil))) (okA_cons okv_25 (okA_cons (okv_I (hM.1 _ _ _)) okA_nil))
  have k1 := h5 (-1)
  refine ⟨μ2, ?_, h3, h4, h6⟩
  simp (disch := omega) only [e_Law_law_434, e_Law_law_435, e_Law_law_436, e_Law_law_437, e_Law_law_438, e_Law_law_439, e_Law_law_440, e_Law_law_443, e_Law_law_444, e_Law_law_445, e_Law_law_446, e_Law_law_447, e_Law_law_448, e_Law_law_449, e_Law_law_452, e_Law_law_455, e_Law_law_456, wr_id, h1, evK_i, h5, h2, if_true]
theorem lw_says {μ : aM} {B i : Int} (hI : Inv μ B) (hM : okM μ) (hB : B + 2000000 < 2147483647) (hi : 0 ≤ i ∧ i + 6 ≤ gI μ 34 0 (-1)) (hn : gI μ 34 0 (-1) ≤ 3072) : LW μ B 457 i := by
  obtain ⟨a, μ1, μ2, h1, h2, h3, h4, h5, h6⟩ := PR_use (PR_says hI (gI μ 34 0 (i + 1)) (gI μ 34 0 (i + 2))) hM (okA_cons okv_0 (okA_cons (okv_I (hM.1 _ _ _)) (okA_cons (okv_I (hM.1 _ _ _)) (okA_cons okv_U okA_nil)))) (okA_cons okv_25 (okA_cons (okv_I (hM.1 _ _ _)) (okA_cons (okv_I (hM.1 _ _ _)) (okA_cons okv_U (okA_cons okv_U (okA_cons okv_U okA_nil))))))
  have k1 := h5 (-1)
  refine ⟨μ2, ?_, h3, h4, h6⟩
  simp (disch := omega) only [e_Law_law_457, e_Law_law_458, e_Law_law_459, e_Law_law_460, e_Law_law_461, e_Law_law_462, e_Law_law_463, e_Law_law_464, e_Law_law_465, e_Law_law_466, e_Law_law_467, e_Law_law_468, e_Law_law_471, e_Law_law_472, e_Law_law_473, e_Law_law_474, e_Law_law_475, e_Law_law_476, e_Law_law_477, e_Law_law_478, e_Law_law_479, e_Law_law_480, e_Law_law_481, e_Law_law_482, e_Law_law_485, e_Law_law_488, e_Law_law_489, wr_id, h1, evK_i, h5, h2, if_true]
theorem lw_limit {μ : aM} {B i : Int} (hI : Inv μ B) (hM : okM μ) (hB : B + 2000000 < 2147483647) (hi : 0 ≤ i ∧ i + 6 ≤ gI μ 34 0 (-1)) (hn : gI μ 34 0 (-1) ≤ 3072) : LW μ B 490 i := by
  obtain ⟨a, μ1, μ2, h1, h2, h3, h4, h5, h6⟩ := PR_use (PR_limit hI hB (gI μ 34 0 (i + 1)) (gI μ 34 0 (i + 2)) (gI μ 34 0 (i + 3)) (gI μ 34 0 (i + 4)) (gI μ 34 0 (i + 5))) hM (okA_cons okv_0 (okA_cons (okv_I (hM.1 _ _ _)) (okA_cons (okv_I (hM.1 _ _ _)) (okA_cons (okv_I (hM.1 _ _ _)) (okA_cons (okv_I (hM.1 _ _ _)) (okA_cons (okv_I (hM.1 _ _ _)) (okA_cons okv_U (okA_cons okv_U okA_nil)))))))) (okA_cons okv_25 (okA_cons (okv_I (hM.1 _ _ _)) (okA_cons (okv_I (hM.1 _ _ _)) (okA_cons (okv_I (hM.1 _ _ _)) (okA_cons (okv_I (hM.1 _ _ _)) (okA_cons (okv_I (hM.1 _ _ _)) (okA_cons okv_U (okA_cons okv_U okA_nil))))))))
  have k1 := h5 (-1)
  refine ⟨μ2, ?_, h3, h4, h6⟩
  simp (disch := omega) only [e_Law_law_490, e_Law_law_491, e_Law_law_492, e_Law_law_493, e_Law_law_494, e_Law_law_495, e_Law_law_496, e_Law_law_497, e_Law_law_498, e_Law_law_499, e_Law_law_500, e_Law_law_501, e_Law_law_502, e_Law_law_503, e_Law_law_504, e_Law_law_505, e_Law_law_506, e_Law_law_507, e_Law_law_508, e_Law_law_509, e_Law_law_510, e_Law_law_511, e_Law_law_512, e_Law_law_513, e_Law_law_514, e_Law_law_515, e_Law_law_516, e_Law_law_519, e_Law_law_520, e_Law_law_521, e_Law_law_522, e_Law_law_523, e_Law_law_524, e_Law_law_525, e_Law_law_526, e_Law_law_527, e_Law_law_528, e_Law_law_529, e_Law_law_530, e_Law_law_531, e_Law_law_532, e_Law_law_533, e_Law_law_534, e_Law_law_535, e_Law_law_536, e_Law_law_537, e_Law_law_538, e_Law_law_539, e_Law_law_540, e_Law_law_541, e_Law_law_542, e_Law_law_543, e_Law_law_544, e_Law_law_545, e_Law_law_548, e_Law_law_551, e_Law_law_552, wr_id, h1, evK_i, h5, h2, if_true]
theorem lw_hidden {μ : aM} {B i : Int} (hI : Inv μ B) (hM : okM μ) (hB : B + 2000000 < 2147483647) (hi : 0 ≤ i ∧ i + 6 ≤ gI μ 34 0 (-1)) (hn : gI μ 34 0 (-1) ≤ 3072) : LW μ B 553 i := by
  obtain ⟨a, μ1, μ2, h1, h2, h3, h4, h5, h6⟩ := PR_use (PR_hidden hI hB (gI μ 34 0 (i + 1)) (gI μ 34 0 (i + 2)) (gI μ 34 0 (i + 3)) (gI μ 34 0 (i + 4)) (gI μ 34 0 (i + 5))) hM (okA_cons okv_0 (okA_cons (okv_I (hM.1 _ _ _)) (okA_cons (okv_I (hM.1 _ _ _)) (okA_cons (okv_I (hM.1 _ _ _)) (okA_cons (okv_I (hM.1 _ _ _)) (okA_cons (okv_I (hM.1 _ _ _)) (okA_cons okv_U (okA_cons okv_U okA_nil)))))))) (okA_cons okv_25 (okA_cons (okv_I (hM.1 _ _ _)) (okA_cons (okv_I (hM.1 _ _ _)) (okA_cons (okv_I (hM.1 _ _ _)) (okA_cons (okv_I (hM.1 _ _ _)) (okA_cons (okv_I (hM.1 _ _ _)) (okA_cons okv_U (okA_cons okv_U okA_nil))))))))
  have k1 := h5 (-1)
  refine ⟨μ2, ?_, h3, h4, h6⟩
  simp (disch := omega) only [e_Law_law_553, e_Law_law_554, e_Law_law_555, e_Law_law_556, e_Law_law_557, e_Law_law_558, e_Law_law_559, e_Law_law_560, e_Law_law_561, e_Law_law_562, e_Law_law_563, e_Law_law_564, e_Law_law_565, e_Law_law_566, e_Law_law_567, e_Law_law_568, e_Law_law_569, e_Law_law_570, e_Law_law_571, e_Law_law_572, e_Law_law_573, e_Law_law_574, e_Law_law_575, e_Law_law_576, e_Law_law_577, e_Law_law_578, e_Law_law_579, e_Law_law_582, e_Law_law_583, e_Law_law_584, e_Law_law_585, e_Law_law_586, e_Law_law_587, e_Law_law_588, e_Law_law_589, e_Law_law_590, e_Law_law_591, e_Law_law_592, e_Law_law_593, e_Law_law_594, e_Law_law_595, e_Law_law_596, e_Law_law_597, e_Law_law_598, e_Law_law_599, e_Law_law_600, e_Law_law_601, e_Law_law_602, e_Law_law_603, e_Law_law_604, e_Law_law_605, e_Law_law_606, e_Law_law_607, e_Law_law_608, e_Law_law_611, e_Law_law_614, e_Law_law_615, wr_id, h1, evK_i, h5, h2, if_true]
theorem lw_pegged {μ : aM} {B i : Int} (hI : Inv μ B) (hM : okM μ) (hB : B + 2000000 < 2147483647) (hi : 0 ≤ i ∧ i + 6 ≤ gI μ 34 0 (-1)) (hn : gI μ 34 0 (-1) ≤ 3072) : LW μ B 616 i := by
  obtain ⟨a, μ1, μ2, h1, h2, h3, h4, h5, h6⟩ := PR_use (PR_pegged hI hB (gI μ 34 0 (i + 1)) (gI μ 34 0 (i + 2)) (gI μ 34 0 (i + 3)) (gI μ 34 0 (i + 4))) hM (okA_cons okv_0 (okA_cons (okv_I (hM.1 _ _ _)) (okA_cons (okv_I (hM.1 _ _ _)) (okA_cons (okv_I (hM.1 _ _ _)) (okA_cons (okv_I (hM.1 _ _ _)) (okA_cons okv_U (okA_cons okv_U okA_nil))))))) (okA_cons okv_25 (okA_cons (okv_I (hM.1 _ _ _)) (okA_cons (okv_I (hM.1 _ _ _)) (okA_cons (okv_I (hM.1 _ _ _)) (okA_cons (okv_I (hM.1 _ _ _)) (okA_cons okv_U (okA_cons okv_U okA_nil)))))))
  have k1 := h5 (-1)
  refine ⟨μ2, ?_, h3, h4, h6⟩
  simp (disch := omega) only [e_Law_law_616, e_Law_law_617, e_Law_law_618, e_Law_law_619, e_Law_law_620, e_Law_law_621, e_Law_law_622, e_Law_law_623, e_Law_law_624, e_Law_law_625, e_Law_law_626, e_Law_law_627, e_Law_law_628, e_Law_law_629, e_Law_law_630, e_Law_law_631, e_Law_law_632, e_Law_law_633, e_Law_law_634, e_Law_law_635, e_Law_law_636, e_Law_law_637, e_Law_law_640, e_Law_law_641, e_Law_law_642, e_Law_law_643, e_Law_law_644, e_Law_law_645, e_Law_law_646, e_Law_law_647, e_Law_law_648, e_Law_law_649, e_Law_law_650, e_Law_law_651, e_Law_law_652, e_Law_law_653, e_Law_law_654, e_Law_law_655, e_Law_law_656, e_Law_law_657, e_Law_law_658, e_Law_law_659, e_Law_law_660, e_Law_law_661, e_Law_law_664, e_Law_law_667, e_Law_law_668, wr_id, h1, evK_i, h5, h2, if_true]
theorem lw_halt {μ : aM} {B i : Int} (hI : Inv μ B) (hM : okM μ) (hB : B + 2000000 < 2147483647) (hi : 0 ≤ i ∧ i + 6 ≤ gI μ 34 0 (-1)) (hn : gI μ 34 0 (-1) ≤ 3072) : LW μ B 669 i := by
  obtain ⟨a, μ1, μ2, h1, h2, h3, h4, h5, h6⟩ := PR_use (PR_halt hI hB (gI μ 34 0 (i + 1)) (gI μ 34 0 (i + 2)) (gI μ 34 0 (i + 3)) (gI μ 34 0 (i + 4))) hM (okA_cons okv_0 (okA_cons (okv_I (hM.1 _ _ _)) (okA_cons (okv_I (hM.1 _ _ _)) (okA_cons (okv_I (hM.1 _ _ _)) (okA_cons (okv_I (hM.1 _ _ _)) (okA_cons okv_U (okA_cons okv_U okA_nil))))))) (okA_cons okv_25 (okA_cons (okv_I (hM.1 _ _ _)) (okA_cons (okv_I (hM.1 _ _ _)) (okA_cons (okv_I (hM.1 _ _ _)) (okA_cons (okv_I (hM.1 _ _ _)) (okA_cons okv_U (okA_cons okv_U okA_nil)))))))
  have k1 := h5 (-1)
  refine ⟨μ2, ?_, h3, h4, h6⟩
  simp (disch := omega) only [e_Law_law_669, e_Law_law_670, e_Law_law_671, e_Law_law_672, e_Law_law_673, e_Law_law_674, e_Law_law_675, e_Law_law_676, e_Law_law_677, e_Law_law_678, e_Law_law_679, e_Law_law_680, e_Law_law_681, e_Law_law_682, e_Law_law_683, e_Law_law_684, e_Law_law_685, e_Law_law_686, e_Law_law_687, e_Law_law_688, e_Law_law_689, e_Law_law_690, e_Law_law_693, e_Law_law_694, e_Law_law_695, e_Law_law_696, e_Law_law_697, e_Law_law_698, e_Law_law_699, e_Law_law_700, e_Law_law_701, e_Law_law_702, e_Law_law_703, e_Law_law_704, e_Law_law_705, e_Law_law_706, e_Law_law_707, e_Law_law_708, e_Law_law_709, e_Law_law_710, e_Law_law_711, e_Law_law_712, e_Law_law_713, e_Law_law_714, e_Law_law_717, e_Law_law_720, e_Law_law_721, wr_id, h1, evK_i, h5, h2, if_true]
theorem lw_market {μ : aM} {B i : Int} (hI : Inv μ B) (hM : okM μ) (hB : B + 2000000 < 2147483647) (hi : 0 ≤ i ∧ i + 6 ≤ gI μ 34 0 (-1)) (hn : gI μ 34 0 (-1) ≤ 3072) : LW μ B 722 i := by
  obtain ⟨a, μ1, μ2, h1, h2, h3, h4, h5, h6⟩ := PR_use (PR_market hI hB (gI μ 34 0 (i + 1)) (gI μ 34 0 (i + 2)) (gI μ 34 0 (i + 3))) hM (okA_cons okv_0 (okA_cons (okv_I (hM.1 _ _ _)) (okA_cons (okv_I (hM.1 _ _ _)) (okA_cons (okv_I (hM.1 _ _ _)) okA_nil)))) (okA_cons okv_25 (okA_cons (okv_I (hM.1 _ _ _)) (okA_cons (okv_I (hM.1 _ _ _)) (okA_cons (okv_I (hM.1 _ _ _)) (okA_cons okv_U okA_nil)))))
  have k1 := h5 (-1)
  refine ⟨μ2, ?_, h3, h4, h6⟩
  simp (disch := omega) only [e_Law_law_722, e_Law_law_723, e_Law_law_724, e_Law_law_725, e_Law_law_726, e_Law_law_727, e_Law_law_728, e_Law_law_729, e_Law_law_730, e_Law_law_731, e_Law_law_732, e_Law_law_733, e_Law_law_734, e_Law_law_735, e_Law_law_736, e_Law_law_737, e_Law_law_738, e_Law_law_741, e_Law_law_742, e_Law_law_743, e_Law_law_744, e_Law_law_745, e_Law_law_746, e_Law_law_747, e_Law_law_748, e_Law_law_749, e_Law_law_750, e_Law_law_751, e_Law_law_752, e_Law_law_753, e_Law_law_754, e_Law_law_755, e_Law_law_756, e_Law_law_757, e_Law_law_760, e_Law_law_763, e_Law_law_764, wr_id, h1, evK_i, h5, h2, if_true]
theorem lw_read {μ : aM} {B i : Int} (hI : Inv μ B) (hM : okM μ) (hB : B + 2000000 < 2147483647) (hi : 0 ≤ i ∧ i + 6 ≤ gI μ 34 0 (-1)) (hn : gI μ 34 0 (-1) ≤ 3072) : LW μ B 765 i := by
  obtain ⟨a, μ1, μ2, h1, h2, h3, h4, h5, h6⟩ := PR_use (PR_read hI hB (gI μ 34 0 (i + 1))) hM (okA_cons okv_0 (okA_cons (okv_I (hM.1 _ _ _)) (okA_cons okv_U (okA_cons okv_U (okA_cons okv_U okA_nil))))) (okA_cons okv_25 (okA_cons (okv_I (hM.1 _ _ _)) (okA_cons okv_U (okA_cons okv_U okA_nil))))
  have k1 := h5 (-1)
  refine ⟨μ2, ?_, h3, h4, h6⟩
  simp (disch := omega) only [e_Law_law_765, e_Law_law_766, e_Law_law_767, e_Law_law_768, e_Law_law_769, e_Law_law_770, e_Law_law_771, e_Law_law_774, e_Law_law_775, e_Law_law_776, e_Law_law_777, e_Law_law_778, e_Law_law_779, e_Law_law_780, e_Law_law_783, e_Law_law_786, e_Law_law_787, wr_id, h1, evK_i, h5, h2, if_true]
theorem lw_fault {μ : aM} {B i : Int} (hI : Inv μ B) (hM : okM μ) (hB : B + 2000000 < 2147483647) (hi : 0 ≤ i ∧ i + 6 ≤ gI μ 34 0 (-1)) (hn : gI μ 34 0 (-1) ≤ 3072) : LW μ B 788 i := by
  obtain ⟨a, μ1, μ2, h1, h2, h3, h4, h5, h6⟩ := PR_use (PR_fault hI ) hM (okA_cons okv_0 okA_nil) (okA_cons okv_25 okA_nil)
  have k1 := h5 (-1)
  refine ⟨μ2, ?_, h3, h4, h6⟩
  simp (disch := omega) only [e_Law_law_788, e_Law_law_789, e_Law_law_792, e_Law_law_793, e_Law_law_796, e_Law_law_799, e_Law_law_800, wr_id, h1, evK_i, h5, h2, if_true]
theorem lw_cancel {μ : aM} {B i : Int} (hI : Inv μ B) (hM : okM μ) (hB : B + 2000000 < 2147483647) (hi : 0 ≤ i ∧ i + 6 ≤ gI μ 34 0 (-1)) (hn : gI μ 34 0 (-1) ≤ 3072) : LW μ B 801 i := by
  obtain ⟨a, μ1, μ2, h1, h2, h3, h4, h5, h6⟩ := PR_use (PR_cancel hI (gI μ 34 0 (i + 1))) hM (okA_cons okv_0 (okA_cons (okv_I (hM.1 _ _ _)) (okA_cons okv_U okA_nil))) (okA_cons okv_25 (okA_cons (okv_I (hM.1 _ _ _)) okA_nil))
  have k1 := h5 (-1)
  refine ⟨μ2, ?_, h3, h4, h6⟩
  simp (disch := omega) only [e_Law_law_801, e_Law_law_802, e_Law_law_803, e_Law_law_804, e_Law_law_805, e_Law_law_806, e_Law_law_807, e_Law_law_810, e_Law_law_811, e_Law_law_812, e_Law_law_813, e_Law_law_814, e_Law_law_815, e_Law_law_816, e_Law_law_819, e_Law_law_822, e_Law_law_823, wr_id, h1, evK_i, h5, h2, if_true]
theorem lw_amend {μ : aM} {B i : Int} (hI : Inv μ B) (hM : okM μ) (hB : B + 2000000 < 2147483647) (hi : 0 ≤ i ∧ i + 6 ≤ gI μ 34 0 (-1)) (hn : gI μ 34 0 (-1) ≤ 3072) : LW μ B 824 i := by
  obtain ⟨a, μ1, μ2, h1, h2, h3, h4, h5, h6⟩ := PR_use (PR_amend hI hB (gI μ 34 0 (i + 1)) (gI μ 34 0 (i + 2)) (gI μ 34 0 (i + 3))) hM (okA_cons okv_0 (okA_cons (okv_I (hM.1 _ _ _)) (okA_cons (okv_I (hM.1 _ _ _)) (okA_cons (okv_I (hM.1 _ _ _)) (okA_cons okv_U (okA_cons okv_U okA_nil)))))) (okA_cons okv_25 (okA_cons (okv_I (hM.1 _ _ _)) (okA_cons (okv_I (hM.1 _ _ _)) (okA_cons (okv_I (hM.1 _ _ _)) (okA_cons okv_U (okA_cons okv_U okA_nil))))))
  have k1 := h5 (-1)
  refine ⟨μ2, ?_, h3, h4, h6⟩
  simp (disch := omega) only [e_Law_law_824, e_Law_law_825, e_Law_law_826, e_Law_law_827, e_Law_law_828, e_Law_law_829, e_Law_law_830, e_Law_law_831, e_Law_law_832, e_Law_law_833, e_Law_law_834, e_Law_law_835, e_Law_law_836, e_Law_law_837, e_Law_law_838, e_Law_law_839, e_Law_law_840, e_Law_law_843, e_Law_law_844, e_Law_law_845, e_Law_law_846, e_Law_law_847, e_Law_law_848, e_Law_law_849, e_Law_law_850, e_Law_law_851, e_Law_law_852, e_Law_law_853, e_Law_law_854, e_Law_law_855, e_Law_law_856, e_Law_law_857, e_Law_law_858, e_Law_law_859, e_Law_law_862, e_Law_law_865, e_Law_law_866, wr_id, h1, evK_i, h5, h2, if_true]
theorem lw_rule {μ : aM} {B i : Int} (hI : Inv μ B) (hM : okM μ) (hB : B + 2000000 < 2147483647) (hi : 0 ≤ i ∧ i + 6 ≤ gI μ 34 0 (-1)) (hn : gI μ 34 0 (-1) ≤ 3072) : LW μ B 867 i := by
  obtain ⟨a, μ1, μ2, h1, h2, h3, h4, h5, h6⟩ := PR_use (PR_rule hI (gI μ 34 0 (i + 1))) hM (okA_cons okv_0 (okA_cons (okv_I (hM.1 _ _ _)) (okA_cons okv_U okA_nil))) (okA_cons okv_25 (okA_cons (okv_I (hM.1 _ _ _)) (okA_cons okv_U okA_nil)))
  have k1 := h5 (-1)
  refine ⟨μ2, ?_, h3, h4, h6⟩
  simp (disch := omega) only [e_Law_law_867, e_Law_law_868, e_Law_law_869, e_Law_law_870, e_Law_law_871, e_Law_law_872, e_Law_law_873, e_Law_law_876, e_Law_law_877, e_Law_law_878, e_Law_law_879, e_Law_law_880, e_Law_law_881, e_Law_law_882, e_Law_law_885, e_Law_law_888, e_Law_law_889, wr_id, h1, evK_i, h5, h2, if_true]
theorem lw_uncross {μ : aM} {B i : Int} (hI : Inv μ B) (hM : okM μ) (hB : B + 2000000 < 2147483647) (hi : 0 ≤ i ∧ i + 6 ≤ gI μ 34 0 (-1)) (hn : gI μ 34 0 (-1) ≤ 3072) : LW μ B 890 i := by
  obtain ⟨a, μ1, μ2, h1, h2, h3, h4, h5, h6⟩ := PR_use (PR_uncross hI hB ) hM (okA_cons okv_0 okA_nil) (okA_cons okv_25 (okA_cons okv_U (okA_cons okv_U okA_nil)))
  have k1 := h5 (-1)
  refine ⟨μ2, ?_, h3, h4, h6⟩
  simp (disch := omega) only [e_Law_law_890, e_Law_law_891, e_Law_law_894, e_Law_law_895, e_Law_law_898, e_Law_law_901, e_Law_law_902, wr_id, h1, evK_i, h5, h2, if_true]
theorem lw_close {μ : aM} {B i : Int} (hI : Inv μ B) (hM : okM μ) (hB : B + 2000000 < 2147483647) (hi : 0 ≤ i ∧ i + 6 ≤ gI μ 34 0 (-1)) (hn : gI μ 34 0 (-1) ≤ 3072) : LW μ B 903 i := by
  obtain ⟨a, μ1, μ2, h1, h2, h3, h4, h5, h6⟩ := PR_use (PR_close hI ) hM (okA_cons okv_0 okA_nil) (okA_cons okv_25 okA_nil)
  have k1 := h5 (-1)
  refine ⟨μ2, ?_, h3, h4, h6⟩
  simp (disch := omega) only [e_Law_law_903, e_Law_law_904, e_Law_law_907, e_Law_law_908, e_Law_law_911, e_Law_law_914, e_Law_law_915, wr_id, h1, evK_i, h5, h2, if_true]
theorem lw_crossing {μ : aM} {B i : Int} (hI : Inv μ B) (hM : okM μ) (hB : B + 2000000 < 2147483647) (hi : 0 ≤ i ∧ i + 6 ≤ gI μ 34 0 (-1)) (hn : gI μ 34 0 (-1) ≤ 3072) : LW μ B 916 i := by
  obtain ⟨a, μ1, μ2, h1, h2, h3, h4, h5, h6⟩ := PR_use (PR_crossing hI (gI μ 34 0 (i + 1))) hM (okA_cons okv_0 (okA_cons (okv_I (hM.1 _ _ _)) okA_nil)) (okA_cons okv_25 (okA_cons (okv_I (hM.1 _ _ _)) (okA_cons okv_U okA_nil)))
  have k1 := h5 (-1)
  refine ⟨μ2, ?_, h3, h4, h6⟩
  simp (disch := omega) only [e_Law_law_916, e_Law_law_917, e_Law_law_918, e_Law_law_919, e_Law_law_920, e_Law_law_921, e_Law_law_922, e_Law_law_925, e_Law_law_926, e_Law_law_927, e_Law_law_928, e_Law_law_929, e_Law_law_930, e_Law_law_931, e_Law_law_934, e_Law_law_937, e_Law_law_938, wr_id, h1, evK_i, h5, h2, if_true]
theorem lw_orderOf {μ : aM} {B i : Int} (hI : Inv μ B) (hM : okM μ) (hB : B + 2000000 < 2147483647) (hi : 0 ≤ i ∧ i + 6 ≤ gI μ 34 0 (-1)) (hn : gI μ 34 0 (-1) ≤ 3072) : LW μ B 939 i := by
  obtain ⟨a, μ1, μ2, h1, h2, h3, h4, h5, h6⟩ := PR_use (PR_orderOf hI (gI μ 34 0 (i + 1)) (gI μ 34 0 (i + 2))) hM (okA_cons okv_0 (okA_cons (okv_I (hM.1 _ _ _)) (okA_cons (okv_I (hM.1 _ _ _)) (okA_cons okv_U okA_nil)))) (okA_cons okv_25 (okA_cons (okv_I (hM.1 _ _ _)) (okA_cons (okv_I (hM.1 _ _ _)) okA_nil)))
  have k1 := h5 (-1)
  refine ⟨μ2, ?_, h3, h4, h6⟩
  simp (disch := omega) only [e_Law_law_939, e_Law_law_940, e_Law_law_941, e_Law_law_942, e_Law_law_943, e_Law_law_944, e_Law_law_945, e_Law_law_946, e_Law_law_947, e_Law_law_948, e_Law_law_949, e_Law_law_950, e_Law_law_953, e_Law_law_954, e_Law_law_955, e_Law_law_956, e_Law_law_957, e_Law_law_958, e_Law_law_959, e_Law_law_960, e_Law_law_961, e_Law_law_962, e_Law_law_963, e_Law_law_964, e_Law_law_967, e_Law_law_970, e_Law_law_971, wr_id, h1, evK_i, h5, h2, if_true]
theorem lw_rank {μ : aM} {B i : Int} (hI : Inv μ B) (hM : okM μ) (hB : B + 2000000 < 2147483647) (hi : 0 ≤ i ∧ i + 6 ≤ gI μ 34 0 (-1)) (hn : gI μ 34 0 (-1) ≤ 3072) : LW μ B 972 i := by
  obtain ⟨a, μ1, μ2, h1, h2, h3, h4, h5, h6⟩ := PR_use (PR_rank hI (gI μ 34 0 (i + 1)) (gI μ 34 0 (i + 2))) hM (okA_cons okv_0 (okA_cons (okv_I (hM.1 _ _ _)) (okA_cons (okv_I (hM.1 _ _ _)) (okA_cons okv_U okA_nil)))) (okA_cons okv_25 (okA_cons (okv_I (hM.1 _ _ _)) (okA_cons (okv_I (hM.1 _ _ _)) okA_nil)))
  have k1 := h5 (-1)
  refine ⟨μ2, ?_, h3, h4, h6⟩
  simp (disch := omega) only [e_Law_law_972, e_Law_law_973, e_Law_law_974, e_Law_law_975, e_Law_law_976, e_Law_law_977, e_Law_law_978, e_Law_law_979, e_Law_law_980, e_Law_law_981, e_Law_law_982, e_Law_law_983, e_Law_law_986, e_Law_law_987, e_Law_law_988, e_Law_law_989, e_Law_law_990, e_Law_law_991, e_Law_law_992, e_Law_law_993, e_Law_law_994, e_Law_law_995, e_Law_law_996, e_Law_law_997, e_Law_law_1000, e_Law_law_1003, e_Law_law_1004, wr_id, h1, evK_i, h5, h2, if_true]
theorem lw_depth {μ : aM} {B i : Int} (hI : Inv μ B) (hM : okM μ) (hB : B + 2000000 < 2147483647) (hi : 0 ≤ i ∧ i + 6 ≤ gI μ 34 0 (-1)) (hn : gI μ 34 0 (-1) ≤ 3072) : LW μ B 1005 i := by
  obtain ⟨a, μ1, μ2, h1, h2, h3, h4, h5, h6⟩ := PR_use (PR_depth hI (gI μ 34 0 (i + 1)) (gI μ 34 0 (i + 2)) (gI μ 34 0 (i + 3))) hM (okA_cons okv_0 (okA_cons (okv_I (hM.1 _ _ _)) (okA_cons (okv_I (hM.1 _ _ _)) (okA_cons (okv_I (hM.1 _ _ _)) (okA_cons okv_U okA_nil))))) (okA_cons okv_25 (okA_cons (okv_I (hM.1 _ _ _)) (okA_cons (okv_I (hM.1 _ _ _)) (okA_cons (okv_I (hM.1 _ _ _)) (okA_cons okv_U (okA_cons okv_U (okA_cons okv_U (okA_cons okv_U (okA_cons okv_U okA_nil)))))))))
  have k1 := h5 (-1)
  refine ⟨μ2, ?_, h3, h4, h6⟩
  simp (disch := omega) only [e_Law_law_1005, e_Law_law_1006, e_Law_law_1007, e_Law_law_1008, e_Law_law_1009, e_Law_law_1010, e_Law_law_1011, e_Law_law_1012, e_Law_law_1013, e_Law_law_1014, e_Law_law_1015, e_Law_law_1016, e_Law_law_1017, e_Law_law_1018, e_Law_law_1019, e_Law_law_1020, e_Law_law_1021, e_Law_law_1024, e_Law_law_1025, e_Law_law_1026, e_Law_law_1027, e_Law_law_1028, e_Law_law_1029, e_Law_law_1030, e_Law_law_1031, e_Law_law_1032, e_Law_law_1033, e_Law_law_1034, e_Law_law_1035, e_Law_law_1036, e_Law_law_1037, e_Law_law_1038, e_Law_law_1039, e_Law_law_1040, e_Law_law_1043, e_Law_law_1046, e_Law_law_1047, wr_id, h1, evK_i, h5, h2, if_true]
theorem lw_ahead {μ : aM} {B i : Int} (hI : Inv μ B) (hM : okM μ) (hB : B + 2000000 < 2147483647) (hi : 0 ≤ i ∧ i + 6 ≤ gI μ 34 0 (-1)) (hn : gI μ 34 0 (-1) ≤ 3072) : LW μ B 1048 i := by
  obtain ⟨a, μ1, μ2, h1, h2, h3, h4, h5, h6⟩ := PR_use (PR_ahead hI (gI μ 34 0 (i + 1))) hM (okA_cons okv_0 (okA_cons (okv_I (hM.1 _ _ _)) (okA_cons okv_U okA_nil))) (okA_cons okv_25 (okA_cons (okv_I (hM.1 _ _ _)) (okA_cons okv_U (okA_cons okv_U okA_nil))))
  have k1 := h5 (-1)
  refine ⟨μ2, ?_, h3, h4, h6⟩
  simp (disch := omega) only [e_Law_law_1048, e_Law_law_1049, e_Law_law_1050, e_Law_law_1051, e_Law_law_1052, e_Law_law_1053, e_Law_law_1054, e_Law_law_1057, e_Law_law_1058, e_Law_law_1059, e_Law_law_1060, e_Law_law_1061, e_Law_law_1062, e_Law_law_1063, e_Law_law_1066, e_Law_law_1069, e_Law_law_1070, wr_id, h1, evK_i, h5, h2, if_true]
theorem lw_sweep {μ : aM} {B i : Int} (hI : Inv μ B) (hM : okM μ) (hB : B + 2000000 < 2147483647) (hi : 0 ≤ i ∧ i + 6 ≤ gI μ 34 0 (-1)) (hn : gI μ 34 0 (-1) ≤ 3072) : LW μ B 1071 i := by
  obtain ⟨a, μ1, μ2, h1, h2, h3, h4, h5, h6⟩ := PR_use (PR_sweep hI (gI μ 34 0 (i + 1)) (gI μ 34 0 (i + 2))) hM (okA_cons okv_0 (okA_cons (okv_I (hM.1 _ _ _)) (okA_cons (okv_I (hM.1 _ _ _)) okA_nil))) (okA_cons okv_25 (okA_cons (okv_I (hM.1 _ _ _)) (okA_cons (okv_I (hM.1 _ _ _)) (okA_cons okv_U (okA_cons okv_U (okA_cons okv_U (okA_cons okv_U (okA_cons okv_U okA_nil))))))))
  have k1 := h5 (-1)
  refine ⟨μ2, ?_, h3, h4, h6⟩
  simp (disch := omega) only [e_Law_law_1071, e_Law_law_1072, e_Law_law_1073, e_Law_law_1074, e_Law_law_1075, e_Law_law_1076, e_Law_law_1077, e_Law_law_1078, e_Law_law_1079, e_Law_law_1080, e_Law_law_1081, e_Law_law_1082, e_Law_law_1085, e_Law_law_1086, e_Law_law_1087, e_Law_law_1088, e_Law_law_1089, e_Law_law_1090, e_Law_law_1091, e_Law_law_1092, e_Law_law_1093, e_Law_law_1094, e_Law_law_1095, e_Law_law_1096, e_Law_law_1099, e_Law_law_1102, e_Law_law_1103, wr_id, h1, evK_i, h5, h2, if_true]
theorem lw_trades {μ : aM} {B i : Int} (hI : Inv μ B) (hM : okM μ) (hB : B + 2000000 < 2147483647) (hi : 0 ≤ i ∧ i + 6 ≤ gI μ 34 0 (-1)) (hn : gI μ 34 0 (-1) ≤ 3072) : LW μ B 1104 i := by
  obtain ⟨a, μ1, μ2, h1, h2, h3, h4, h5, h6⟩ := PR_use (PR_trades hI ) hM (okA_cons okv_0 okA_nil) (okA_cons okv_25 okA_nil)
  have k1 := h5 (-1)
  refine ⟨μ2, ?_, h3, h4, h6⟩
  simp (disch := omega) only [e_Law_law_1104, e_Law_law_1105, e_Law_law_1108, e_Law_law_1109, e_Law_law_1112, e_Law_law_1115, e_Law_law_1116, wr_id, h1, evK_i, h5, h2, if_true]
theorem lw_trade {μ : aM} {B i : Int} (hI : Inv μ B) (hM : okM μ) (hB : B + 2000000 < 2147483647) (hi : 0 ≤ i ∧ i + 6 ≤ gI μ 34 0 (-1)) (hn : gI μ 34 0 (-1) ≤ 3072) : LW μ B 1117 i := by
  obtain ⟨a, μ1, μ2, h1, h2, h3, h4, h5, h6⟩ := PR_use (PR_trade hI (gI μ 34 0 (i + 1)) (gI μ 34 0 (i + 2))) hM (okA_cons okv_0 (okA_cons (okv_I (hM.1 _ _ _)) (okA_cons (okv_I (hM.1 _ _ _)) okA_nil))) (okA_cons okv_25 (okA_cons (okv_I (hM.1 _ _ _)) (okA_cons (okv_I (hM.1 _ _ _)) okA_nil)))
  have k1 := h5 (-1)
  refine ⟨μ2, ?_, h3, h4, h6⟩
  simp (disch := omega) only [e_Law_law_1117, e_Law_law_1118, e_Law_law_1119, e_Law_law_1120, e_Law_law_1121, e_Law_law_1122, e_Law_law_1123, e_Law_law_1124, e_Law_law_1125, e_Law_law_1126, e_Law_law_1127, e_Law_law_1128, e_Law_law_1131, e_Law_law_1132, e_Law_law_1133, e_Law_law_1134, e_Law_law_1135, e_Law_law_1136, e_Law_law_1137, e_Law_law_1138, e_Law_law_1139, e_Law_law_1140, e_Law_law_1141, e_Law_law_1142, e_Law_law_1145, e_Law_law_1148, e_Law_law_1149, wr_id, h1, evK_i, h5, h2, if_true]
theorem lw_position {μ : aM} {B i : Int} (hI : Inv μ B) (hM : okM μ) (hB : B + 2000000 < 2147483647) (hi : 0 ≤ i ∧ i + 6 ≤ gI μ 34 0 (-1)) (hn : gI μ 34 0 (-1) ≤ 3072) : LW μ B 1150 i := by
  obtain ⟨a, μ1, μ2, h1, h2, h3, h4, h5, h6⟩ := PR_use (PR_position hI (gI μ 34 0 (i + 1))) hM (okA_cons okv_0 (okA_cons (okv_I (hM.1 _ _ _)) okA_nil)) (okA_cons okv_25 (okA_cons (okv_I (hM.1 _ _ _)) okA_nil))
  have k1 := h5 (-1)
  refine ⟨μ2, ?_, h3, h4, h6⟩
  simp (disch := omega) only [e_Law_law_1150, e_Law_law_1151, e_Law_law_1152, e_Law_law_1153, e_Law_law_1154, e_Law_law_1155, e_Law_law_1156, e_Law_law_1159, e_Law_law_1160, e_Law_law_1161, e_Law_law_1162, e_Law_law_1163, e_Law_law_1164, e_Law_law_1165, e_Law_law_1168, e_Law_law_1171, e_Law_law_1172, wr_id, h1, evK_i, h5, h2, if_true]
theorem lw_cash {μ : aM} {B i : Int} (hI : Inv μ B) (hM : okM μ) (hB : B + 2000000 < 2147483647) (hi : 0 ≤ i ∧ i + 6 ≤ gI μ 34 0 (-1)) (hn : gI μ 34 0 (-1) ≤ 3072) : LW μ B 1173 i := by
  obtain ⟨a, μ1, μ2, h1, h2, h3, h4, h5, h6⟩ := PR_use (PR_cash hI (gI μ 34 0 (i + 1))) hM (okA_cons okv_0 (okA_cons (okv_I (hM.1 _ _ _)) okA_nil)) (okA_cons okv_25 (okA_cons (okv_I (hM.1 _ _ _)) okA_nil))
  have k1 := h5 (-1)
  refine ⟨μ2, ?_, h3, h4, h6⟩
  simp (disch := omega) only [e_Law_law_1173, e_Law_law_1174, e_Law_law_1175, e_Law_law_1176, e_Law_law_1177, e_Law_law_1178, e_Law_law_1179, e_Law_law_1182, e_Law_law_1183, e_Law_law_1184, e_Law_law_1185, e_Law_law_1186, e_Law_law_1187, e_Law_law_1188, e_Law_law_1191, e_Law_law_1194, e_Law_law_1195, wr_id, h1, evK_i, h5, h2, if_true]
theorem lw_judge {μ : aM} {B i : Int} (hI : Inv μ B) (hM : okM μ) (hB : B + 2000000 < 2147483647) (hi : 0 ≤ i ∧ i + 6 ≤ gI μ 34 0 (-1)) (hn : gI μ 34 0 (-1) ≤ 3072) : LW μ B 1196 i := by
  obtain ⟨a, μ1, μ2, h1, h2, h3, h4, h5, h6⟩ := PR_use (PR_judge hI (gI μ 34 0 (i + 1)) (gI μ 34 0 (i + 2))) hM (okA_cons okv_0 (okA_cons (okv_I (hM.1 _ _ _)) (okA_cons (okv_I (hM.1 _ _ _)) (okA_cons okv_U (okA_cons okv_U okA_nil))))) (okA_cons okv_25 (okA_cons (okv_I (hM.1 _ _ _)) (okA_cons (okv_I (hM.1 _ _ _)) (okA_cons okv_U (okA_cons okv_U (okA_cons okv_U (okA_cons okv_U okA_nil)))))))
  have k1 := h5 (-1)
  refine ⟨μ2, ?_, h3, h4, h6⟩
  simp (disch := omega) only [e_Law_law_1196, e_Law_law_1197, e_Law_law_1198, e_Law_law_1199, e_Law_law_1200, e_Law_law_1201, e_Law_law_1202, e_Law_law_1203, e_Law_law_1204, e_Law_law_1205, e_Law_law_1206, e_Law_law_1207, e_Law_law_1210, e_Law_law_1211, e_Law_law_1212, e_Law_law_1213, e_Law_law_1214, e_Law_law_1215, e_Law_law_1216, e_Law_law_1217, e_Law_law_1218, e_Law_law_1219, e_Law_law_1220, e_Law_law_1221, e_Law_law_1224, e_Law_law_1227, e_Law_law_1228, wr_id, h1, evK_i, h5, h2, if_true]
theorem lw_draws {μ : aM} {B i : Int} (hI : Inv μ B) (hM : okM μ) (hB : B + 2000000 < 2147483647) (hi : 0 ≤ i ∧ i + 6 ≤ gI μ 34 0 (-1)) (hn : gI μ 34 0 (-1) ≤ 3072) : LW μ B 1229 i := by
  obtain ⟨a, μ1, μ2, h1, h2, h3, h4, h5, h6⟩ := PR_use (PR_draws hI hB (gI μ 34 0 (i + 1))) hM (okA_cons okv_0 (okA_cons (okv_I (hM.1 _ _ _)) (okA_cons okv_U (okA_cons okv_U (okA_cons okv_U (okA_cons okv_U (okA_cons okv_U (okA_cons okv_U okA_nil)))))))) (okA_cons okv_25 (okA_cons (okv_I (hM.1 _ _ _)) (okA_cons okv_U (okA_cons okv_U (okA_cons okv_U (okA_cons okv_U (okA_cons okv_U (okA_cons okv_U okA_nil))))))))
  have k1 := h5 (-1)
  refine ⟨μ2, ?_, h3, h4, h6⟩
  simp (disch := omega) only [e_Law_law_1229, e_Law_law_1230, e_Law_law_1231, e_Law_law_1232, e_Law_law_1233, e_Law_law_1234, e_Law_law_1235, e_Law_law_1238, e_Law_law_1239, e_Law_law_1240, e_Law_law_1241, e_Law_law_1242, e_Law_law_1243, e_Law_law_1244, e_Law_law_1247, e_Law_law_1250, e_Law_law_1251, wr_id, h1, evK_i, h5, h2, if_true]
theorem lw_seed {μ : aM} {B i : Int} (hI : Inv μ B) (hM : okM μ) (hB : B + 2000000 < 2147483647) (hi : 0 ≤ i ∧ i + 6 ≤ gI μ 34 0 (-1)) (hn : gI μ 34 0 (-1) ≤ 3072) : LW μ B 1252 i := by
  obtain ⟨a, μ1, μ2, h1, h2, h3, h4, h5, h6⟩ := PR_use (PR_seed hI (gI μ 34 0 (i + 1))) hM (okA_cons okv_0 (okA_cons (okv_I (hM.1 _ _ _)) (okA_cons okv_U okA_nil))) (okA_cons okv_25 (okA_cons (okv_I (hM.1 _ _ _)) (okA_cons okv_U okA_nil)))
  have k1 := h5 (-1)
  refine ⟨μ2, ?_, h3, h4, h6⟩
  simp (disch := omega) only [e_Law_law_1252, e_Law_law_1253, e_Law_law_1254, e_Law_law_1255, e_Law_law_1256, e_Law_law_1257, e_Law_law_1258, e_Law_law_1261, e_Law_law_1262, e_Law_law_1263, e_Law_law_1264, e_Law_law_1265, e_Law_law_1266, e_Law_law_1267, e_Law_law_1270, e_Law_law_1273, e_Law_law_1274, wr_id, h1, evK_i, h5, h2, if_true]
theorem lw_image {μ : aM} {B i : Int} (hI : Inv μ B) (hM : okM μ) (hB : B + 2000000 < 2147483647) (hi : 0 ≤ i ∧ i + 6 ≤ gI μ 34 0 (-1)) (hn : gI μ 34 0 (-1) ≤ 3072) : LW μ B 1275 i := by
  obtain ⟨a, μ1, μ2, h1, h2, h3, h4, h5, h6⟩ := PR_use (PR_image hI ) hM (okA_cons okv_0 okA_nil) (okA_cons okv_25 (okA_cons okv_U okA_nil))
  have k1 := h5 (-1)
  refine ⟨μ2, ?_, h3, h4, h6⟩
  simp (disch := omega) only [e_Law_law_1275, e_Law_law_1276, e_Law_law_1279, e_Law_law_1280, e_Law_law_1283, e_Law_law_1286, e_Law_law_1287, wr_id, h1, evK_i, h5, h2, if_true]
theorem lw_restore {μ : aM} {B i : Int} (hI : Inv μ B) (hM : okM μ) (hB : B + 2000000 < 2147483647) (hi : 0 ≤ i ∧ i + 6 ≤ gI μ 34 0 (-1)) (hn : gI μ 34 0 (-1) ≤ 3072) : LW μ B 1288 i := by
  obtain ⟨a, μ1, μ2, h1, h2, h3, h4, h5, h6⟩ := PR_use (PR_restore hI ) hM (okA_cons okv_0 (okA_cons okv_U okA_nil)) (okA_cons okv_25 (okA_cons okv_U okA_nil))
  have k1 := h5 (-1)
  refine ⟨μ2, ?_, h3, h4, h6⟩
  simp (disch := omega) only [e_Law_law_1288, e_Law_law_1289, e_Law_law_1292, e_Law_law_1293, e_Law_law_1296, e_Law_law_1299, e_Law_law_1300, wr_id, h1, evK_i, h5, h2, if_true]
theorem lw_status {μ : aM} {B i : Int} (hI : Inv μ B) (hM : okM μ) (hB : B + 2000000 < 2147483647) (hi : 0 ≤ i ∧ i + 6 ≤ gI μ 34 0 (-1)) (hn : gI μ 34 0 (-1) ≤ 3072) : LW μ B 1301 i := by
  obtain ⟨a, μ1, μ2, h1, h2, h3, h4, h5, h6⟩ := PR_use (PR_status hI (gI μ 34 0 (i + 1))) hM (okA_cons okv_0 (okA_cons (okv_I (hM.1 _ _ _)) okA_nil)) (okA_cons okv_25 (okA_cons (okv_I (hM.1 _ _ _)) okA_nil))
  have k1 := h5 (-1)
  refine ⟨μ2, ?_, h3, h4, h6⟩
  simp (disch := omega) only [e_Law_law_1301, e_Law_law_1302, e_Law_law_1303, e_Law_law_1304, e_Law_law_1305, e_Law_law_1306, e_Law_law_1307, e_Law_law_1310, e_Law_law_1311, e_Law_law_1312, e_Law_law_1313, e_Law_law_1314, e_Law_law_1315, e_Law_law_1316, e_Law_law_1319, e_Law_law_1322, e_Law_law_1323, wr_id, h1, evK_i, h5, h2, if_true]
theorem law_loop : ∀ (n : Nat) (μ : aM) (B i : Int), Inv μ B → okM μ → B + 2000000 * (n + 1) < 2147483647 → 0 ≤ i → i ≤ 4000 → (0 ≤ gI μ 34 0 (-1) ∧ gI μ 34 0 (-1) ≤ 3072) → gI μ 34 0 (-1) ≤ i + 6 * n + 5 → ∃ μ', ev 213 18 [aR 34 0, aR 0 0, aR 25 0, aI i] [] μ = some (some (aI 1), μ') := by
  intro n
  induction n with
  | zero =>
    intro μ B i hI hM hB h0 h4 hl hn
    refine ⟨μ, ?_⟩
    rw [e_Law_law_18]
    simp (disch := omega) only [e_Law_law_19, e_Law_law_20, e_Law_law_21, e_Law_law_23, e_Law_law_24, e_Law_law_27, e_Law_law_28, e_Law_law_29, e_Law_law_30, e_Law_law_32, e_Law_law_1330, e_Law_law_1331, wr_id, if_pos (show gI μ 34 0 (-1) - 6 < i by omega)]
  | succ n ih =>
    intro μ B i hI hM hB h0 h4 hl hn
    by_cases hx : gI μ 34 0 (-1) - 6 < i
    · refine ⟨μ, ?_⟩
      rw [e_Law_law_18]
      simp (disch := omega) only [e_Law_law_19, e_Law_law_20, e_Law_law_21, e_Law_law_23, e_Law_law_24, e_Law_law_27, e_Law_law_28, e_Law_law_29, e_Law_law_30, e_Law_law_32, e_Law_law_1330, e_Law_law_1331, wr_id, if_pos hx]
    · have hd : ev 213 18 [aR 34 0, aR 0 0, aR 25 0, aI i] [] μ = ev 213 33 [aR 34 0, aR 0 0, aR 25 0, aI i] [aI (ian (gI μ 34 0 i) 63)] μ := by
        rw [e_Law_law_18]
        simp (disch := omega) only [e_Law_law_19, e_Law_law_20, e_Law_law_21, e_Law_law_23, e_Law_law_24, e_Law_law_27, e_Law_law_28, e_Law_law_29, e_Law_law_30, e_Law_law_32, wr_id, if_neg hx]
      rw [hd]
      have go : ∀ pc, LW μ B pc i → ∃ μ', ev 213 pc [aR 34 0, aR 0 0, aR 25 0, aI i] [] μ = some (some (aI 1), μ') := fun pc hw => by
        obtain ⟨μ2, w1, w2, w3, w4⟩ := hw
        obtain ⟨μ', z⟩ := ih μ2 (B + 2000000) (i + 6) w2 w3 (by omega) (by omega) (by omega) (by rw [w4]; exact hl) (by rw [w4]; omega)
        refine ⟨μ', ?_⟩
        rw [w1, e_Law_law_1324, e_Law_law_1327, wr_id (by omega) (by omega)]
        exact z
      have hb1 : B + 2000000 < 2147483647 := by omega
      have hi : 0 ≤ i ∧ i + 6 ≤ gI μ 34 0 (-1) := by omega
      generalize ian (gI μ 34 0 i) 63 = x
      by_cases hr : x < 0 ∨ 34 < x
      · rw [e_Law_law_33 _ _ _ _ _ _ _ hr]
        exact go 1324 ⟨μ, rfl, Inv_mono hI (by omega), hM, fun _ => rfl⟩
      · rcases (show x = 0 ∨ x = 1 ∨ x = 2 ∨ x = 3 ∨ x = 4 ∨ x = 5 ∨ x = 6 ∨ x = 7 ∨ x = 8 ∨ x = 9 ∨ x = 10 ∨ x = 11 ∨ x = 12 ∨ x = 13 ∨ x = 14 ∨ x = 15 ∨ x = 16 ∨ x = 17 ∨ x = 18 ∨ x = 19 ∨ x = 20 ∨ x = 21 ∨ x = 22 ∨ x = 23 ∨ x = 24 ∨ x = 25 ∨ x = 26 ∨ x = 27 ∨ x = 28 ∨ x = 29 ∨ x = 30 ∨ x = 31 ∨ x = 32 ∨ x = 33 ∨ x = 34 by omega) with z | z | z | z | z | z | z | z | z | z | z | z | z | z | z | z | z | z | z | z | z | z | z | z | z | z | z | z | z | z | z | z | z | z | z
        · subst z; rw [e_Law_law_33_0]; exact go 188 (lw_row hI hM hb1 hi hl.2)
        · subst z; rw [e_Law_law_33_1]; exact go 231 (lw_set hI hM hb1 hi hl.2)
        · subst z; rw [e_Law_law_33_2]; exact go 304 (lw_copy hI hM hb1 hi hl.2)
        · subst z; rw [e_Law_law_33_3]; exact go 367 (lw_element hI hM hb1 hi hl.2)
        · subst z; rw [e_Law_law_33_4]; exact go 401 (lw_show hI hM hb1 hi hl.2)
        · subst z; rw [e_Law_law_33_5]; exact go 434 (lw_holds hI hM hb1 hi hl.2)
        · subst z; rw [e_Law_law_33_6]; exact go 457 (lw_says hI hM hb1 hi hl.2)
        · subst z; rw [e_Law_law_33_7]; exact go 490 (lw_limit hI hM hb1 hi hl.2)
        · subst z; rw [e_Law_law_33_8]; exact go 553 (lw_hidden hI hM hb1 hi hl.2)
        · subst z; rw [e_Law_law_33_9]; exact go 616 (lw_pegged hI hM hb1 hi hl.2)
        · subst z; rw [e_Law_law_33_10]; exact go 669 (lw_halt hI hM hb1 hi hl.2)
        · subst z; rw [e_Law_law_33_11]; exact go 722 (lw_market hI hM hb1 hi hl.2)
        · subst z; rw [e_Law_law_33_12]; exact go 765 (lw_read hI hM hb1 hi hl.2)
        · subst z; rw [e_Law_law_33_13]; exact go 788 (lw_fault hI hM hb1 hi hl.2)
        · subst z; rw [e_Law_law_33_14]; exact go 801 (lw_cancel hI hM hb1 hi hl.2)
        · subst z; rw [e_Law_law_33_15]; exact go 824 (lw_amend hI hM hb1 hi hl.2)
        · subst z; rw [e_Law_law_33_16]; exact go 867 (lw_rule hI hM hb1 hi hl.2)
        · subst z; rw [e_Law_law_33_17]; exact go 890 (lw_uncross hI hM hb1 hi hl.2)
        · subst z; rw [e_Law_law_33_18]; exact go 903 (lw_close hI hM hb1 hi hl.2)
        · subst z; rw [e_Law_law_33_19]; exact go 916 (lw_crossing hI hM hb1 hi hl.2)
        · subst z; rw [e_Law_law_33_20]; exact go 939 (lw_orderOf hI hM hb1 hi hl.2)
        · subst z; rw [e_Law_law_33_21]; exact go 972 (lw_rank hI hM hb1 hi hl.2)
        · subst z; rw [e_Law_law_33_22]; exact go 1005 (lw_depth hI hM hb1 hi hl.2)
        · subst z; rw [e_Law_law_33_23]; exact go 1048 (lw_ahead hI hM hb1 hi hl.2)
        · subst z; rw [e_Law_law_33_24]; exact go 1071 (lw_sweep hI hM hb1 hi hl.2)
        · subst z; rw [e_Law_law_33_25]; exact go 1104 (lw_trades hI hM hb1 hi hl.2)
        · subst z; rw [e_Law_law_33_26]; exact go 1117 (lw_trade hI hM hb1 hi hl.2)
        · subst z; rw [e_Law_law_33_27]; exact go 1150 (lw_position hI hM hb1 hi hl.2)
        · subst z; rw [e_Law_law_33_28]; exact go 1173 (lw_cash hI hM hb1 hi hl.2)
        · subst z; rw [e_Law_law_33_29]; exact go 1196 (lw_judge hI hM hb1 hi hl.2)
        · subst z; rw [e_Law_law_33_30]; exact go 1229 (lw_draws hI hM hb1 hi hl.2)
        · subst z; rw [e_Law_law_33_31]; exact go 1252 (lw_seed hI hM hb1 hi hl.2)
        · subst z; rw [e_Law_law_33_32]; exact go 1275 (lw_image hI hM hb1 hi hl.2)
        · subst z; rw [e_Law_law_33_33]; exact go 1288 (lw_restore hI hM hb1 hi hl.2)
        · subst z; rw [e_Law_law_33_34]; exact go 1301 (lw_status hI hM hb1 hi hl.2)
