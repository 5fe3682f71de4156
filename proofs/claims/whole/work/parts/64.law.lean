/-! the law: its loop -/
def gs (xs : Nat → Int32) (j : Int) : Int := (xs j.toNat).toInt
theorem gs_rng (xs : Nat → Int32) (j : Int) : -2147483648 ≤ gs xs j ∧ gs xs j < 2147483648 := ⟨Int32.le_toInt _, Int32.toInt_lt _⟩
theorem zAld_sc {xs : Nat → Int32} {L : Nat} {i : Int} (c : 0 ≤ i ∧ i < L ∧ L ≤ 100000) : zAld 10 (some (zA3 L xs)) (zi i) = some (.int (zi (gs xs i))) := by
  rw [zAld_13 c]
  unfold gs
  rw [zi_self]
def LI (bs x L : Nat) (xs : Nat → Int32) (S0 T0 : Nat) (v : Nat → Int) (F C : Int → Bool) (G : Int → Int) (R : Nat → Int → Int) (D : Int → Bool) (M : zM) : Prop := zget M bs = some (zA3 L xs) ∧ SL M ∧ M.1 < x ∧ XI x v F C G R D M ∧ MI (x + 47) v F C G R D M ∧ RI v G R D ∧ M.2.1 = S0 ∧ M.2.2.1 = T0
section LAW
variable {bs x L S0 T0 : Nat} {xs : Nat → Int32} {v v' : Nat → Int} {F C D F' C' D' : Int → Bool} {G G' : Int → Int} {R R' : Nat → Int → Int} {M : zM}
theorem zlr (z : Int) : ∃ y : Int, zl z = zl y ∧ -9223372036854775808 ≤ y ∧ y < 9223372036854775808 := ⟨(zl z).toInt, (Int64.ofInt_toInt _).symm, Int64.le_toInt _, Int64.toInt_lt _⟩
theorem law_st {h hm mx mm : Nat} {ax am : List Value} {r : Value} (hb : bs < x) (I : LI bs x L xs S0 T0 v F C G R D M) (cx : XCl x h mx ax r v' F' C' G' R' D' M) (cm : ∀ M', MI (x + 47) v F C G R D M' → MCl (x + 47) hm mm am r v' F' C' G' R' D' M') (ri : RI v' G' R' D') : ∃ M1 M2, (∀ (d : Nat) (K : zK), zC (d + h) mx ax M K = K (some r) M1) ∧ zget M1 bs = some (zA3 L xs) ∧ zis (zget M1 (x + 47)) 9 = true ∧ (∀ (d : Nat) (K : zK), zC (d + hm) mm am M1 K = K (some r) M2) ∧ LI bs x L xs S0 T0 v' F' C' G' R' D' M2 := by
  obtain ⟨i1, i2, i3, i4, i5, i6, i7, i8⟩ := I
  obtain ⟨M1, e1, x1, f1⟩ := cx
  have m1 := MI_fr i5 f1 (by omega)
  obtain ⟨M2, e2, m2, f2⟩ := cm M1 m1
  have s1 := zFr_get f1 i1 (by omega)
  refine ⟨M1, M2, e1, s1, ?_, e2, zFr_get f2 s1 (by omega), SL_fr (SL_fr i2 f1 (by omega)) f2 (by have := f1.2.1; omega), by rw [f2.2.1, f1.2.1]; exact i3, XI_fr x1 f2 (by omega), m2, ri, by rw [f2.2.2.1, f1.2.2.1]; exact i7, by rw [f2.2.2.2, f1.2.2.2]; exact i8⟩
  obtain ⟨w, -, y, -⟩ := m1
  rw [y]
  exact zis_mo
theorem law_i {h hm mx mm : Nat} {ax am : List Value} {z : Int} (hb : bs < x) (I : LI bs x L xs S0 T0 v F C G R D M) (cx : XCl x h mx ax (.int (zi z)) v' F' C' G' R' D' M) (cm : ∀ M', MI (x + 47) v F C G R D M' → MCl (x + 47) hm mm am (.int (zi z)) v' F' C' G' R' D' M') (ri : RI v' G' R' D') : ∃ M1 M2 y, (-2147483648 ≤ y ∧ y < 2147483648) ∧ (∀ (d : Nat) (K : zK), zC (d + h) mx ax M K = K (some (.int (zi y))) M1) ∧ zget M1 bs = some (zA3 L xs) ∧ zis (zget M1 (x + 47)) 9 = true ∧ (∀ (d : Nat) (K : zK), zC (d + hm) mm am M1 K = K (some (.int (zi y))) M2) ∧ LI bs x L xs S0 T0 v' F' C' G' R' D' M2 := by
  obtain ⟨M1, M2, e1, a1, a2, e2, a3⟩ := law_st hb I cx cm ri
  refine ⟨M1, M2, zwr z, zwr_rng z, ?_, a1, a2, ?_, a3⟩
  · rw [zwr_zi]; exact e1
  · rw [zwr_zi]; exact e2
theorem zis_x (X : XI x v F C G R D M) : zis (zget M x) 8 = true := by
  obtain ⟨⟨y, -⟩, -⟩ := X
  rw [y]
  exact zis_ob
def oR (bs x L : Nat) (xs : Nat → Int32) (S0 T0 : Nat) (i : Int) (pc : Nat) (M : zM) : Prop := ∃ v' F' C' G' R' D' M', (∀ (d : Nat) (K : zK), Ev (d + 20) 223 pc [some (.ref bs), some (.ref x), some (.ref (x + 47)), some (.int (zi i))] [] M K = Ev (d + 20) 223 1428 [some (.ref bs), some (.ref x), some (.ref (x + 47)), some (.int (zi i))] [] M' K) ∧ LI bs x L xs S0 T0 v' F' C' G' R' D' M'
theorem o_0 (hb : bs < x) (I : LI bs x L xs S0 T0 v F C G R D M) {i : Int} (hi : 0 ≤ i ∧ i + 6 ≤ L ∧ L ≤ 3072) : oR bs x L xs S0 T0 i 204 M := by
  have ⟨hs, hS, hA, hX, hM, ri, _, _⟩ := I
  have zx := zis_x hX
  have g1 := gs_rng xs (i + 1)
  have g2 := gs_rng xs (i + 2)
  have g3 := gs_rng xs (i + 3)
  have g4 := gs_rng xs (i + 4)
  have g5 := gs_rng xs (i + 5)
  obtain ⟨M1, M2, y, yr, e1, s1, z1, e2, I2⟩ := law_i hb I (x_dress hX (gs xs (i + 1)) (gs xs (i + 2)) (gs xs (i + 3)) (gs xs (i + 4)) (gs xs (i + 5)) (by omega)) (fun M' y => m_dress y (gs xs (i + 1)) (gs xs (i + 2)) (gs xs (i + 3)) (gs xs (i + 4)) (gs xs (i + 5)) (by omega)) (RI_dress ri (gs xs (i + 1)) (gs xs (i + 2)) (gs xs (i + 3)) (gs xs (i + 4)) (gs xs (i + 5)))
  refine ⟨_, _, _, _, _, _, M2, fun d K => ?_, I2⟩
  simp (disch := omega) only [e_223_204, e_223_205, e_223_206, e_223_207, e_223_208, e_223_209, e_223_210, e_223_211, e_223_212, e_223_213, e_223_214, e_223_215, e_223_216, e_223_217, e_223_218, e_223_219, e_223_220, e_223_221, e_223_222, e_223_223, e_223_224, e_223_225, e_223_226, e_223_227, e_223_228, e_223_229, e_223_230, e_223_233, e_223_234, e_223_235, e_223_236, e_223_237, e_223_238, e_223_239, e_223_240, e_223_241, e_223_242, e_223_243, e_223_244, e_223_245, e_223_246, e_223_247, e_223_248, e_223_249, e_223_250, e_223_251, e_223_252, e_223_253, e_223_254, e_223_255, e_223_256, e_223_257, e_223_258, e_223_259, e_223_262t, e_223_265, e_223_266, zPa_some, zPn_some, zRK_some, zRK_none, zCk_t, zAld_sc, hs, zx, e1, s1, z1, e2]
theorem o_1 (hb : bs < x) (I : LI bs x L xs S0 T0 v F C G R D M) {i : Int} (hi : 0 ≤ i ∧ i + 6 ≤ L ∧ L ≤ 3072) : oR bs x L xs S0 T0 i 267 M := by
  have ⟨hs, hS, hA, hX, hM, ri, _, _⟩ := I
  have zx := zis_x hX
  have g1 := gs_rng xs (i + 1)
  have g2 := gs_rng xs (i + 2)
  have g3 := gs_rng xs (i + 3)
  have g4 := gs_rng xs (i + 4)
  obtain ⟨M1, M2, y, yr, e1, s1, z1, e2, I2⟩ := law_i hb I (x_spot hX (gs xs (i + 1)) (gs xs (i + 2)) (gs xs (i + 3)) (gs xs (i + 4)) (by omega)) (fun M' y => m_spot y (gs xs (i + 1)) (gs xs (i + 2)) (gs xs (i + 3)) (gs xs (i + 4)) (by omega)) ri
  refine ⟨_, _, _, _, _, _, M2, fun d K => ?_, I2⟩
  simp (disch := omega) only [e_223_267, e_223_268, e_223_269, e_223_270, e_223_271, e_223_272, e_223_273, e_223_274, e_223_275, e_223_276, e_223_277, e_223_278, e_223_279, e_223_280, e_223_281, e_223_282, e_223_283, e_223_284, e_223_285, e_223_286, e_223_287, e_223_288, e_223_291, e_223_292, e_223_293, e_223_294, e_223_295, e_223_296, e_223_297, e_223_298, e_223_299, e_223_300, e_223_301, e_223_302, e_223_303, e_223_304, e_223_305, e_223_306, e_223_307, e_223_308, e_223_309, e_223_310, e_223_311, e_223_312, e_223_315t, e_223_318, e_223_319, zPa_some, zPn_some, zRK_some, zRK_none, zCk_t, zAld_sc, hs, zx, e1, s1, z1, e2]
theorem o_2 (hb : bs < x) (I : LI bs x L xs S0 T0 v F C G R D M) {i : Int} (hi : 0 ≤ i ∧ i + 6 ≤ L ∧ L ≤ 3072) : oR bs x L xs S0 T0 i 320 M := by
  have ⟨hs, hS, hA, hX, hM, ri, _, _⟩ := I
  have zx := zis_x hX
  have g1 := gs_rng xs (i + 1)
  have g2 := gs_rng xs (i + 2)
  have g3 := gs_rng xs (i + 3)
  have g4 := gs_rng xs (i + 4)
  obtain ⟨M1, M2, y, yr, e1, s1, z1, e2, I2⟩ := law_i hb I (x_chisel hX ri (gs xs (i + 1)) (gs xs (i + 2)) (gs xs (i + 3)) (gs xs (i + 4)) (by omega)) (fun M' y => m_chisel y ri (gs xs (i + 1)) (gs xs (i + 2)) (gs xs (i + 3)) (gs xs (i + 4)) (by omega)) (RI_chisel ri (gs xs (i + 1)) (gs xs (i + 2)) (gs xs (i + 3)) (gs xs (i + 4)))
  refine ⟨_, _, _, _, _, _, M2, fun d K => ?_, I2⟩
  simp (disch := omega) only [e_223_320, e_223_321, e_223_322, e_223_323, e_223_324, e_223_325, e_223_326, e_223_327, e_223_328, e_223_329, e_223_330, e_223_331, e_223_332, e_223_333, e_223_334, e_223_335, e_223_336, e_223_337, e_223_338, e_223_339, e_223_340, e_223_341, e_223_344, e_223_345, e_223_346, e_223_347, e_223_348, e_223_349, e_223_350, e_223_351, e_223_352, e_223_353, e_223_354, e_223_355, e_223_356, e_223_357, e_223_358, e_223_359, e_223_360, e_223_361, e_223_362, e_223_363, e_223_364, e_223_365, e_223_368t, e_223_371, e_223_372, zPa_some, zPn_some, zRK_some, zRK_none, zCk_t, zAld_sc, hs, zx, e1, s1, z1, e2]
theorem o_3 (hb : bs < x) (I : LI bs x L xs S0 T0 v F C G R D M) {i : Int} (hi : 0 ≤ i ∧ i + 6 ≤ L ∧ L ≤ 3072) : oR bs x L xs S0 T0 i 373 M := by
  have ⟨hs, hS, hA, hX, hM, ri, _, _⟩ := I
  have zx := zis_x hX
  have g1 := gs_rng xs (i + 1)
  have g2 := gs_rng xs (i + 2)
  have g3 := gs_rng xs (i + 3)
  have g4 := gs_rng xs (i + 4)
  by_cases q : gs xs (i + 4) = 0
  · obtain ⟨M1, M2, y, yr, e1, s1, z1, e2, I2⟩ := law_i hb I (x_crack hX (gs xs (i + 1)) (gs xs (i + 2)) (gs xs (i + 3)) false (by omega)) (fun M' y => m_crack y (gs xs (i + 1)) (gs xs (i + 2)) (gs xs (i + 3)) false (by omega)) ri
    rw [zb_f] at e1 e2
    refine ⟨_, _, _, _, _, _, M2, fun d K => ?_, I2⟩
    simp (disch := omega) only [e_223_373, e_223_374, e_223_375, e_223_376, e_223_377, e_223_378, e_223_379, e_223_380, e_223_381, e_223_382, e_223_383, e_223_384, e_223_385, e_223_386, e_223_387, e_223_388, e_223_389, e_223_390, e_223_391, e_223_392, e_223_393, e_223_394t, e_223_394f, e_223_397, e_223_398, e_223_401, e_223_402, e_223_405, e_223_406, e_223_407, e_223_408, e_223_409, e_223_410, e_223_411, e_223_412, e_223_413, e_223_414, e_223_415, e_223_416, e_223_417, e_223_418, e_223_419, e_223_420, e_223_421, e_223_422, e_223_423, e_223_424, e_223_425, e_223_426t, e_223_426f, e_223_429, e_223_430, e_223_433, e_223_434, e_223_437t, e_223_437f, e_223_440, e_223_441, zPa_some, zPn_some, zRK_some, zRK_none, zCk_t, zAld_sc, hs, zx, e1, s1, z1, e2]
  · obtain ⟨M1, M2, y, yr, e1, s1, z1, e2, I2⟩ := law_i hb I (x_crack hX (gs xs (i + 1)) (gs xs (i + 2)) (gs xs (i + 3)) true (by omega)) (fun M' y => m_crack y (gs xs (i + 1)) (gs xs (i + 2)) (gs xs (i + 3)) true (by omega)) ri
    rw [zb_t] at e1 e2
    refine ⟨_, _, _, _, _, _, M2, fun d K => ?_, I2⟩
    simp (disch := omega) only [e_223_373, e_223_374, e_223_375, e_223_376, e_223_377, e_223_378, e_223_379, e_223_380, e_223_381, e_223_382, e_223_383, e_223_384, e_223_385, e_223_386, e_223_387, e_223_388, e_223_389, e_223_390, e_223_391, e_223_392, e_223_393, e_223_394t, e_223_394f, e_223_397, e_223_398, e_223_401, e_223_402, e_223_405, e_223_406, e_223_407, e_223_408, e_223_409, e_223_410, e_223_411, e_223_412, e_223_413, e_223_414, e_223_415, e_223_416, e_223_417, e_223_418, e_223_419, e_223_420, e_223_421, e_223_422, e_223_423, e_223_424, e_223_425, e_223_426t, e_223_426f, e_223_429, e_223_430, e_223_433, e_223_434, e_223_437t, e_223_437f, e_223_440, e_223_441, zPa_some, zPn_some, zRK_some, zRK_none, zCk_t, zAld_sc, hs, zx, e1, s1, z1, e2]
theorem o_4 (hb : bs < x) (I : LI bs x L xs S0 T0 v F C G R D M) {i : Int} (hi : 0 ≤ i ∧ i + 6 ≤ L ∧ L ≤ 3072) : oR bs x L xs S0 T0 i 442 M := by
  have ⟨hs, hS, hA, hX, hM, ri, _, _⟩ := I
  have zx := zis_x hX
  have g1 := gs_rng xs (i + 1)
  have g2 := gs_rng xs (i + 2)
  obtain ⟨M1, M2, y, yr, e1, s1, z1, e2, I2⟩ := law_i hb I (x_leads hX (gs xs (i + 1)) (gs xs (i + 2)) (by omega)) (fun M' y => m_leads y (gs xs (i + 1)) (gs xs (i + 2)) (by omega)) ri
  refine ⟨_, _, _, _, _, _, M2, fun d K => ?_, I2⟩
  simp (disch := omega) only [e_223_442, e_223_443, e_223_444, e_223_445, e_223_446, e_223_447, e_223_448, e_223_449, e_223_450, e_223_451, e_223_452, e_223_453, e_223_456, e_223_457, e_223_458, e_223_459, e_223_460, e_223_461, e_223_462, e_223_463, e_223_464, e_223_465, e_223_466, e_223_467, e_223_470t, e_223_473, e_223_474, zPa_some, zPn_some, zRK_some, zRK_none, zCk_t, zAld_sc, hs, zx, e1, s1, z1, e2]
theorem o_5 (hb : bs < x) (I : LI bs x L xs S0 T0 v F C G R D M) {i : Int} (hi : 0 ≤ i ∧ i + 6 ≤ L ∧ L ≤ 3072) : oR bs x L xs S0 T0 i 475 M := by
  have ⟨hs, hS, hA, hX, hM, ri, _, _⟩ := I
  have zx := zis_x hX
  have g1 := gs_rng xs (i + 1)
  have g2 := gs_rng xs (i + 2)
  obtain ⟨M1, M2, y, yr, e1, s1, z1, e2, I2⟩ := law_i hb I (x_is hX (gs xs (i + 1)) (gs xs (i + 2)) (by omega)) (fun M' y => m_is y (gs xs (i + 1)) (gs xs (i + 2)) (by omega)) ri
  refine ⟨_, _, _, _, _, _, M2, fun d K => ?_, I2⟩
  simp (disch := omega) only [e_223_475, e_223_476, e_223_477, e_223_478, e_223_479, e_223_480, e_223_481, e_223_482, e_223_483, e_223_484, e_223_485, e_223_486, e_223_489, e_223_490, e_223_491, e_223_492, e_223_493, e_223_494, e_223_495, e_223_496, e_223_497, e_223_498, e_223_499, e_223_500, e_223_503t, e_223_506, e_223_507, zPa_some, zPn_some, zRK_some, zRK_none, zCk_t, zAld_sc, hs, zx, e1, s1, z1, e2]
theorem o_6 (hb : bs < x) (I : LI bs x L xs S0 T0 v F C G R D M) {i : Int} (hi : 0 ≤ i ∧ i + 6 ≤ L ∧ L ≤ 3072) : oR bs x L xs S0 T0 i 508 M := by
  have ⟨hs, hS, hA, hX, hM, ri, _, _⟩ := I
  have zx := zis_x hX
  have g1 := gs_rng xs (i + 1)
  obtain ⟨M1, M2, y, yr, e1, s1, z1, e2, I2⟩ := law_i hb I (x_stuff hX (gs xs (i + 1)) (by omega)) (fun M' y => m_stuff y (gs xs (i + 1)) (by omega)) ri
  refine ⟨_, _, _, _, _, _, M2, fun d K => ?_, I2⟩
  simp (disch := omega) only [e_223_508, e_223_509, e_223_510, e_223_511, e_223_512, e_223_513, e_223_514, e_223_517, e_223_518, e_223_519, e_223_520, e_223_521, e_223_522, e_223_523, e_223_526t, e_223_529, e_223_530, zPa_some, zPn_some, zRK_some, zRK_none, zCk_t, zAld_sc, hs, zx, e1, s1, z1, e2]
theorem o_7 (hb : bs < x) (I : LI bs x L xs S0 T0 v F C G R D M) {i : Int} (hi : 0 ≤ i ∧ i + 6 ≤ L ∧ L ≤ 3072) : oR bs x L xs S0 T0 i 531 M := by
  have ⟨hs, hS, hA, hX, hM, ri, _, _⟩ := I
  have zx := zis_x hX
  have g1 := gs_rng xs (i + 1)
  have g2 := gs_rng xs (i + 2)
  obtain ⟨M1, M2, y, yr, e1, s1, z1, e2, I2⟩ := law_i hb I (x_pair hX (gs xs (i + 1)) (gs xs (i + 2)) (by omega)) (fun M' y => m_pair y (gs xs (i + 1)) (gs xs (i + 2)) (by omega)) (RI_pair ri (gs xs (i + 1)) (gs xs (i + 2)))
  refine ⟨_, _, _, _, _, _, M2, fun d K => ?_, I2⟩
  simp (disch := omega) only [e_223_531, e_223_532, e_223_533, e_223_534, e_223_535, e_223_536, e_223_537, e_223_538, e_223_539, e_223_540, e_223_541, e_223_542, e_223_545, e_223_546, e_223_547, e_223_548, e_223_549, e_223_550, e_223_551, e_223_552, e_223_553, e_223_554, e_223_555, e_223_556, e_223_559t, e_223_562, e_223_563, zPa_some, zPn_some, zRK_some, zRK_none, zCk_t, zAld_sc, hs, zx, e1, s1, z1, e2]
theorem o_8 (hb : bs < x) (I : LI bs x L xs S0 T0 v F C G R D M) {i : Int} (hi : 0 ≤ i ∧ i + 6 ≤ L ∧ L ≤ 3072) : oR bs x L xs S0 T0 i 564 M := by
  have ⟨hs, hS, hA, hX, hM, ri, _, _⟩ := I
  have zx := zis_x hX
  have g1 := gs_rng xs (i + 1)
  obtain ⟨M1, M2, y, yr, e1, s1, z1, e2, I2⟩ := law_i hb I (x_crossings hX ri (gs xs (i + 1)) (by omega)) (fun M' y => m_crossings y ri (gs xs (i + 1)) (by omega)) ri
  refine ⟨_, _, _, _, _, _, M2, fun d K => ?_, I2⟩
  simp (disch := omega) only [e_223_564, e_223_565, e_223_566, e_223_567, e_223_568, e_223_569, e_223_570, e_223_573, e_223_574, e_223_575, e_223_576, e_223_577, e_223_578, e_223_579, e_223_582t, e_223_585, e_223_586, zPa_some, zPn_some, zRK_some, zRK_none, zCk_t, zAld_sc, hs, zx, e1, s1, z1, e2]
theorem o_9 (hb : bs < x) (I : LI bs x L xs S0 T0 v F C G R D M) {i : Int} (hi : 0 ≤ i ∧ i + 6 ≤ L ∧ L ≤ 3072) : oR bs x L xs S0 T0 i 587 M := by
  have ⟨hs, hS, hA, hX, hM, ri, _, _⟩ := I
  have zx := zis_x hX
  have g1 := gs_rng xs (i + 1)
  obtain ⟨M1, M2, y, yr, e1, s1, z1, e2, I2⟩ := law_i hb I (x_round hX ri (gs xs (i + 1)) (by omega)) (fun M' y => m_round y ri (gs xs (i + 1)) (by omega)) ri
  refine ⟨_, _, _, _, _, _, M2, fun d K => ?_, I2⟩
  simp (disch := omega) only [e_223_587, e_223_588, e_223_589, e_223_590, e_223_591, e_223_592, e_223_593, e_223_596, e_223_597, e_223_598, e_223_599, e_223_600, e_223_601, e_223_602, e_223_605t, e_223_608, e_223_609, zPa_some, zPn_some, zRK_some, zRK_none, zCk_t, zAld_sc, hs, zx, e1, s1, z1, e2]
theorem o_10 (hb : bs < x) (I : LI bs x L xs S0 T0 v F C G R D M) {i : Int} (hi : 0 ≤ i ∧ i + 6 ≤ L ∧ L ≤ 3072) : oR bs x L xs S0 T0 i 610 M := by
  have ⟨hs, hS, hA, hX, hM, ri, _, _⟩ := I
  have zx := zis_x hX
  have g1 := gs_rng xs (i + 1)
  obtain ⟨M1, M2, y, yr, e1, s1, z1, e2, I2⟩ := law_i hb I (x_outward hX ri (gs xs (i + 1)) (by omega)) (fun M' y => m_outward y ri (gs xs (i + 1)) (by omega)) ri
  refine ⟨_, _, _, _, _, _, M2, fun d K => ?_, I2⟩
  simp (disch := omega) only [e_223_610, e_223_611, e_223_612, e_223_613, e_223_614, e_223_615, e_223_616, e_223_619, e_223_620, e_223_621, e_223_622, e_223_623, e_223_624, e_223_625, e_223_628t, e_223_631, e_223_632, zPa_some, zPn_some, zRK_some, zRK_none, zCk_t, zAld_sc, hs, zx, e1, s1, z1, e2]
theorem o_11 (hb : bs < x) (I : LI bs x L xs S0 T0 v F C G R D M) {i : Int} (hi : 0 ≤ i ∧ i + 6 ≤ L ∧ L ≤ 3072) : oR bs x L xs S0 T0 i 633 M := by
  have ⟨hs, hS, hA, hX, hM, ri, _, _⟩ := I
  have zx := zis_x hX
  obtain ⟨M1, M2, y, yr, e1, s1, z1, e2, I2⟩ := law_i hb I (x_drift hX ri ) (fun M' y => m_drift y ri ) ri
  refine ⟨_, _, _, _, _, _, M2, fun d K => ?_, I2⟩
  simp (disch := omega) only [e_223_633, e_223_634, e_223_637, e_223_638, e_223_641t, e_223_644, e_223_645, zPa_some, zPn_some, zRK_some, zRK_none, zCk_t, zAld_sc, hs, zx, e1, s1, z1, e2]
theorem o_12 (hb : bs < x) (I : LI bs x L xs S0 T0 v F C G R D M) {i : Int} (hi : 0 ≤ i ∧ i + 6 ≤ L ∧ L ≤ 3072) : oR bs x L xs S0 T0 i 646 M := by
  have ⟨hs, hS, hA, hX, hM, ri, _, _⟩ := I
  have zx := zis_x hX
  have g1 := gs_rng xs (i + 1)
  obtain ⟨M1, M2, y, yr, e1, s1, z1, e2, I2⟩ := law_i hb I (x_gap hX (gs xs (i + 1)) (by omega)) (fun M' y => m_gap y (gs xs (i + 1)) (by omega)) (RI_gap ri (gs xs (i + 1)))
  refine ⟨_, _, _, _, _, _, M2, fun d K => ?_, I2⟩
  simp (disch := omega) only [e_223_646, e_223_647, e_223_648, e_223_649, e_223_650, e_223_651, e_223_652, e_223_655, e_223_656, e_223_657, e_223_658, e_223_659, e_223_660, e_223_661, e_223_664t, e_223_667, e_223_668, zPa_some, zPn_some, zRK_some, zRK_none, zCk_t, zAld_sc, hs, zx, e1, s1, z1, e2]
theorem o_13 (hb : bs < x) (I : LI bs x L xs S0 T0 v F C G R D M) {i : Int} (hi : 0 ≤ i ∧ i + 6 ≤ L ∧ L ≤ 3072) : oR bs x L xs S0 T0 i 669 M := by
  have ⟨hs, hS, hA, hX, hM, ri, _, _⟩ := I
  have zx := zis_x hX
  have g1 := gs_rng xs (i + 1)
  have g2 := gs_rng xs (i + 2)
  have g3 := gs_rng xs (i + 3)
  obtain ⟨M1, M2, y, yr, e1, s1, z1, e2, I2⟩ := law_i hb I (x_hang hX (gs xs (i + 1)) (gs xs (i + 2)) (gs xs (i + 3)) (by omega)) (fun M' y => m_hang y (gs xs (i + 1)) (gs xs (i + 2)) (gs xs (i + 3)) (by omega)) (RI_hang ri (gs xs (i + 1)) (gs xs (i + 2)) (gs xs (i + 3)))
  refine ⟨_, _, _, _, _, _, M2, fun d K => ?_, I2⟩
  simp (disch := omega) only [e_223_669, e_223_670, e_223_671, e_223_672, e_223_673, e_223_674, e_223_675, e_223_676, e_223_677, e_223_678, e_223_679, e_223_680, e_223_681, e_223_682, e_223_683, e_223_684, e_223_685, e_223_688, e_223_689, e_223_690, e_223_691, e_223_692, e_223_693, e_223_694, e_223_695, e_223_696, e_223_697, e_223_698, e_223_699, e_223_700, e_223_701, e_223_702, e_223_703, e_223_704, e_223_707t, e_223_710, e_223_711, zPa_some, zPn_some, zRK_some, zRK_none, zCk_t, zAld_sc, hs, zx, e1, s1, z1, e2]
theorem o_14 (hb : bs < x) (I : LI bs x L xs S0 T0 v F C G R D M) {i : Int} (hi : 0 ≤ i ∧ i + 6 ≤ L ∧ L ≤ 3072) : oR bs x L xs S0 T0 i 712 M := by
  have ⟨hs, hS, hA, hX, hM, ri, _, _⟩ := I
  have zx := zis_x hX
  have g1 := gs_rng xs (i + 1)
  have g2 := gs_rng xs (i + 2)
  have g3 := gs_rng xs (i + 3)
  obtain ⟨M1, M2, y, yr, e1, s1, z1, e2, I2⟩ := law_i hb I (x_gapAt hS hX ri (gs xs (i + 1)) (gs xs (i + 2)) (gs xs (i + 3)) (by omega)) (fun M' y => m_gapAt y ri (gs xs (i + 1)) (gs xs (i + 2)) (gs xs (i + 3)) (by omega)) ri
  refine ⟨_, _, _, _, _, _, M2, fun d K => ?_, I2⟩
  simp (disch := omega) only [e_223_712, e_223_713, e_223_714, e_223_715, e_223_716, e_223_717, e_223_718, e_223_719, e_223_720, e_223_721, e_223_722, e_223_723, e_223_724, e_223_725, e_223_726, e_223_727, e_223_728, e_223_731, e_223_732, e_223_733, e_223_734, e_223_735, e_223_736, e_223_737, e_223_738, e_223_739, e_223_740, e_223_741, e_223_742, e_223_743, e_223_744, e_223_745, e_223_746, e_223_747, e_223_750t, e_223_753, e_223_754, zPa_some, zPn_some, zRK_some, zRK_none, zCk_t, zAld_sc, hs, zx, e1, s1, z1, e2]
theorem o_15 (hb : bs < x) (I : LI bs x L xs S0 T0 v F C G R D M) {i : Int} (hi : 0 ≤ i ∧ i + 6 ≤ L ∧ L ≤ 3072) : oR bs x L xs S0 T0 i 755 M := by
  have ⟨hs, hS, hA, hX, hM, ri, _, _⟩ := I
  have zx := zis_x hX
  have g1 := gs_rng xs (i + 1)
  obtain ⟨M1, M2, y, yr, e1, s1, z1, e2, I2⟩ := law_i hb I (x_gaps hS hX ri (gs xs (i + 1)) (by omega)) (fun M' y => m_gaps y ri (gs xs (i + 1)) (by omega)) ri
  refine ⟨_, _, _, _, _, _, M2, fun d K => ?_, I2⟩
  simp (disch := omega) only [e_223_755, e_223_756, e_223_757, e_223_758, e_223_759, e_223_760, e_223_761, e_223_764, e_223_765, e_223_766, e_223_767, e_223_768, e_223_769, e_223_770, e_223_773t, e_223_776, e_223_777, zPa_some, zPn_some, zRK_some, zRK_none, zCk_t, zAld_sc, hs, zx, e1, s1, z1, e2]
theorem o_16 (hb : bs < x) (I : LI bs x L xs S0 T0 v F C G R D M) {i : Int} (hi : 0 ≤ i ∧ i + 6 ≤ L ∧ L ≤ 3072) : oR bs x L xs S0 T0 i 778 M := by
  have ⟨hs, hS, hA, hX, hM, ri, _, _⟩ := I
  have zx := zis_x hX
  have hA1 : M.1 < x ∨ x + 47 ≤ M.1 := Or.inl hA
  have g1 := gs_rng xs (i + 1)
  have g2 := gs_rng xs (i + 2)
  have g3 := gs_rng xs (i + 3)
  have g4 := gs_rng xs (i + 4)
  obtain ⟨M1, M2, y, yr, e1, s1, z1, e2, I2⟩ := law_i hb I (x_grain hS hA1 hX ri (gs xs (i + 1)) (gs xs (i + 2)) (gs xs (i + 3)) (gs xs (i + 4)) (by omega)) (fun M' y => m_grain y ri (gs xs (i + 1)) (gs xs (i + 2)) (gs xs (i + 3)) (gs xs (i + 4)) (by omega)) ri
  refine ⟨_, _, _, _, _, _, M2, fun d K => ?_, I2⟩
  simp (disch := omega) only [e_223_778, e_223_779, e_223_780, e_223_781, e_223_782, e_223_783, e_223_784, e_223_785, e_223_786, e_223_787, e_223_788, e_223_789, e_223_790, e_223_791, e_223_792, e_223_793, e_223_794, e_223_795, e_223_796, e_223_797, e_223_798, e_223_799, e_223_802, e_223_803, e_223_804, e_223_805, e_223_806, e_223_807, e_223_808, e_223_809, e_223_810, e_223_811, e_223_812, e_223_813, e_223_814, e_223_815, e_223_816, e_223_817, e_223_818, e_223_819, e_223_820, e_223_821, e_223_822, e_223_823, e_223_826t, e_223_829, e_223_830, zPa_some, zPn_some, zRK_some, zRK_none, zCk_t, zAld_sc, hs, zx, e1, s1, z1, e2]
theorem o_17 (hb : bs < x) (I : LI bs x L xs S0 T0 v F C G R D M) {i : Int} (hi : 0 ≤ i ∧ i + 6 ≤ L ∧ L ≤ 3072) : oR bs x L xs S0 T0 i 831 M := by
  have ⟨hs, hS, hA, hX, hM, ri, _, _⟩ := I
  have zx := zis_x hX
  have hA1 : M.1 < x ∨ x + 47 ≤ M.1 := Or.inl hA
  have g1 := gs_rng xs (i + 1)
  have g2 := gs_rng xs (i + 2)
  obtain ⟨M1, M2, y, yr, e1, s1, z1, e2, I2⟩ := law_i hb I (x_grist hS hA1 hX ri (gs xs (i + 1)) (gs xs (i + 2)) (by omega)) (fun M' y => m_grist y ri (gs xs (i + 1)) (gs xs (i + 2)) (by omega)) (RI_grist ri (gs xs (i + 1)) (gs xs (i + 2)))
  refine ⟨_, _, _, _, _, _, M2, fun d K => ?_, I2⟩
  simp (disch := omega) only [e_223_831, e_223_832, e_223_833, e_223_834, e_223_835, e_223_836, e_223_837, e_223_838, e_223_839, e_223_840, e_223_841, e_223_842, e_223_845, e_223_846, e_223_847, e_223_848, e_223_849, e_223_850, e_223_851, e_223_852, e_223_853, e_223_854, e_223_855, e_223_856, e_223_859t, e_223_862, e_223_863, zPa_some, zPn_some, zRK_some, zRK_none, zCk_t, zAld_sc, hs, zx, e1, s1, z1, e2]
theorem o_18 (hb : bs < x) (I : LI bs x L xs S0 T0 v F C G R D M) {i : Int} (hi : 0 ≤ i ∧ i + 6 ≤ L ∧ L ≤ 3072) : oR bs x L xs S0 T0 i 864 M := by
  have ⟨hs, hS, hA, hX, hM, ri, _, _⟩ := I
  have zx := zis_x hX
  have g1 := gs_rng xs (i + 1)
  obtain ⟨N, a1, a2, a3, ri1⟩ := x_mill hX ri (gs xs (i + 1)) (by omega)
  obtain ⟨M1, M2, y, yr, e1, s1, z1, e2, I2⟩ := law_i (h := 9) (hm := 9) (mx := 113) (mm := 185) (ax := [.ref x, .int (zi (gs xs (i + 1)))]) (am := [.ref (x + 47), .int (zi (gs xs (i + 1)))]) hb I ⟨N, a1, a2, a3⟩ (fun M' y => m_mill y ri (gs xs (i + 1)) (by omega)) ri1
  refine ⟨_, _, _, _, _, _, M2, fun d K => ?_, I2⟩
  simp (disch := omega) only [e_223_864, e_223_865, e_223_866, e_223_867, e_223_868, e_223_869, e_223_870, e_223_873, e_223_874, e_223_875, e_223_876, e_223_877, e_223_878, e_223_879, e_223_882t, e_223_885, e_223_886, zPa_some, zPn_some, zRK_some, zRK_none, zCk_t, zAld_sc, hs, zx, e1, s1, z1, e2]
theorem o_19 (hb : bs < x) (I : LI bs x L xs S0 T0 v F C G R D M) {i : Int} (hi : 0 ≤ i ∧ i + 6 ≤ L ∧ L ≤ 3072) : oR bs x L xs S0 T0 i 887 M := by
  have ⟨hs, hS, hA, hX, hM, ri, _, _⟩ := I
  have zx := zis_x hX
  have g1 := gs_rng xs (i + 1)
  have g2 := gs_rng xs (i + 2)
  have g3 := gs_rng xs (i + 3)
  obtain ⟨M1, M2, y, yr, e1, s1, z1, e2, I2⟩ := law_i hb I (x_staff hX ri (gs xs (i + 1)) (gs xs (i + 2)) (gs xs (i + 3)) (by omega)) (fun M' y => m_staff y ri (gs xs (i + 1)) (gs xs (i + 2)) (gs xs (i + 3)) (by omega)) ri
  refine ⟨_, _, _, _, _, _, M2, fun d K => ?_, I2⟩
  simp (disch := omega) only [e_223_887, e_223_888, e_223_889, e_223_890, e_223_891, e_223_892, e_223_893, e_223_894, e_223_895, e_223_896, e_223_897, e_223_898, e_223_899, e_223_900, e_223_901, e_223_902, e_223_903, e_223_906, e_223_907, e_223_908, e_223_909, e_223_910, e_223_911, e_223_912, e_223_913, e_223_914, e_223_915, e_223_916, e_223_917, e_223_918, e_223_919, e_223_920, e_223_921, e_223_922, e_223_925t, e_223_928, e_223_929, zPa_some, zPn_some, zRK_some, zRK_none, zCk_t, zAld_sc, hs, zx, e1, s1, z1, e2]
theorem o_20 (hb : bs < x) (I : LI bs x L xs S0 T0 v F C G R D M) {i : Int} (hi : 0 ≤ i ∧ i + 6 ≤ L ∧ L ≤ 3072) : oR bs x L xs S0 T0 i 930 M := by
  have ⟨hs, hS, hA, hX, hM, ri, _, _⟩ := I
  have zx := zis_x hX
  have g1 := gs_rng xs (i + 1)
  have g2 := gs_rng xs (i + 2)
  have g3 := gs_rng xs (i + 3)
  obtain ⟨M1, M2, y, yr, e1, s1, z1, e2, I2⟩ := law_i hb I (x_high hX ri (gs xs (i + 1)) (gs xs (i + 2)) (gs xs (i + 3)) (by omega)) (fun M' y => m_high y ri (gs xs (i + 1)) (gs xs (i + 2)) (gs xs (i + 3)) (by omega)) ri
  refine ⟨_, _, _, _, _, _, M2, fun d K => ?_, I2⟩
  simp (disch := omega) only [e_223_930, e_223_931, e_223_932, e_223_933, e_223_934, e_223_935, e_223_936, e_223_937, e_223_938, e_223_939, e_223_940, e_223_941, e_223_942, e_223_943, e_223_944, e_223_945, e_223_946, e_223_949, e_223_950, e_223_951, e_223_952, e_223_953, e_223_954, e_223_955, e_223_956, e_223_957, e_223_958, e_223_959, e_223_960, e_223_961, e_223_962, e_223_963, e_223_964, e_223_965, e_223_968t, e_223_971, e_223_972, zPa_some, zPn_some, zRK_some, zRK_none, zCk_t, zAld_sc, hs, zx, e1, s1, z1, e2]
theorem o_21 (hb : bs < x) (I : LI bs x L xs S0 T0 v F C G R D M) {i : Int} (hi : 0 ≤ i ∧ i + 6 ≤ L ∧ L ≤ 3072) : oR bs x L xs S0 T0 i 973 M := by
  have ⟨hs, hS, hA, hX, hM, ri, _, _⟩ := I
  have zx := zis_x hX
  have g1 := gs_rng xs (i + 1)
  have g2 := gs_rng xs (i + 2)
  obtain ⟨M1, M2, y, yr, e1, s1, z1, e2, I2⟩ := law_i hb I (x_level hX ri (gs xs (i + 1)) (gs xs (i + 2)) (by omega)) (fun M' y => m_level y ri (gs xs (i + 1)) (gs xs (i + 2)) (by omega)) (RI_level ri (gs xs (i + 1)) (gs xs (i + 2)))
  refine ⟨_, _, _, _, _, _, M2, fun d K => ?_, I2⟩
  simp (disch := omega) only [e_223_973, e_223_974, e_223_975, e_223_976, e_223_977, e_223_978, e_223_979, e_223_980, e_223_981, e_223_982, e_223_983, e_223_984, e_223_987, e_223_988, e_223_989, e_223_990, e_223_991, e_223_992, e_223_993, e_223_994, e_223_995, e_223_996, e_223_997, e_223_998, e_223_1001t, e_223_1004, e_223_1005, zPa_some, zPn_some, zRK_some, zRK_none, zCk_t, zAld_sc, hs, zx, e1, s1, z1, e2]
theorem o_22 (hb : bs < x) (I : LI bs x L xs S0 T0 v F C G R D M) {i : Int} (hi : 0 ≤ i ∧ i + 6 ≤ L ∧ L ≤ 3072) : oR bs x L xs S0 T0 i 1006 M := by
  have ⟨hs, hS, hA, hX, hM, ri, _, _⟩ := I
  have zx := zis_x hX
  have g1 := gs_rng xs (i + 1)
  have g2 := gs_rng xs (i + 2)
  have g3 := gs_rng xs (i + 3)
  obtain ⟨M1, M2, y, yr, e1, s1, z1, e2, I2⟩ := law_i hb I (x_feel hX ri (gs xs (i + 1)) (gs xs (i + 2)) (gs xs (i + 3)) (by omega)) (fun M' y => m_feel y ri (gs xs (i + 1)) (gs xs (i + 2)) (gs xs (i + 3)) (by omega)) (RI_feel ri (gs xs (i + 1)) (gs xs (i + 2)) (gs xs (i + 3)))
  refine ⟨_, _, _, _, _, _, M2, fun d K => ?_, I2⟩
  simp (disch := omega) only [e_223_1006, e_223_1007, e_223_1008, e_223_1009, e_223_1010, e_223_1011, e_223_1012, e_223_1013, e_223_1014, e_223_1015, e_223_1016, e_223_1017, e_223_1018, e_223_1019, e_223_1020, e_223_1021, e_223_1022, e_223_1025, e_223_1026, e_223_1027, e_223_1028, e_223_1029, e_223_1030, e_223_1031, e_223_1032, e_223_1033, e_223_1034, e_223_1035, e_223_1036, e_223_1037, e_223_1038, e_223_1039, e_223_1040, e_223_1041, e_223_1044t, e_223_1047, e_223_1048, zPa_some, zPn_some, zRK_some, zRK_none, zCk_t, zAld_sc, hs, zx, e1, s1, z1, e2]
theorem o_23 (hb : bs < x) (I : LI bs x L xs S0 T0 v F C G R D M) {i : Int} (hi : 0 ≤ i ∧ i + 6 ≤ L ∧ L ≤ 3072) : oR bs x L xs S0 T0 i 1049 M := by
  have ⟨hs, hS, hA, hX, hM, ri, _, _⟩ := I
  have zx := zis_x hX
  obtain ⟨M1, M2, y, yr, e1, s1, z1, e2, I2⟩ := law_i hb I (x_numb hX ) (fun M' y => m_numb y ) (RI_numb ri)
  refine ⟨_, _, _, _, _, _, M2, fun d K => ?_, I2⟩
  simp (disch := omega) only [e_223_1049, e_223_1050, e_223_1053, e_223_1054, e_223_1057t, e_223_1060, e_223_1061, zPa_some, zPn_some, zRK_some, zRK_none, zCk_t, zAld_sc, hs, zx, e1, s1, z1, e2]
theorem o_24 (hb : bs < x) (I : LI bs x L xs S0 T0 v F C G R D M) {i : Int} (hi : 0 ≤ i ∧ i + 6 ≤ L ∧ L ≤ 3072) : oR bs x L xs S0 T0 i 1062 M := by
  have ⟨hs, hS, hA, hX, hM, ri, _, _⟩ := I
  have zx := zis_x hX
  have hA1 : M.1 < x ∨ x + 47 ≤ M.1 := Or.inl hA
  obtain ⟨M1, M2, y, yr, e1, s1, z1, e2, I2⟩ := law_i hb I (x_explains hS hA1 hX ri ) (fun M' y => m_explains y ri ) ri
  refine ⟨_, _, _, _, _, _, M2, fun d K => ?_, I2⟩
  simp (disch := omega) only [e_223_1062, e_223_1063, e_223_1066, e_223_1067, e_223_1070t, e_223_1073, e_223_1074, zPa_some, zPn_some, zRK_some, zRK_none, zCk_t, zAld_sc, hs, zx, e1, s1, z1, e2]
theorem o_25 (hb : bs < x) (I : LI bs x L xs S0 T0 v F C G R D M) {i : Int} (hi : 0 ≤ i ∧ i + 6 ≤ L ∧ L ≤ 3072) : oR bs x L xs S0 T0 i 1075 M := by
  have ⟨hs, hS, hA, hX, hM, ri, _, _⟩ := I
  have zx := zis_x hX
  have hA1 : M.1 < x ∨ x + 47 ≤ M.1 := Or.inl hA
  have g1 := gs_rng xs (i + 1)
  obtain ⟨M1, M2, y, yr, e1, s1, z1, e2, I2⟩ := law_i hb I (x_explained hS hA1 hX ri (gs xs (i + 1)) (by omega)) (fun M' y => m_explained y ri (gs xs (i + 1)) (by omega)) ri
  refine ⟨_, _, _, _, _, _, M2, fun d K => ?_, I2⟩
  simp (disch := omega) only [e_223_1075, e_223_1076, e_223_1077, e_223_1078, e_223_1079, e_223_1080, e_223_1081, e_223_1084, e_223_1085, e_223_1086, e_223_1087, e_223_1088, e_223_1089, e_223_1090, e_223_1093t, e_223_1096, e_223_1097, zPa_some, zPn_some, zRK_some, zRK_none, zCk_t, zAld_sc, hs, zx, e1, s1, z1, e2]
theorem o_26 (hb : bs < x) (I : LI bs x L xs S0 T0 v F C G R D M) {i : Int} (hi : 0 ≤ i ∧ i + 6 ≤ L ∧ L ≤ 3072) : oR bs x L xs S0 T0 i 1098 M := by
  have ⟨hs, hS, hA, hX, hM, ri, _, _⟩ := I
  have zx := zis_x hX
  have g1 := gs_rng xs (i + 1)
  have g2 := gs_rng xs (i + 2)
  obtain ⟨M1, M2, y, yr, e1, s1, z1, e2, I2⟩ := law_i hb I (x_sieve hX ri (gs xs (i + 1)) (gs xs (i + 2)) (by omega)) (fun M' y => m_sieve y ri (gs xs (i + 1)) (gs xs (i + 2)) (by omega)) (RI_sieve ri (gs xs (i + 1)) (gs xs (i + 2)))
  refine ⟨_, _, _, _, _, _, M2, fun d K => ?_, I2⟩
  simp (disch := omega) only [e_223_1098, e_223_1099, e_223_1100, e_223_1101, e_223_1102, e_223_1103, e_223_1104, e_223_1105, e_223_1106, e_223_1107, e_223_1108, e_223_1109, e_223_1112, e_223_1113, e_223_1114, e_223_1115, e_223_1116, e_223_1117, e_223_1118, e_223_1119, e_223_1120, e_223_1121, e_223_1122, e_223_1123, e_223_1126t, e_223_1129, e_223_1130, zPa_some, zPn_some, zRK_some, zRK_none, zCk_t, zAld_sc, hs, zx, e1, s1, z1, e2]
theorem o_27 (hb : bs < x) (I : LI bs x L xs S0 T0 v F C G R D M) {i : Int} (hi : 0 ≤ i ∧ i + 6 ≤ L ∧ L ≤ 3072) : oR bs x L xs S0 T0 i 1131 M := by
  have ⟨hs, hS, hA, hX, hM, ri, _, _⟩ := I
  have zx := zis_x hX
  obtain ⟨M1, M2, y, yr, e1, s1, z1, e2, I2⟩ := law_i hb I (x_skip hX ri ) (fun M' y => m_skip y ri ) (RI_add ri (-1) (-1) (by omega))
  refine ⟨_, _, _, _, _, _, M2, fun d K => ?_, I2⟩
  simp (disch := omega) only [e_223_1131, e_223_1132, e_223_1135, e_223_1136, e_223_1139t, e_223_1142, e_223_1143, zPa_some, zPn_some, zRK_some, zRK_none, zCk_t, zAld_sc, hs, zx, e1, s1, z1, e2]
theorem o_28 (hb : bs < x) (I : LI bs x L xs S0 T0 v F C G R D M) {i : Int} (hi : 0 ≤ i ∧ i + 6 ≤ L ∧ L ≤ 3072) : oR bs x L xs S0 T0 i 1144 M := by
  have ⟨hs, hS, hA, hX, hM, ri, _, _⟩ := I
  have zx := zis_x hX
  have g1 := gs_rng xs (i + 1)
  have g2 := gs_rng xs (i + 2)
  obtain ⟨M1, M2, y, yr, e1, s1, z1, e2, I2⟩ := law_i hb I (x_meal hX ri (gs xs (i + 1)) (gs xs (i + 2)) (by omega)) (fun M' y => m_meal y ri (gs xs (i + 1)) (gs xs (i + 2)) (by omega)) ri
  refine ⟨_, _, _, _, _, _, M2, fun d K => ?_, I2⟩
  simp (disch := omega) only [e_223_1144, e_223_1145, e_223_1146, e_223_1147, e_223_1148, e_223_1149, e_223_1150, e_223_1151, e_223_1152, e_223_1153, e_223_1154, e_223_1155, e_223_1158, e_223_1159, e_223_1160, e_223_1161, e_223_1162, e_223_1163, e_223_1164, e_223_1165, e_223_1166, e_223_1167, e_223_1168, e_223_1169, e_223_1172t, e_223_1175, e_223_1176, zPa_some, zPn_some, zRK_some, zRK_none, zCk_t, zAld_sc, hs, zx, e1, s1, z1, e2]
theorem o_29 (hb : bs < x) (I : LI bs x L xs S0 T0 v F C G R D M) {i : Int} (hi : 0 ≤ i ∧ i + 6 ≤ L ∧ L ≤ 3072) : oR bs x L xs S0 T0 i 1177 M := by
  have ⟨hs, hS, hA, hX, hM, ri, _, _⟩ := I
  have zx := zis_x hX
  obtain ⟨M1, M2, y, yr, e1, s1, z1, e2, I2⟩ := law_i hb I (x_sweep hX ) (fun M' y => m_sweep y ) (RI_sweep ri)
  refine ⟨_, _, _, _, _, _, M2, fun d K => ?_, I2⟩
  simp (disch := omega) only [e_223_1177, e_223_1178, e_223_1181, e_223_1182, e_223_1185t, e_223_1188, e_223_1189, zPa_some, zPn_some, zRK_some, zRK_none, zCk_t, zAld_sc, hs, zx, e1, s1, z1, e2]
theorem o_30 (hb : bs < x) (I : LI bs x L xs S0 T0 v F C G R D M) {i : Int} (hi : 0 ≤ i ∧ i + 6 ≤ L ∧ L ≤ 3072) : oR bs x L xs S0 T0 i 1190 M := by
  have ⟨hs, hS, hA, hX, hM, ri, _, _⟩ := I
  have zx := zis_x hX
  have g1 := gs_rng xs (i + 1)
  have g2 := gs_rng xs (i + 2)
  have g3 := gs_rng xs (i + 3)
  have g4 := gs_rng xs (i + 4)
  obtain ⟨M1, M2, y, yr, e1, s1, z1, e2, I2⟩ := law_i hb I (x_due hX (gs xs (i + 1)) (gs xs (i + 2)) (gs xs (i + 3)) (gs xs (i + 4)) (by omega)) (fun M' y => m_due y (gs xs (i + 1)) (gs xs (i + 2)) (gs xs (i + 3)) (gs xs (i + 4)) (by omega)) (RI_due ri (gs xs (i + 1)) (gs xs (i + 2)) (gs xs (i + 3)) (gs xs (i + 4)))
  refine ⟨_, _, _, _, _, _, M2, fun d K => ?_, I2⟩
  simp (disch := omega) only [e_223_1190, e_223_1191, e_223_1192, e_223_1193, e_223_1194, e_223_1195, e_223_1196, e_223_1197, e_223_1198, e_223_1199, e_223_1200, e_223_1201, e_223_1202, e_223_1203, e_223_1204, e_223_1205, e_223_1206, e_223_1207, e_223_1208, e_223_1209, e_223_1210, e_223_1211, e_223_1214, e_223_1215, e_223_1216, e_223_1217, e_223_1218, e_223_1219, e_223_1220, e_223_1221, e_223_1222, e_223_1223, e_223_1224, e_223_1225, e_223_1226, e_223_1227, e_223_1228, e_223_1229, e_223_1230, e_223_1231, e_223_1232, e_223_1233, e_223_1234, e_223_1235, e_223_1238t, e_223_1241, e_223_1242, zPa_some, zPn_some, zRK_some, zRK_none, zCk_t, zAld_sc, hs, zx, e1, s1, z1, e2]
theorem o_31 (hb : bs < x) (I : LI bs x L xs S0 T0 v F C G R D M) {i : Int} (hi : 0 ≤ i ∧ i + 6 ≤ L ∧ L ≤ 3072) : oR bs x L xs S0 T0 i 1243 M := by
  have ⟨hs, hS, hA, hX, hM, ri, _, _⟩ := I
  have zx := zis_x hX
  have g1 := gs_rng xs (i + 1)
  obtain ⟨M1, M2, y, yr, e1, s1, z1, e2, I2⟩ := law_i hb I (x_free hX ri (gs xs (i + 1)) (by omega)) (fun M' y => m_free y (gs xs (i + 1)) (by omega)) (RI_free ri (gs xs (i + 1)))
  refine ⟨_, _, _, _, _, _, M2, fun d K => ?_, I2⟩
  simp (disch := omega) only [e_223_1243, e_223_1244, e_223_1245, e_223_1246, e_223_1247, e_223_1248, e_223_1249, e_223_1252, e_223_1253, e_223_1254, e_223_1255, e_223_1256, e_223_1257, e_223_1258, e_223_1261t, e_223_1264, e_223_1265, zPa_some, zPn_some, zRK_some, zRK_none, zCk_t, zAld_sc, hs, zx, e1, s1, z1, e2]
theorem o_32 (hb : bs < x) (I : LI bs x L xs S0 T0 v F C G R D M) {i : Int} (hi : 0 ≤ i ∧ i + 6 ≤ L ∧ L ≤ 3072) : oR bs x L xs S0 T0 i 1266 M := by
  have ⟨hs, hS, hA, hX, hM, ri, _, _⟩ := I
  have zx := zis_x hX
  have g1 := gs_rng xs (i + 1)
  have g2 := gs_rng xs (i + 2)
  have g3 := gs_rng xs (i + 3)
  obtain ⟨M1, M2, y, yr, e1, s1, z1, e2, I2⟩ := law_i hb I (x_road hX (gs xs (i + 1)) (gs xs (i + 2)) (gs xs (i + 3)) (by omega)) (fun M' y => m_road y (gs xs (i + 1)) (gs xs (i + 2)) (gs xs (i + 3)) (by omega)) (RI_road ri (gs xs (i + 1)) (gs xs (i + 2)) (gs xs (i + 3)))
  refine ⟨_, _, _, _, _, _, M2, fun d K => ?_, I2⟩
  simp (disch := omega) only [e_223_1266, e_223_1267, e_223_1268, e_223_1269, e_223_1270, e_223_1271, e_223_1272, e_223_1273, e_223_1274, e_223_1275, e_223_1276, e_223_1277, e_223_1278, e_223_1279, e_223_1280, e_223_1281, e_223_1282, e_223_1285, e_223_1286, e_223_1287, e_223_1288, e_223_1289, e_223_1290, e_223_1291, e_223_1292, e_223_1293, e_223_1294, e_223_1295, e_223_1296, e_223_1297, e_223_1298, e_223_1299, e_223_1300, e_223_1301, e_223_1304t, e_223_1307, e_223_1308, zPa_some, zPn_some, zRK_some, zRK_none, zCk_t, zAld_sc, hs, zx, e1, s1, z1, e2]
theorem o_33 (hb : bs < x) (I : LI bs x L xs S0 T0 v F C G R D M) {i : Int} (hi : 0 ≤ i ∧ i + 6 ≤ L ∧ L ≤ 3072) : oR bs x L xs S0 T0 i 1309 M := by
  have ⟨hs, hS, hA, hX, hM, ri, _, _⟩ := I
  have zx := zis_x hX
  have g1 := gs_rng xs (i + 1)
  obtain ⟨M1, M2, y, yr, e1, s1, z1, e2, I2⟩ := law_i hb I (x_dressers hX (gs xs (i + 1)) (by omega)) (fun M' y => m_dressers y (gs xs (i + 1)) (by omega)) (RI_dressers ri (gs xs (i + 1)))
  refine ⟨_, _, _, _, _, _, M2, fun d K => ?_, I2⟩
  simp (disch := omega) only [e_223_1309, e_223_1310, e_223_1311, e_223_1312, e_223_1313, e_223_1314, e_223_1315, e_223_1318, e_223_1319, e_223_1320, e_223_1321, e_223_1322, e_223_1323, e_223_1324, e_223_1327t, e_223_1330, e_223_1331, zPa_some, zPn_some, zRK_some, zRK_none, zCk_t, zAld_sc, hs, zx, e1, s1, z1, e2]
theorem o_34 (hb : bs < x) (I : LI bs x L xs S0 T0 v F C G R D M) {i : Int} (hi : 0 ≤ i ∧ i + 6 ≤ L ∧ L ≤ 3072) : oR bs x L xs S0 T0 i 1332 M := by
  have ⟨hs, hS, hA, hX, hM, ri, _, _⟩ := I
  have zx := zis_x hX
  obtain ⟨r, v1, cx, cm, ri1, z, hz⟩ := p_plan (c := x + 47) hX ri
  subst hz
  obtain ⟨M1, M2, y, yr, e1, s1, z1, e2, I2⟩ := law_i hb I cx cm ri1
  refine ⟨_, _, _, _, _, _, M2, fun d K => ?_, I2⟩
  simp (disch := omega) only [e_223_1332, e_223_1333, e_223_1336, e_223_1337, e_223_1340t, e_223_1343, e_223_1344, zPa_some, zPn_some, zRK_some, zRK_none, zCk_t, zAld_sc, hs, zx, e1, s1, z1, e2]
theorem o_35 (hb : bs < x) (I : LI bs x L xs S0 T0 v F C G R D M) {i : Int} (hi : 0 ≤ i ∧ i + 6 ≤ L ∧ L ≤ 3072) : oR bs x L xs S0 T0 i 1345 M := by
  have ⟨hs, hS, hA, hX, hM, ri, _, _⟩ := I
  have zx := zis_x hX
  have g1 := gs_rng xs (i + 1)
  obtain ⟨r, v1, cx, cm, ri1, z, hz⟩ := p_given (c := x + 47) hX ri (gs xs (i + 1)) (by omega)
  subst hz
  obtain ⟨M1, M2, y, yr, e1, s1, z1, e2, I2⟩ := law_i hb I cx cm ri1
  refine ⟨_, _, _, _, _, _, M2, fun d K => ?_, I2⟩
  simp (disch := omega) only [e_223_1345, e_223_1346, e_223_1347, e_223_1348, e_223_1349, e_223_1350, e_223_1351, e_223_1354, e_223_1355, e_223_1356, e_223_1357, e_223_1358, e_223_1359, e_223_1360, e_223_1363t, e_223_1366, e_223_1367, zPa_some, zPn_some, zRK_some, zRK_none, zCk_t, zAld_sc, hs, zx, e1, s1, z1, e2]
theorem o_36 (hb : bs < x) (I : LI bs x L xs S0 T0 v F C G R D M) {i : Int} (hi : 0 ≤ i ∧ i + 6 ≤ L ∧ L ≤ 3072) : oR bs x L xs S0 T0 i 1368 M := by
  have ⟨hs, hS, hA, hX, hM, ri, _, _⟩ := I
  have zx := zis_x hX
  have g1 := gs_rng xs (i + 1)
  obtain ⟨r, v1, cx, cm, ri1, z, hz⟩ := p_begun (c := x + 47) hX ri (gs xs (i + 1)) (by omega)
  subst hz
  obtain ⟨M1, M2, y, yr, e1, s1, z1, e2, I2⟩ := law_i hb I cx cm ri1
  refine ⟨_, _, _, _, _, _, M2, fun d K => ?_, I2⟩
  simp (disch := omega) only [e_223_1368, e_223_1369, e_223_1370, e_223_1371, e_223_1372, e_223_1373, e_223_1374, e_223_1377, e_223_1378, e_223_1379, e_223_1380, e_223_1381, e_223_1382, e_223_1383, e_223_1386t, e_223_1389, e_223_1390, zPa_some, zPn_some, zRK_some, zRK_none, zCk_t, zAld_sc, hs, zx, e1, s1, z1, e2]
theorem o_37 (hb : bs < x) (I : LI bs x L xs S0 T0 v F C G R D M) {i : Int} (hi : 0 ≤ i ∧ i + 6 ≤ L ∧ L ≤ 3072) : oR bs x L xs S0 T0 i 1391 M := by
  have ⟨hs, hS, hA, hX, hM, ri, _, _⟩ := I
  have zx := zis_x hX
  have g1 := gs_rng xs (i + 1)
  obtain ⟨M1, M2, y, yr, e1, s1, z1, e2, I2⟩ := law_i hb I (x_count hX ri (gs xs (i + 1)) (by omega)) (fun M' y => m_count y (gs xs (i + 1)) (by omega)) ri
  refine ⟨_, _, _, _, _, _, M2, fun d K => ?_, I2⟩
  simp (disch := omega) only [e_223_1391, e_223_1392, e_223_1393, e_223_1394, e_223_1395, e_223_1396, e_223_1397, e_223_1400, e_223_1401, e_223_1402, e_223_1403, e_223_1404, e_223_1405, e_223_1406, e_223_1409t, e_223_1412, e_223_1413, zPa_some, zPn_some, zRK_some, zRK_none, zCk_t, zAld_sc, hs, zx, e1, s1, z1, e2]
theorem o_38 (hb : bs < x) (I : LI bs x L xs S0 T0 v F C G R D M) {i : Int} (hi : 0 ≤ i ∧ i + 6 ≤ L ∧ L ≤ 3072) : oR bs x L xs S0 T0 i 1414 M := by
  have ⟨hs, hS, hA, hX, hM, ri, _, _⟩ := I
  have zx := zis_x hX
  obtain ⟨y, hy, yr⟩ := zlr (dAll v F C G R D)
  obtain ⟨M1, M2, e1, s1, z1, e2, I2⟩ := law_st hb I (x_digest hX ri) (fun M' y => m_digest y ri) ri
  rw [hy] at e1 e2
  have q : (if y < y then (1 : Int) else if y = y then 0 else -1) = 0 := by rw [if_neg (by omega), if_pos rfl]
  refine ⟨_, _, _, _, _, _, M2, fun d K => ?_, I2⟩
  simp (disch := omega) only [e_223_1414, e_223_1415, e_223_1418, e_223_1419, e_223_1422, e_223_1423t, e_223_1426, e_223_1427, zPa_some, zPn_some, zRK_some, zRK_none, zCk_t, zAld_sc, hs, zx, e1, s1, z1, e2, q, Int.lt_irrefl, reduceIte, if_true, if_false]
theorem o_39 (I : LI bs x L xs S0 T0 v F C G R D M) {i : Int} : oR bs x L xs S0 T0 i 1428 M := ⟨v, F, C, G, R, D, M, fun _ _ => rfl, I⟩
theorem o_pre (I : LI bs x L xs S0 T0 v F C G R D M) {i : Int} (hi : 0 ≤ i ∧ i + 6 ≤ L ∧ L ≤ 3072) (d : Nat) (K : zK) : Ev (d + 20) 223 27 [some (.ref bs), some (.ref x), some (.ref (x + 47)), some (.int (zi i))] [] M K = Ev (d + 20) 223 33 [some (.ref bs), some (.ref x), some (.ref (x + 47)), some (.int (zi i))] [.int (zi (zand (gs xs i) 63))] M K := by
  have hs := I.1
  simp (disch := omega) only [e_223_27, e_223_28, e_223_29, e_223_30, e_223_32, zPa_some, zPn_some, zRK_some, zRK_none, zCk_t, zAld_sc, hs]
theorem o_cut (I : LI bs x L xs S0 T0 v F C G R D M) {i : Int} (hi : 0 ≤ i ∧ i + 6 ≤ L ∧ L ≤ 3072) {pc : Nat} (e : ∀ (d : Nat) (K : zK), Ev (d + 20) 223 33 [some (.ref bs), some (.ref x), some (.ref (x + 47)), some (.int (zi i))] [.int (zi (zand (gs xs i) 63))] M K = Ev (d + 20) 223 pc [some (.ref bs), some (.ref x), some (.ref (x + 47)), some (.int (zi i))] [] M K) (o : oR bs x L xs S0 T0 i pc M) : oR bs x L xs S0 T0 i 27 M := by
  obtain ⟨v', F', C', G', R', D', M', a1, a2⟩ := o
  exact ⟨v', F', C', G', R', D', M', fun d K => (o_pre I hi d K).trans ((e d K).trans (a1 d K)), a2⟩
theorem o_all (hb : bs < x) (I : LI bs x L xs S0 T0 v F C G R D M) {i : Int} (hi : 0 ≤ i ∧ i + 6 ≤ L ∧ L ≤ 3072) : oR bs x L xs S0 T0 i 27 M := by
  have zr : -2147483648 ≤ zand (gs xs i) 63 ∧ zand (gs xs i) 63 < 2147483648 := ⟨Int32.le_toInt _, Int32.toInt_lt _⟩
  by_cases q : zand (gs xs i) 63 < 0 ∨ 38 < zand (gs xs i) 63
  · exact o_cut I hi (fun d K => e_223_33kd ⟨zr.1, zr.2, q⟩) (o_39 I)
  by_cases q0 : zand (gs xs i) 63 = 0
  · exact o_cut I hi (fun d K => e_223_33k0 q0) (o_0 hb I hi)
  by_cases q1 : zand (gs xs i) 63 = 1
  · exact o_cut I hi (fun d K => e_223_33k1 q1) (o_1 hb I hi)
  by_cases q2 : zand (gs xs i) 63 = 2
  · exact o_cut I hi (fun d K => e_223_33k2 q2) (o_2 hb I hi)
  by_cases q3 : zand (gs xs i) 63 = 3
  · exact o_cut I hi (fun d K => e_223_33k3 q3) (o_3 hb I hi)
  by_cases q4 : zand (gs xs i) 63 = 4
  · exact o_cut I hi (fun d K => e_223_33k4 q4) (o_4 hb I hi)
  by_cases q5 : zand (gs xs i) 63 = 5
  · exact o_cut I hi (fun d K => e_223_33k5 q5) (o_5 hb I hi)
  by_cases q6 : zand (gs xs i) 63 = 6
  · exact o_cut I hi (fun d K => e_223_33k6 q6) (o_6 hb I hi)
  by_cases q7 : zand (gs xs i) 63 = 7
  · exact o_cut I hi (fun d K => e_223_33k7 q7) (o_7 hb I hi)
  by_cases q8 : zand (gs xs i) 63 = 8
  · exact o_cut I hi (fun d K => e_223_33k8 q8) (o_8 hb I hi)
  by_cases q9 : zand (gs xs i) 63 = 9
  · exact o_cut I hi (fun d K => e_223_33k9 q9) (o_9 hb I hi)
  by_cases q10 : zand (gs xs i) 63 = 10
  · exact o_cut I hi (fun d K => e_223_33k10 q10) (o_10 hb I hi)
  by_cases q11 : zand (gs xs i) 63 = 11
  · exact o_cut I hi (fun d K => e_223_33k11 q11) (o_11 hb I hi)
  by_cases q12 : zand (gs xs i) 63 = 12
  · exact o_cut I hi (fun d K => e_223_33k12 q12) (o_12 hb I hi)
  by_cases q13 : zand (gs xs i) 63 = 13
  · exact o_cut I hi (fun d K => e_223_33k13 q13) (o_13 hb I hi)
  by_cases q14 : zand (gs xs i) 63 = 14
  · exact o_cut I hi (fun d K => e_223_33k14 q14) (o_14 hb I hi)
  by_cases q15 : zand (gs xs i) 63 = 15
  · exact o_cut I hi (fun d K => e_223_33k15 q15) (o_15 hb I hi)
  by_cases q16 : zand (gs xs i) 63 = 16
  · exact o_cut I hi (fun d K => e_223_33k16 q16) (o_16 hb I hi)
  by_cases q17 : zand (gs xs i) 63 = 17
  · exact o_cut I hi (fun d K => e_223_33k17 q17) (o_17 hb I hi)
  by_cases q18 : zand (gs xs i) 63 = 18
  · exact o_cut I hi (fun d K => e_223_33k18 q18) (o_18 hb I hi)
  by_cases q19 : zand (gs xs i) 63 = 19
  · exact o_cut I hi (fun d K => e_223_33k19 q19) (o_19 hb I hi)
  by_cases q20 : zand (gs xs i) 63 = 20
  · exact o_cut I hi (fun d K => e_223_33k20 q20) (o_20 hb I hi)
  by_cases q21 : zand (gs xs i) 63 = 21
  · exact o_cut I hi (fun d K => e_223_33k21 q21) (o_21 hb I hi)
  by_cases q22 : zand (gs xs i) 63 = 22
  · exact o_cut I hi (fun d K => e_223_33k22 q22) (o_22 hb I hi)
  by_cases q23 : zand (gs xs i) 63 = 23
  · exact o_cut I hi (fun d K => e_223_33k23 q23) (o_23 hb I hi)
  by_cases q24 : zand (gs xs i) 63 = 24
  · exact o_cut I hi (fun d K => e_223_33k24 q24) (o_24 hb I hi)
  by_cases q25 : zand (gs xs i) 63 = 25
  · exact o_cut I hi (fun d K => e_223_33k25 q25) (o_25 hb I hi)
  by_cases q26 : zand (gs xs i) 63 = 26
  · exact o_cut I hi (fun d K => e_223_33k26 q26) (o_26 hb I hi)
  by_cases q27 : zand (gs xs i) 63 = 27
  · exact o_cut I hi (fun d K => e_223_33k27 q27) (o_27 hb I hi)
  by_cases q28 : zand (gs xs i) 63 = 28
  · exact o_cut I hi (fun d K => e_223_33k28 q28) (o_28 hb I hi)
  by_cases q29 : zand (gs xs i) 63 = 29
  · exact o_cut I hi (fun d K => e_223_33k29 q29) (o_29 hb I hi)
  by_cases q30 : zand (gs xs i) 63 = 30
  · exact o_cut I hi (fun d K => e_223_33k30 q30) (o_30 hb I hi)
  by_cases q31 : zand (gs xs i) 63 = 31
  · exact o_cut I hi (fun d K => e_223_33k31 q31) (o_31 hb I hi)
  by_cases q32 : zand (gs xs i) 63 = 32
  · exact o_cut I hi (fun d K => e_223_33k32 q32) (o_32 hb I hi)
  by_cases q33 : zand (gs xs i) 63 = 33
  · exact o_cut I hi (fun d K => e_223_33k33 q33) (o_33 hb I hi)
  by_cases q34 : zand (gs xs i) 63 = 34
  · exact o_cut I hi (fun d K => e_223_33k34 q34) (o_34 hb I hi)
  by_cases q35 : zand (gs xs i) 63 = 35
  · exact o_cut I hi (fun d K => e_223_33k35 q35) (o_35 hb I hi)
  by_cases q36 : zand (gs xs i) 63 = 36
  · exact o_cut I hi (fun d K => e_223_33k36 q36) (o_36 hb I hi)
  by_cases q37 : zand (gs xs i) 63 = 37
  · exact o_cut I hi (fun d K => e_223_33k37 q37) (o_37 hb I hi)
  by_cases q38 : zand (gs xs i) 63 = 38
  · exact o_cut I hi (fun d K => e_223_33k38 q38) (o_38 hb I hi)
  omega
theorem law_loop (hb : bs < x) (hL : L ≤ 3072) : ∀ (n : Nat) (i : Int) (v : Nat → Int) (F C : Int → Bool) (G : Int → Int) (R : Nat → Int → Int) (D : Int → Bool) (M : zM), LI bs x L xs S0 T0 v F C G R D M → 0 ≤ i → i ≤ 4000 → (L : Int) - i ≤ 6 * n + 5 → ∃ M', (∀ (d : Nat) (K : zK), Ev (d + 20) 223 24 [some (.ref bs), some (.ref x), some (.ref (x + 47)), some (.int (zi i))] [.int (zi ((L : Int) - 6)), .int (zi i)] M K = K (some (.int (zi 1))) M') ∧ M'.2.1 = S0 ∧ M'.2.2.1 = T0 := by
  intro n
  induction n with
  | zero =>
    intro i v F C G R D M I h0 h1 h2
    refine ⟨M, fun d K => ?_, I.2.2.2.2.2.2.1, I.2.2.2.2.2.2.2⟩
    rw [e_223_24t (by omega)]
    simp (disch := omega) only [e_223_1434, e_223_1435, zPa_some, zPn_some, zRK_some, zRK_none, zCk_t, zAld_sc]
  | succ n ih =>
    intro i v F C G R D M I h0 h1 h2
    by_cases q : (L : Int) - 6 < i
    · refine ⟨M, fun d K => ?_, I.2.2.2.2.2.2.1, I.2.2.2.2.2.2.2⟩
      rw [e_223_24t (by omega)]
      simp (disch := omega) only [e_223_1434, e_223_1435, zPa_some, zPn_some, zRK_some, zRK_none, zCk_t, zAld_sc]
    · obtain ⟨v', F', C', G', R', D', M1, a1, a2⟩ := o_all hb I (i := i) (by omega)
      obtain ⟨M', b1, b2, b3⟩ := ih (i + 6) _ _ _ _ _ _ M1 a2 (by omega) (by omega) (by omega)
      refine ⟨M', fun d K => ?_, b2, b3⟩
      have hs := a2.1
      rw [e_223_24f (by omega), a1 d K, ← b1 d K]
      simp (disch := omega) only [e_223_18, e_223_19, e_223_20, e_223_21, e_223_23, e_223_1428, e_223_1431, zPa_some, zPn_some, zRK_some, zRK_none, zCk_t, zAld_sc, hs, zAlen_13]
end LAW
