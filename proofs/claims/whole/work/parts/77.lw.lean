/-! the law's loop -/
section S17
variable {d L : Nat} {xs : Nat → Int32} {M : ip_Mm} {i k : Nat}
theorem sc_r (hk : k < L) (hL : L < 2 ^ 31) : ip_ia (ip_hm L xs M) 0 (nI k) = some (xs k) := by
  show (if (9 = 1 ∨ 9 = 9) ∧ ip_in (nI k) L = true then some (xs (nI k).toNatClampNeg) else none) = _
  rw [if_pos ⟨Or.inr rfl, in_t hk hL⟩, cl_n (by omega)]
theorem sc_l : ip_len (ip_hm L xs M) 0 = some L := rfl
theorem lw_0 (hz : zIv M) (hi : i + 6 ≤ L) (hL : L ≤ 3072) : ∃ M', ip_go (d + 61) mlaw 156 [some (.ref 0), some (.ref 2), some (.ref 256), some (.int (nI i))] [] (ip_hm L xs M) = ip_go (d + 61) mlaw 1189 [some (.ref 0), some (.ref 2), some (.ref 256), some (.int (nI i))] [] (ip_hm L xs M') ∧ zIv M' := by
  obtain ⟨v, M1, M2, h1, h2, h3⟩ := (show zPI (d + 60) L xs mC_program mR_program [] M from pp_program hz)
  refine ⟨M2, ?_, h3⟩
  simp (disch := first | assumption | omega) only [e146_156, e146_157, e146_160, e146_161, e146_164, e146_167, e146_168, c2_o, c256_o, sc_r, ar3, h1, h2, cm_eqz, Option.bind_some, Option.bind_none, Option.toList_some, Option.toList_none, List.cons_append, List.nil_append, if_true, if_false, ite_true, ite_false, bd_ite, eq_self, not_true_eq_false, not_false_eq_true, true_or, or_true, or_self, k1_i, k1_j, k1_a, k1_n]
theorem lw_1 (hz : zIv M) (hi : i + 6 ≤ L) (hL : L ≤ 3072) : ∃ M', ip_go (d + 61) mlaw 169 [some (.ref 0), some (.ref 2), some (.ref 256), some (.int (nI i))] [] (ip_hm L xs M) = ip_go (d + 61) mlaw 1189 [some (.ref 0), some (.ref 2), some (.ref 256), some (.int (nI i))] [] (ip_hm L xs M') ∧ zIv M' := by
  obtain ⟨v, M1, M2, h1, h2, h3⟩ := (show zPI (d + 60) L xs mC_op mR_op [.int (xs (i + 1)), .int (xs (i + 2)), .long ((xs (i + 3)).toInt64 <<< ((32 : Int32).toInt64 &&& 63) ||| (xs (i + 4)).toInt64 &&& 4294967295), .int (xs (i + 5))] M from pp_op hz)
  refine ⟨M2, ?_, h3⟩
  simp (disch := first | assumption | omega) only [e146_169, e146_170, e146_171, e146_172, e146_173, e146_174, e146_175, e146_176, e146_177, e146_178, e146_179, e146_180, e146_181, e146_182, e146_183, e146_184, e146_185, e146_186, e146_188, e146_189, e146_190, e146_191, e146_192, e146_193, e146_194, e146_195, e146_198, e146_199, e146_200, e146_201, e146_202, e146_203, e146_204, e146_205, e146_208, e146_209, e146_210, e146_211, e146_212, e146_213, e146_214, e146_215, e146_216, e146_217, e146_218, e146_219, e146_220, e146_221, e146_222, e146_223, e146_224, e146_225, e146_227, e146_228, e146_229, e146_230, e146_231, e146_232, e146_233, e146_234, e146_237, e146_238, e146_239, e146_240, e146_241, e146_242, e146_243, e146_244, e146_247, e146_250, e146_251, c2_o, c256_o, sc_r, ar3, h1, h2, cm_eqz, Option.bind_some, Option.bind_none, Option.toList_some, Option.toList_none, List.cons_append, List.nil_append, if_true, if_false, ite_true, ite_false, bd_ite, eq_self, not_true_eq_false, not_false_eq_true, true_or, or_true, or_self, k1_i, k1_j, k1_a, k1_n]
theorem lw_2 (hz : zIv M) (hi : i + 6 ≤ L) (hL : L ≤ 3072) : ∃ M', ip_go (d + 61) mlaw 252 [some (.ref 0), some (.ref 2), some (.ref 256), some (.int (nI i))] [] (ip_hm L xs M) = ip_go (d + 61) mlaw 1189 [some (.ref 0), some (.ref 2), some (.ref 256), some (.int (nI i))] [] (ip_hm L xs M') ∧ zIv M' := by
  obtain ⟨v, M1, M2, h1, h2, h3⟩ := (show zPI (d + 60) L xs mC_account mR_account [] M from pp_account hz)
  refine ⟨M2, ?_, h3⟩
  simp (disch := first | assumption | omega) only [e146_252, e146_253, e146_256, e146_257, e146_260, e146_263, e146_264, c2_o, c256_o, sc_r, ar3, h1, h2, cm_eqz, Option.bind_some, Option.bind_none, Option.toList_some, Option.toList_none, List.cons_append, List.nil_append, if_true, if_false, ite_true, ite_false, bd_ite, eq_self, not_true_eq_false, not_false_eq_true, true_or, or_true, or_self, k1_i, k1_j, k1_a, k1_n]
theorem lw_3 (hz : zIv M) (hi : i + 6 ≤ L) (hL : L ≤ 3072) : ∃ M', ip_go (d + 61) mlaw 265 [some (.ref 0), some (.ref 2), some (.ref 256), some (.int (nI i))] [] (ip_hm L xs M) = ip_go (d + 61) mlaw 1189 [some (.ref 0), some (.ref 2), some (.ref 256), some (.int (nI i))] [] (ip_hm L xs M') ∧ zIv M' := by
  obtain ⟨v, M1, M2, h1, h2, h3⟩ := (show zPI (d + 60) L xs mC_member mR_member [.int (xs (i + 1)), .int (xs (i + 2)), .int (xs (i + 3))] M from pp_member hz)
  refine ⟨M2, ?_, h3⟩
  simp (disch := first | assumption | omega) only [e146_265, e146_266, e146_267, e146_268, e146_269, e146_270, e146_271, e146_272, e146_273, e146_274, e146_275, e146_276, e146_277, e146_278, e146_279, e146_280, e146_281, e146_284, e146_285, e146_286, e146_287, e146_288, e146_289, e146_290, e146_291, e146_292, e146_293, e146_294, e146_295, e146_296, e146_297, e146_298, e146_299, e146_300, e146_303, e146_306, e146_307, c2_o, c256_o, sc_r, ar3, h1, h2, cm_eqz, Option.bind_some, Option.bind_none, Option.toList_some, Option.toList_none, List.cons_append, List.nil_append, if_true, if_false, ite_true, ite_false, bd_ite, eq_self, not_true_eq_false, not_false_eq_true, true_or, or_true, or_self, k1_i, k1_j, k1_a, k1_n]
theorem lw_4 (hz : zIv M) (hi : i + 6 ≤ L) (hL : L ≤ 3072) : ∃ M', ip_go (d + 61) mlaw 308 [some (.ref 0), some (.ref 2), some (.ref 256), some (.int (nI i))] [] (ip_hm L xs M) = ip_go (d + 61) mlaw 1189 [some (.ref 0), some (.ref 2), some (.ref 256), some (.int (nI i))] [] (ip_hm L xs M') ∧ zIv M' := by
  obtain ⟨v, M1, M2, h1, h2, h3⟩ := (show zPI (d + 60) L xs mC_price mR_price [.int (xs (i + 1)), .int (xs (i + 2))] M from pp_price hz)
  refine ⟨M2, ?_, h3⟩
  simp (disch := first | assumption | omega) only [e146_308, e146_309, e146_310, e146_311, e146_312, e146_313, e146_314, e146_315, e146_316, e146_317, e146_318, e146_319, e146_322, e146_323, e146_324, e146_325, e146_326, e146_327, e146_328, e146_329, e146_330, e146_331, e146_332, e146_333, e146_336, e146_339, e146_340, c2_o, c256_o, sc_r, ar3, h1, h2, cm_eqz, Option.bind_some, Option.bind_none, Option.toList_some, Option.toList_none, List.cons_append, List.nil_append, if_true, if_false, ite_true, ite_false, bd_ite, eq_self, not_true_eq_false, not_false_eq_true, true_or, or_true, or_self, k1_i, k1_j, k1_a, k1_n]
theorem lw_5 (hz : zIv M) (hi : i + 6 ≤ L) (hL : L ≤ 3072) : ∃ M', ip_go (d + 61) mlaw 341 [some (.ref 0), some (.ref 2), some (.ref 256), some (.int (nI i))] [] (ip_hm L xs M) = ip_go (d + 61) mlaw 1189 [some (.ref 0), some (.ref 2), some (.ref 256), some (.int (nI i))] [] (ip_hm L xs M') ∧ zIv M' := by
  obtain ⟨v, M1, M2, h1, h2, h3⟩ := (show zPJ (d + 60) L xs mC_fund mR_fund [.int (xs (i + 1)), .long ((xs (i + 2)).toInt64 <<< ((32 : Int32).toInt64 &&& 63) ||| (xs (i + 3)).toInt64 &&& 4294967295)] M from pp_fund hz)
  refine ⟨M2, ?_, h3⟩
  simp (disch := first | assumption | omega) only [e146_341, e146_342, e146_343, e146_344, e146_345, e146_346, e146_347, e146_348, e146_349, e146_350, e146_351, e146_352, e146_353, e146_355, e146_356, e146_357, e146_358, e146_359, e146_360, e146_361, e146_362, e146_365, e146_366, e146_367, e146_370, e146_371, e146_372, e146_373, e146_374, e146_375, e146_376, e146_377, e146_378, e146_379, e146_380, e146_381, e146_382, e146_384, e146_385, e146_386, e146_387, e146_388, e146_389, e146_390, e146_391, e146_394, e146_395, e146_396, e146_399, e146_400, e146_403, e146_404, c2_o, c256_o, sc_r, ar3, h1, h2, cm_eqz, Option.bind_some, Option.bind_none, Option.toList_some, Option.toList_none, List.cons_append, List.nil_append, if_true, if_false, ite_true, ite_false, bd_ite, eq_self, not_true_eq_false, not_false_eq_true, true_or, or_true, or_self, k1_i, k1_j, k1_a, k1_n]
theorem lw_6 (hz : zIv M) (hi : i + 6 ≤ L) (hL : L ≤ 3072) : ∃ M', ip_go (d + 61) mlaw 405 [some (.ref 0), some (.ref 2), some (.ref 256), some (.int (nI i))] [] (ip_hm L xs M) = ip_go (d + 61) mlaw 1189 [some (.ref 0), some (.ref 2), some (.ref 256), some (.int (nI i))] [] (ip_hm L xs M') ∧ zIv M' := by
  obtain ⟨v, M1, M2, h1, h2, h3⟩ := (show zPJ (d + 60) L xs mC_cell mR_cell [.int (xs (i + 1)), .int (xs (i + 2))] M from pp_cell hz)
  refine ⟨M2, ?_, h3⟩
  simp (disch := first | assumption | omega) only [e146_405, e146_406, e146_407, e146_408, e146_409, e146_410, e146_411, e146_412, e146_413, e146_414, e146_415, e146_416, e146_419, e146_420, e146_421, e146_422, e146_423, e146_424, e146_425, e146_426, e146_427, e146_428, e146_429, e146_430, e146_433, e146_434, e146_437, e146_438, c2_o, c256_o, sc_r, ar3, h1, h2, cm_eqz, Option.bind_some, Option.bind_none, Option.toList_some, Option.toList_none, List.cons_append, List.nil_append, if_true, if_false, ite_true, ite_false, bd_ite, eq_self, not_true_eq_false, not_false_eq_true, true_or, or_true, or_self, k1_i, k1_j, k1_a, k1_n]
theorem lw_7 (hz : zIv M) (hi : i + 6 ≤ L) (hL : L ≤ 3072) : ∃ M', ip_go (d + 61) mlaw 439 [some (.ref 0), some (.ref 2), some (.ref 256), some (.int (nI i))] [] (ip_hm L xs M) = ip_go (d + 61) mlaw 1189 [some (.ref 0), some (.ref 2), some (.ref 256), some (.int (nI i))] [] (ip_hm L xs M') ∧ zIv M' := by
  obtain ⟨v, M1, M2, h1, h2, h3⟩ := (show zPJ (d + 60) L xs mC_balance mR_balance [.int (xs (i + 1))] M from pp_balance hz)
  refine ⟨M2, ?_, h3⟩
  simp (disch := first | assumption | omega) only [e146_439, e146_440, e146_441, e146_442, e146_443, e146_444, e146_445, e146_448, e146_449, e146_450, e146_451, e146_452, e146_453, e146_454, e146_457, e146_458, e146_461, e146_462, c2_o, c256_o, sc_r, ar3, h1, h2, cm_eqz, Option.bind_some, Option.bind_none, Option.toList_some, Option.toList_none, List.cons_append, List.nil_append, if_true, if_false, ite_true, ite_false, bd_ite, eq_self, not_true_eq_false, not_false_eq_true, true_or, or_true, or_self, k1_i, k1_j, k1_a, k1_n]
theorem lw_8 (hz : zIv M) (hi : i + 6 ≤ L) (hL : L ≤ 3072) : ∃ M', ip_go (d + 61) mlaw 463 [some (.ref 0), some (.ref 2), some (.ref 256), some (.int (nI i))] [] (ip_hm L xs M) = ip_go (d + 61) mlaw 1189 [some (.ref 0), some (.ref 2), some (.ref 256), some (.int (nI i))] [] (ip_hm L xs M') ∧ zIv M' := by
  obtain ⟨v, M1, M2, h1, h2, h3⟩ := (show zPI (d + 60) L xs mC_call mR_call [.int (xs (i + 1)), .int (xs (i + 2)), .long ((xs (i + 3)).toInt64 <<< ((32 : Int32).toInt64 &&& 63) ||| (xs (i + 4)).toInt64 &&& 4294967295), .int (xs (i + 5))] M from pp_call hz)
  refine ⟨M2, ?_, h3⟩
  simp (disch := first | assumption | omega) only [e146_463, e146_464, e146_465, e146_466, e146_467, e146_468, e146_469, e146_470, e146_471, e146_472, e146_473, e146_474, e146_475, e146_476, e146_477, e146_478, e146_479, e146_480, e146_482, e146_483, e146_484, e146_485, e146_486, e146_487, e146_488, e146_489, e146_492, e146_493, e146_494, e146_495, e146_496, e146_497, e146_498, e146_499, e146_502, e146_503, e146_504, e146_505, e146_506, e146_507, e146_508, e146_509, e146_510, e146_511, e146_512, e146_513, e146_514, e146_515, e146_516, e146_517, e146_518, e146_519, e146_521, e146_522, e146_523, e146_524, e146_525, e146_526, e146_527, e146_528, e146_531, e146_532, e146_533, e146_534, e146_535, e146_536, e146_537, e146_538, e146_541, e146_544, e146_545, c2_o, c256_o, sc_r, ar3, h1, h2, cm_eqz, Option.bind_some, Option.bind_none, Option.toList_some, Option.toList_none, List.cons_append, List.nil_append, if_true, if_false, ite_true, ite_false, bd_ite, eq_self, not_true_eq_false, not_false_eq_true, true_or, or_true, or_self, k1_i, k1_j, k1_a, k1_n]
theorem lw_9 (hz : zIv M) (hi : i + 6 ≤ L) (hL : L ≤ 3072) : ∃ M', ip_go (d + 61) mlaw 546 [some (.ref 0), some (.ref 2), some (.ref 256), some (.int (nI i))] [] (ip_hm L xs M) = ip_go (d + 61) mlaw 1189 [some (.ref 0), some (.ref 2), some (.ref 256), some (.int (nI i))] [] (ip_hm L xs M') ∧ zIv M' := by
  obtain ⟨v, M1, M2, h1, h2, h3⟩ := (show zPI (d + 60) L xs mC_drop mR_drop [] M from pp_drop hz)
  refine ⟨M2, ?_, h3⟩
  simp (disch := first | assumption | omega) only [e146_546, e146_547, e146_550, e146_551, e146_554, e146_557, e146_558, c2_o, c256_o, sc_r, ar3, h1, h2, cm_eqz, Option.bind_some, Option.bind_none, Option.toList_some, Option.toList_none, List.cons_append, List.nil_append, if_true, if_false, ite_true, ite_false, bd_ite, eq_self, not_true_eq_false, not_false_eq_true, true_or, or_true, or_self, k1_i, k1_j, k1_a, k1_n]
theorem lw_10 (hz : zIv M) (hi : i + 6 ≤ L) (hL : L ≤ 3072) : ∃ M', ip_go (d + 61) mlaw 559 [some (.ref 0), some (.ref 2), some (.ref 256), some (.int (nI i))] [] (ip_hm L xs M) = ip_go (d + 61) mlaw 1189 [some (.ref 0), some (.ref 2), some (.ref 256), some (.int (nI i))] [] (ip_hm L xs M') ∧ zIv M' := by
  obtain ⟨v, M1, M2, h1, h2, h3⟩ := (show zPI (d + 60) L xs mC_trace mR_trace [.int (xs (i + 1)), .int (xs (i + 2))] M from pp_trace hz)
  refine ⟨M2, ?_, h3⟩
  simp (disch := first | assumption | omega) only [e146_559, e146_560, e146_561, e146_562, e146_563, e146_564, e146_565, e146_566, e146_567, e146_568, e146_569, e146_570, e146_573, e146_574, e146_575, e146_576, e146_577, e146_578, e146_579, e146_580, e146_581, e146_582, e146_583, e146_584, e146_587, e146_590, e146_591, c2_o, c256_o, sc_r, ar3, h1, h2, cm_eqz, Option.bind_some, Option.bind_none, Option.toList_some, Option.toList_none, List.cons_append, List.nil_append, if_true, if_false, ite_true, ite_false, bd_ite, eq_self, not_true_eq_false, not_false_eq_true, true_or, or_true, or_self, k1_i, k1_j, k1_a, k1_n]
theorem lw_11 (hz : zIv M) (hi : i + 6 ≤ L) (hL : L ≤ 3072) : ∃ M', ip_go (d + 61) mlaw 592 [some (.ref 0), some (.ref 2), some (.ref 256), some (.int (nI i))] [] (ip_hm L xs M) = ip_go (d + 61) mlaw 1189 [some (.ref 0), some (.ref 2), some (.ref 256), some (.int (nI i))] [] (ip_hm L xs M') ∧ zIv M' := by
  obtain ⟨v, M1, M2, h1, h2, h3⟩ := (show zPJ (d + 60) L xs mC_result mR_result [.int (xs (i + 1))] M from pp_result hz)
  refine ⟨M2, ?_, h3⟩
  simp (disch := first | assumption | omega) only [e146_592, e146_593, e146_594, e146_595, e146_596, e146_597, e146_598, e146_601, e146_602, e146_603, e146_604, e146_605, e146_606, e146_607, e146_610, e146_611, e146_614, e146_615, c2_o, c256_o, sc_r, ar3, h1, h2, cm_eqz, Option.bind_some, Option.bind_none, Option.toList_some, Option.toList_none, List.cons_append, List.nil_append, if_true, if_false, ite_true, ite_false, bd_ite, eq_self, not_true_eq_false, not_false_eq_true, true_or, or_true, or_self, k1_i, k1_j, k1_a, k1_n]
theorem lw_12 (hz : zIv M) (hi : i + 6 ≤ L) (hL : L ≤ 3072) : ∃ M', ip_go (d + 61) mlaw 616 [some (.ref 0), some (.ref 2), some (.ref 256), some (.int (nI i))] [] (ip_hm L xs M) = ip_go (d + 61) mlaw 1189 [some (.ref 0), some (.ref 2), some (.ref 256), some (.int (nI i))] [] (ip_hm L xs M') ∧ zIv M' := by
  obtain ⟨v, M1, M2, h1, h2, h3⟩ := (show zPI (d + 60) L xs mC_step mR_step [.int (xs (i + 1)), .int (xs (i + 2)), .int (xs (i + 3))] M from pp_step hz)
  refine ⟨M2, ?_, h3⟩
  simp (disch := first | assumption | omega) only [e146_616, e146_617, e146_618, e146_619, e146_620, e146_621, e146_622, e146_623, e146_624, e146_625, e146_626, e146_627, e146_628, e146_629, e146_630, e146_631, e146_632, e146_635, e146_636, e146_637, e146_638, e146_639, e146_640, e146_641, e146_642, e146_643, e146_644, e146_645, e146_646, e146_647, e146_648, e146_649, e146_650, e146_651, e146_654, e146_657, e146_658, c2_o, c256_o, sc_r, ar3, h1, h2, cm_eqz, Option.bind_some, Option.bind_none, Option.toList_some, Option.toList_none, List.cons_append, List.nil_append, if_true, if_false, ite_true, ite_false, bd_ite, eq_self, not_true_eq_false, not_false_eq_true, true_or, or_true, or_self, k1_i, k1_j, k1_a, k1_n]
theorem lw_13 (hz : zIv M) (hi : i + 6 ≤ L) (hL : L ≤ 3072) : ∃ M', ip_go (d + 61) mlaw 659 [some (.ref 0), some (.ref 2), some (.ref 256), some (.int (nI i))] [] (ip_hm L xs M) = ip_go (d + 61) mlaw 1189 [some (.ref 0), some (.ref 2), some (.ref 256), some (.int (nI i))] [] (ip_hm L xs M') ∧ zIv M' := by
  obtain ⟨v, M1, M2, h1, h2, h3⟩ := (show zPJ (d + 60) L xs mC_value mR_value [.int (xs (i + 1)), .int (xs (i + 2))] M from pp_value hz)
  refine ⟨M2, ?_, h3⟩
  simp (disch := first | assumption | omega) only [e146_659, e146_660, e146_661, e146_662, e146_663, e146_664, e146_665, e146_666, e146_667, e146_668, e146_669, e146_670, e146_673, e146_674, e146_675, e146_676, e146_677, e146_678, e146_679, e146_680, e146_681, e146_682, e146_683, e146_684, e146_687, e146_688, e146_691, e146_692, c2_o, c256_o, sc_r, ar3, h1, h2, cm_eqz, Option.bind_some, Option.bind_none, Option.toList_some, Option.toList_none, List.cons_append, List.nil_append, if_true, if_false, ite_true, ite_false, bd_ite, eq_self, not_true_eq_false, not_false_eq_true, true_or, or_true, or_self, k1_i, k1_j, k1_a, k1_n]
theorem lw_14 (hz : zIv M) (hi : i + 6 ≤ L) (hL : L ≤ 3072) : ∃ M', ip_go (d + 61) mlaw 693 [some (.ref 0), some (.ref 2), some (.ref 256), some (.int (nI i))] [] (ip_hm L xs M) = ip_go (d + 61) mlaw 1189 [some (.ref 0), some (.ref 2), some (.ref 256), some (.int (nI i))] [] (ip_hm L xs M') ∧ zIv M' := by
  obtain ⟨v, M1, M2, h1, h2, h3⟩ := (show zPI (d + 60) L xs mC_search mR_search [.int (xs (i + 1)), .int (xs (i + 2)), .int (xs (i + 3))] M from pp_search hz)
  refine ⟨M2, ?_, h3⟩
  simp (disch := first | assumption | omega) only [e146_693, e146_694, e146_695, e146_696, e146_697, e146_698, e146_699, e146_700, e146_701, e146_702, e146_703, e146_704, e146_705, e146_706, e146_707, e146_708, e146_709, e146_712, e146_713, e146_714, e146_715, e146_716, e146_717, e146_718, e146_719, e146_720, e146_721, e146_722, e146_723, e146_724, e146_725, e146_726, e146_727, e146_728, e146_731, e146_734, e146_735, c2_o, c256_o, sc_r, ar3, h1, h2, cm_eqz, Option.bind_some, Option.bind_none, Option.toList_some, Option.toList_none, List.cons_append, List.nil_append, if_true, if_false, ite_true, ite_false, bd_ite, eq_self, not_true_eq_false, not_false_eq_true, true_or, or_true, or_self, k1_i, k1_j, k1_a, k1_n]
theorem lw_15 (hz : zIv M) (hi : i + 6 ≤ L) (hL : L ≤ 3072) : ∃ M', ip_go (d + 61) mlaw 736 [some (.ref 0), some (.ref 2), some (.ref 256), some (.int (nI i))] [] (ip_hm L xs M) = ip_go (d + 61) mlaw 1189 [some (.ref 0), some (.ref 2), some (.ref 256), some (.int (nI i))] [] (ip_hm L xs M') ∧ zIv M' := by
  by_cases hb : xs (i + 4) = 0
  · obtain ⟨v, M1, M2, h1, h2, h3⟩ := (show zPI (d + 60) L xs mC_flame mR_flame [.int (xs (i + 1)), .int (xs (i + 2)), .int (xs (i + 3)), .int 0] M from pp_flame (Or.inl rfl) hz)
    refine ⟨M2, ?_, h3⟩
    simp (disch := first | assumption | omega) only [e146_736, e146_737, e146_738, e146_739, e146_740, e146_741, e146_742, e146_743, e146_744, e146_745, e146_746, e146_747, e146_748, e146_749, e146_750, e146_751, e146_752, e146_753, e146_754, e146_755, e146_756, e146_757, e146_760, e146_761, e146_764, e146_765, e146_768, e146_769, e146_770, e146_771, e146_772, e146_773, e146_774, e146_775, e146_776, e146_777, e146_778, e146_779, e146_780, e146_781, e146_782, e146_783, e146_784, e146_785, e146_786, e146_787, e146_788, e146_789, e146_792, e146_793, e146_796, e146_797, e146_800, e146_803, e146_804, c2_o, c256_o, sc_r, ar3, h1, h2, cm_eqz, hb, Option.bind_some, Option.bind_none, Option.toList_some, Option.toList_none, List.cons_append, List.nil_append, if_true, if_false, ite_true, ite_false, bd_ite, eq_self, not_true_eq_false, not_false_eq_true, true_or, or_true, or_self, k1_i, k1_j, k1_a, k1_n]
  · obtain ⟨v, M1, M2, h1, h2, h3⟩ := (show zPI (d + 60) L xs mC_flame mR_flame [.int (xs (i + 1)), .int (xs (i + 2)), .int (xs (i + 3)), .int 1] M from pp_flame (Or.inr rfl) hz)
    refine ⟨M2, ?_, h3⟩
    simp (disch := first | assumption | omega) only [e146_736, e146_737, e146_738, e146_739, e146_740, e146_741, e146_742, e146_743, e146_744, e146_745, e146_746, e146_747, e146_748, e146_749, e146_750, e146_751, e146_752, e146_753, e146_754, e146_755, e146_756, e146_757, e146_760, e146_761, e146_764, e146_765, e146_768, e146_769, e146_770, e146_771, e146_772, e146_773, e146_774, e146_775, e146_776, e146_777, e146_778, e146_779, e146_780, e146_781, e146_782, e146_783, e146_784, e146_785, e146_786, e146_787, e146_788, e146_789, e146_792, e146_793, e146_796, e146_797, e146_800, e146_803, e146_804, c2_o, c256_o, sc_r, ar3, h1, h2, cm_eqz, hb, Option.bind_some, Option.bind_none, Option.toList_some, Option.toList_none, List.cons_append, List.nil_append, if_true, if_false, ite_true, ite_false, bd_ite, eq_self, not_true_eq_false, not_false_eq_true, true_or, or_true, or_self, k1_i, k1_j, k1_a, k1_n]
theorem lw_16 (hz : zIv M) (hi : i + 6 ≤ L) (hL : L ≤ 3072) : ∃ M', ip_go (d + 61) mlaw 805 [some (.ref 0), some (.ref 2), some (.ref 256), some (.int (nI i))] [] (ip_hm L xs M) = ip_go (d + 61) mlaw 1189 [some (.ref 0), some (.ref 2), some (.ref 256), some (.int (nI i))] [] (ip_hm L xs M') ∧ zIv M' := by
  obtain ⟨v, M1, M2, h1, h2, h3⟩ := (show zPI (d + 60) L xs mC_touch mR_touch [.int (xs (i + 1)), .int (xs (i + 2)), .int (xs (i + 3))] M from pp_touch hz)
  refine ⟨M2, ?_, h3⟩
  simp (disch := first | assumption | omega) only [e146_805, e146_806, e146_807, e146_808, e146_809, e146_810, e146_811, e146_812, e146_813, e146_814, e146_815, e146_816, e146_817, e146_818, e146_819, e146_820, e146_821, e146_824, e146_825, e146_826, e146_827, e146_828, e146_829, e146_830, e146_831, e146_832, e146_833, e146_834, e146_835, e146_836, e146_837, e146_838, e146_839, e146_840, e146_843, e146_846, e146_847, c2_o, c256_o, sc_r, ar3, h1, h2, cm_eqz, Option.bind_some, Option.bind_none, Option.toList_some, Option.toList_none, List.cons_append, List.nil_append, if_true, if_false, ite_true, ite_false, bd_ite, eq_self, not_true_eq_false, not_false_eq_true, true_or, or_true, or_self, k1_i, k1_j, k1_a, k1_n]
theorem lw_17 (hz : zIv M) (hi : i + 6 ≤ L) (hL : L ≤ 3072) : ∃ M', ip_go (d + 61) mlaw 848 [some (.ref 0), some (.ref 2), some (.ref 256), some (.int (nI i))] [] (ip_hm L xs M) = ip_go (d + 61) mlaw 1189 [some (.ref 0), some (.ref 2), some (.ref 256), some (.int (nI i))] [] (ip_hm L xs M') ∧ zIv M' := by
  by_cases hb : xs (i + 3) = 0
  · obtain ⟨v, M1, M2, h1, h2, h3⟩ := (show zPJ (d + 60) L xs mC_flow mR_flow [.int (xs (i + 1)), .int (xs (i + 2)), .int 0] M from pp_flow (Or.inl rfl) hz)
    refine ⟨M2, ?_, h3⟩
    simp (disch := first | assumption | omega) only [e146_848, e146_849, e146_850, e146_851, e146_852, e146_853, e146_854, e146_855, e146_856, e146_857, e146_858, e146_859, e146_860, e146_861, e146_862, e146_863, e146_864, e146_867, e146_868, e146_871, e146_872, e146_875, e146_876, e146_877, e146_878, e146_879, e146_880, e146_881, e146_882, e146_883, e146_884, e146_885, e146_886, e146_887, e146_888, e146_889, e146_890, e146_891, e146_894, e146_895, e146_898, e146_899, e146_902, e146_903, e146_906, e146_907, c2_o, c256_o, sc_r, ar3, h1, h2, cm_eqz, hb, Option.bind_some, Option.bind_none, Option.toList_some, Option.toList_none, List.cons_append, List.nil_append, if_true, if_false, ite_true, ite_false, bd_ite, eq_self, not_true_eq_false, not_false_eq_true, true_or, or_true, or_self, k1_i, k1_j, k1_a, k1_n]
  · obtain ⟨v, M1, M2, h1, h2, h3⟩ := (show zPJ (d + 60) L xs mC_flow mR_flow [.int (xs (i + 1)), .int (xs (i + 2)), .int 1] M from pp_flow (Or.inr rfl) hz)
    refine ⟨M2, ?_, h3⟩
    simp (disch := first | assumption | omega) only [e146_848, e146_849, e146_850, e146_851, e146_852, e146_853, e146_854, e146_855, e146_856, e146_857, e146_858, e146_859, e146_860, e146_861, e146_862, e146_863, e146_864, e146_867, e146_868, e146_871, e146_872, e146_875, e146_876, e146_877, e146_878, e146_879, e146_880, e146_881, e146_882, e146_883, e146_884, e146_885, e146_886, e146_887, e146_888, e146_889, e146_890, e146_891, e146_894, e146_895, e146_898, e146_899, e146_902, e146_903, e146_906, e146_907, c2_o, c256_o, sc_r, ar3, h1, h2, cm_eqz, hb, Option.bind_some, Option.bind_none, Option.toList_some, Option.toList_none, List.cons_append, List.nil_append, if_true, if_false, ite_true, ite_false, bd_ite, eq_self, not_true_eq_false, not_false_eq_true, true_or, or_true, or_self, k1_i, k1_j, k1_a, k1_n]
theorem lw_18 (hz : zIv M) (hi : i + 6 ≤ L) (hL : L ≤ 3072) : ∃ M', ip_go (d + 61) mlaw 908 [some (.ref 0), some (.ref 2), some (.ref 256), some (.int (nI i))] [] (ip_hm L xs M) = ip_go (d + 61) mlaw 1189 [some (.ref 0), some (.ref 2), some (.ref 256), some (.int (nI i))] [] (ip_hm L xs M') ∧ zIv M' := by
  obtain ⟨v, M1, M2, h1, h2, h3⟩ := (show zPJ (d + 60) L xs mC_tell mR_tell [.int (xs (i + 1)), .int (xs (i + 2)), .int (xs (i + 3)), .int (xs (i + 4))] M from pp_tell hz)
  refine ⟨M2, ?_, h3⟩
  simp (disch := first | assumption | omega) only [e146_908, e146_909, e146_910, e146_911, e146_912, e146_913, e146_914, e146_915, e146_916, e146_917, e146_918, e146_919, e146_920, e146_921, e146_922, e146_923, e146_924, e146_925, e146_926, e146_927, e146_928, e146_929, e146_932, e146_933, e146_934, e146_935, e146_936, e146_937, e146_938, e146_939, e146_940, e146_941, e146_942, e146_943, e146_944, e146_945, e146_946, e146_947, e146_948, e146_949, e146_950, e146_951, e146_952, e146_953, e146_956, e146_957, e146_960, e146_961, c2_o, c256_o, sc_r, ar3, h1, h2, cm_eqz, Option.bind_some, Option.bind_none, Option.toList_some, Option.toList_none, List.cons_append, List.nil_append, if_true, if_false, ite_true, ite_false, bd_ite, eq_self, not_true_eq_false, not_false_eq_true, true_or, or_true, or_self, k1_i, k1_j, k1_a, k1_n]
theorem lw_19 (hz : zIv M) (hi : i + 6 ≤ L) (hL : L ≤ 3072) : ∃ M', ip_go (d + 61) mlaw 962 [some (.ref 0), some (.ref 2), some (.ref 256), some (.int (nI i))] [] (ip_hm L xs M) = ip_go (d + 61) mlaw 1189 [some (.ref 0), some (.ref 2), some (.ref 256), some (.int (nI i))] [] (ip_hm L xs M') ∧ zIv M' := by
  obtain ⟨v, M1, M2, h1, h2, h3⟩ := (show zPJ (d + 60) L xs mC_told mR_told [.int (xs (i + 1)), .int (xs (i + 2))] M from pp_told hz)
  refine ⟨M2, ?_, h3⟩
  simp (disch := first | assumption | omega) only [e146_962, e146_963, e146_964, e146_965, e146_966, e146_967, e146_968, e146_969, e146_970, e146_971, e146_972, e146_973, e146_976, e146_977, e146_978, e146_979, e146_980, e146_981, e146_982, e146_983, e146_984, e146_985, e146_986, e146_987, e146_990, e146_991, e146_994, e146_995, c2_o, c256_o, sc_r, ar3, h1, h2, cm_eqz, Option.bind_some, Option.bind_none, Option.toList_some, Option.toList_none, List.cons_append, List.nil_append, if_true, if_false, ite_true, ite_false, bd_ite, eq_self, not_true_eq_false, not_false_eq_true, true_or, or_true, or_self, k1_i, k1_j, k1_a, k1_n]
theorem lw_20 (hz : zIv M) (hi : i + 6 ≤ L) (hL : L ≤ 3072) : ∃ M', ip_go (d + 61) mlaw 996 [some (.ref 0), some (.ref 2), some (.ref 256), some (.int (nI i))] [] (ip_hm L xs M) = ip_go (d + 61) mlaw 1189 [some (.ref 0), some (.ref 2), some (.ref 256), some (.int (nI i))] [] (ip_hm L xs M') ∧ zIv M' := by
  obtain ⟨v, M1, M2, h1, h2, h3⟩ := (show zPJ (d + 60) L xs mC_back mR_back [.int (xs (i + 1)), .int (xs (i + 2))] M from pp_back hz)
  refine ⟨M2, ?_, h3⟩
  simp (disch := first | assumption | omega) only [e146_996, e146_997, e146_998, e146_999, e146_1000, e146_1001, e146_1002, e146_1003, e146_1004, e146_1005, e146_1006, e146_1007, e146_1010, e146_1011, e146_1012, e146_1013, e146_1014, e146_1015, e146_1016, e146_1017, e146_1018, e146_1019, e146_1020, e146_1021, e146_1024, e146_1025, e146_1028, e146_1029, c2_o, c256_o, sc_r, ar3, h1, h2, cm_eqz, Option.bind_some, Option.bind_none, Option.toList_some, Option.toList_none, List.cons_append, List.nil_append, if_true, if_false, ite_true, ite_false, bd_ite, eq_self, not_true_eq_false, not_false_eq_true, true_or, or_true, or_self, k1_i, k1_j, k1_a, k1_n]
theorem lw_21 (hz : zIv M) (hi : i + 6 ≤ L) (hL : L ≤ 3072) : ∃ M', ip_go (d + 61) mlaw 1030 [some (.ref 0), some (.ref 2), some (.ref 256), some (.int (nI i))] [] (ip_hm L xs M) = ip_go (d + 61) mlaw 1189 [some (.ref 0), some (.ref 2), some (.ref 256), some (.int (nI i))] [] (ip_hm L xs M') ∧ zIv M' := by
  obtain ⟨v, M1, M2, h1, h2, h3⟩ := (show zPJ (d + 60) L xs mC_state mR_state [] M from pp_state hz)
  refine ⟨M2, ?_, h3⟩
  simp (disch := first | assumption | omega) only [e146_1030, e146_1031, e146_1034, e146_1035, e146_1038, e146_1039, e146_1042, e146_1043, c2_o, c256_o, sc_r, ar3, h1, h2, cm_eqz, Option.bind_some, Option.bind_none, Option.toList_some, Option.toList_none, List.cons_append, List.nil_append, if_true, if_false, ite_true, ite_false, bd_ite, eq_self, not_true_eq_false, not_false_eq_true, true_or, or_true, or_self, k1_i, k1_j, k1_a, k1_n]
theorem lw_22 (hz : zIv M) (hi : i + 6 ≤ L) (hL : L ≤ 3072) : ∃ M', ip_go (d + 61) mlaw 1044 [some (.ref 0), some (.ref 2), some (.ref 256), some (.int (nI i))] [] (ip_hm L xs M) = ip_go (d + 61) mlaw 1189 [some (.ref 0), some (.ref 2), some (.ref 256), some (.int (nI i))] [] (ip_hm L xs M') ∧ zIv M' := by
  obtain ⟨v, M1, M2, h1, h2, h3⟩ := (show zPI (d + 60) L xs mC_compare mR_compare [.int (xs (i + 1)), .int (xs (i + 2))] M from pp_compare hz)
  refine ⟨M2, ?_, h3⟩
  simp (disch := first | assumption | omega) only [e146_1044, e146_1045, e146_1046, e146_1047, e146_1048, e146_1049, e146_1050, e146_1051, e146_1052, e146_1053, e146_1054, e146_1055, e146_1058, e146_1059, e146_1060, e146_1061, e146_1062, e146_1063, e146_1064, e146_1065, e146_1066, e146_1067, e146_1068, e146_1069, e146_1072, e146_1075, e146_1076, c2_o, c256_o, sc_r, ar3, h1, h2, cm_eqz, Option.bind_some, Option.bind_none, Option.toList_some, Option.toList_none, List.cons_append, List.nil_append, if_true, if_false, ite_true, ite_false, bd_ite, eq_self, not_true_eq_false, not_false_eq_true, true_or, or_true, or_self, k1_i, k1_j, k1_a, k1_n]
theorem lw_23 (hz : zIv M) (hi : i + 6 ≤ L) (hL : L ≤ 3072) : ∃ M', ip_go (d + 61) mlaw 1077 [some (.ref 0), some (.ref 2), some (.ref 256), some (.int (nI i))] [] (ip_hm L xs M) = ip_go (d + 61) mlaw 1189 [some (.ref 0), some (.ref 2), some (.ref 256), some (.int (nI i))] [] (ip_hm L xs M') ∧ zIv M' := by
  obtain ⟨v, M1, M2, h1, h2, h3⟩ := (show zPI (d + 60) L xs mC_halves mR_halves [.int (xs (i + 1)), .int (xs (i + 2))] M from pp_halves hz)
  refine ⟨M2, ?_, h3⟩
  simp (disch := first | assumption | omega) only [e146_1077, e146_1078, e146_1079, e146_1080, e146_1081, e146_1082, e146_1083, e146_1084, e146_1085, e146_1086, e146_1087, e146_1088, e146_1091, e146_1092, e146_1093, e146_1094, e146_1095, e146_1096, e146_1097, e146_1098, e146_1099, e146_1100, e146_1101, e146_1102, e146_1105, e146_1108, e146_1109, c2_o, c256_o, sc_r, ar3, h1, h2, cm_eqz, Option.bind_some, Option.bind_none, Option.toList_some, Option.toList_none, List.cons_append, List.nil_append, if_true, if_false, ite_true, ite_false, bd_ite, eq_self, not_true_eq_false, not_false_eq_true, true_or, or_true, or_self, k1_i, k1_j, k1_a, k1_n]
theorem lw_24 (hz : zIv M) (hi : i + 6 ≤ L) (hL : L ≤ 3072) : ∃ M', ip_go (d + 61) mlaw 1110 [some (.ref 0), some (.ref 2), some (.ref 256), some (.int (nI i))] [] (ip_hm L xs M) = ip_go (d + 61) mlaw 1189 [some (.ref 0), some (.ref 2), some (.ref 256), some (.int (nI i))] [] (ip_hm L xs M') ∧ zIv M' := by
  obtain ⟨v, M1, M2, h1, h2, h3⟩ := (show zPI (d + 60) L xs mC_write mR_write [.int (xs (i + 1)), .int (xs (i + 2))] M from pp_write hz)
  refine ⟨M2, ?_, h3⟩
  simp (disch := first | assumption | omega) only [e146_1110, e146_1111, e146_1112, e146_1113, e146_1114, e146_1115, e146_1116, e146_1117, e146_1118, e146_1119, e146_1120, e146_1121, e146_1124, e146_1125, e146_1126, e146_1127, e146_1128, e146_1129, e146_1130, e146_1131, e146_1132, e146_1133, e146_1134, e146_1135, e146_1138, e146_1141, e146_1142, c2_o, c256_o, sc_r, ar3, h1, h2, cm_eqz, Option.bind_some, Option.bind_none, Option.toList_some, Option.toList_none, List.cons_append, List.nil_append, if_true, if_false, ite_true, ite_false, bd_ite, eq_self, not_true_eq_false, not_false_eq_true, true_or, or_true, or_self, k1_i, k1_j, k1_a, k1_n]
theorem lw_25 (hz : zIv M) (hi : i + 6 ≤ L) (hL : L ≤ 3072) : ∃ M', ip_go (d + 61) mlaw 1143 [some (.ref 0), some (.ref 2), some (.ref 256), some (.int (nI i))] [] (ip_hm L xs M) = ip_go (d + 61) mlaw 1189 [some (.ref 0), some (.ref 2), some (.ref 256), some (.int (nI i))] [] (ip_hm L xs M') ∧ zIv M' := by
  obtain ⟨v, M1, M2, h1, h2, h3⟩ := (show zPI (d + 60) L xs mC_out mR_out [.int (xs (i + 1))] M from pp_out hz)
  refine ⟨M2, ?_, h3⟩
  simp (disch := first | assumption | omega) only [e146_1143, e146_1144, e146_1145, e146_1146, e146_1147, e146_1148, e146_1149, e146_1152, e146_1153, e146_1154, e146_1155, e146_1156, e146_1157, e146_1158, e146_1161, e146_1164, e146_1165, c2_o, c256_o, sc_r, ar3, h1, h2, cm_eqz, Option.bind_some, Option.bind_none, Option.toList_some, Option.toList_none, List.cons_append, List.nil_append, if_true, if_false, ite_true, ite_false, bd_ite, eq_self, not_true_eq_false, not_false_eq_true, true_or, or_true, or_self, k1_i, k1_j, k1_a, k1_n]
theorem lw_26 (hz : zIv M) (hi : i + 6 ≤ L) (hL : L ≤ 3072) : ∃ M', ip_go (d + 61) mlaw 1166 [some (.ref 0), some (.ref 2), some (.ref 256), some (.int (nI i))] [] (ip_hm L xs M) = ip_go (d + 61) mlaw 1189 [some (.ref 0), some (.ref 2), some (.ref 256), some (.int (nI i))] [] (ip_hm L xs M') ∧ zIv M' := by
  obtain ⟨v, M1, M2, h1, h2, h3⟩ := (show zPI (d + 60) L xs mC_count mR_count [.int (xs (i + 1))] M from pp_count hz)
  refine ⟨M2, ?_, h3⟩
  simp (disch := first | assumption | omega) only [e146_1166, e146_1167, e146_1168, e146_1169, e146_1170, e146_1171, e146_1172, e146_1175, e146_1176, e146_1177, e146_1178, e146_1179, e146_1180, e146_1181, e146_1184, e146_1187, e146_1188, c2_o, c256_o, sc_r, ar3, h1, h2, cm_eqz, Option.bind_some, Option.bind_none, Option.toList_some, Option.toList_none, List.cons_append, List.nil_append, if_true, if_false, ite_true, ite_false, bd_ite, eq_self, not_true_eq_false, not_false_eq_true, true_or, or_true, or_self, k1_i, k1_j, k1_a, k1_n]
theorem lp_law (hL : L ≤ 3072) : ∀ (k i : Nat) (M : ip_Mm), L ≤ i + 6 * k → i ≤ L + 6 → zIv M → ∃ M', ip_go (d + 61) mlaw 18 [some (.ref 0), some (.ref 2), some (.ref 256), some (.int (nI i))] [] (ip_hm L xs M) = some (some (.int 1), ip_hm L xs M') := by
  intro k
  have ex : ∀ (i : Nat) (M : ip_Mm), ¬ i + 6 ≤ L → i ≤ L + 6 → ip_go (d + 61) mlaw 18 [some (.ref 0), some (.ref 2), some (.ref 256), some (.int (nI i))] [] (ip_hm L xs M) = some (some (.int 1), ip_hm L xs M) := by
    intro i M h1 h2
    have cc : Int32.ofNat L - 6 < nI i := by
      rw [Int32.lt_iff_toInt_lt, nI_toInt (by omega)]
      have := pk_sub_toInt (a := L) (b := 6) (by omega) (by decide)
      have e : (Int32.ofNat L - 6).toInt = (L : Int) - 6 := this
      omega
    rw [e146_18]
    simp (disch := first | assumption | omega) only [e146_19, e146_20, e146_21, e146_23, e146_24, e146_1195, e146_1196, sc_l, cc, Option.bind_some, Option.bind_none, Option.toList_some, Option.toList_none, List.cons_append, List.nil_append, if_true, if_false, ite_true, ite_false, bd_ite, eq_self, not_true_eq_false, not_false_eq_true, true_or, or_true, or_self, k1_i, k1_j, k1_a, k1_n]
  induction k with
  | zero =>
    intro i M h1 h2 hz
    exact ⟨M, ex i M (by omega) h2⟩
  | succ k ih =>
    intro i M h1 h2 hz
    by_cases hi : i + 6 ≤ L
    · have cc : ¬ Int32.ofNat L - 6 < nI i := by
        rw [Int32.lt_iff_toInt_lt, nI_toInt (by omega)]
        have := pk_sub_toInt (a := L) (b := 6) (by omega) (by decide)
        have e : (Int32.ofNat L - 6).toInt = (L : Int) - 6 := this
        omega
      have st : ip_go (d + 61) mlaw 18 [some (.ref 0), some (.ref 2), some (.ref 256), some (.int (nI i))] [] (ip_hm L xs M) = ip_go (d + 61) mlaw (ip_sw 0 26 [156, 169, 252, 265, 308, 341, 405, 439, 463, 546, 559, 592, 616, 659, 693, 736, 805, 848, 908, 962, 996, 1030, 1044, 1077, 1110, 1143, 1166] 1189 (xs i &&& 31)) [some (.ref 0), some (.ref 2), some (.ref 256), some (.int (nI i))] [] (ip_hm L xs M) := by
        rw [e146_18]
        simp (disch := first | assumption | omega) only [e146_19, e146_20, e146_21, e146_23, e146_24, e146_27, e146_28, e146_29, e146_30, e146_32, e146_33, sc_l, sc_r, cc, Option.bind_some, Option.bind_none, Option.toList_some, Option.toList_none, List.cons_append, List.nil_append, if_true, if_false, ite_true, ite_false, bd_ite, eq_self, not_true_eq_false, not_false_eq_true, true_or, or_true, or_self, k1_i, k1_j, k1_a, k1_n]
      obtain ⟨j, hj, ej⟩ := pk_andE (xs i) (m := 31) 5 (by decide)
      have key : ∃ M', ip_go (d + 61) mlaw (ip_sw 0 26 [156, 169, 252, 265, 308, 341, 405, 439, 463, 546, 559, 592, 616, 659, 693, 736, 805, 848, 908, 962, 996, 1030, 1044, 1077, 1110, 1143, 1166] 1189 (xs i &&& 31)) [some (.ref 0), some (.ref 2), some (.ref 256), some (.int (nI i))] [] (ip_hm L xs M) = ip_go (d + 61) mlaw 1189 [some (.ref 0), some (.ref 2), some (.ref 256), some (.int (nI i))] [] (ip_hm L xs M') ∧ zIv M' := by
        rw [ej]
        by_cases h27 : j < 27
        · rw [sw_n (k := 27) (by decide) (by decide) h27]
          rcases (show j = 0 ∨ j = 1 ∨ j = 2 ∨ j = 3 ∨ j = 4 ∨ j = 5 ∨ j = 6 ∨ j = 7 ∨ j = 8 ∨ j = 9 ∨ j = 10 ∨ j = 11 ∨ j = 12 ∨ j = 13 ∨ j = 14 ∨ j = 15 ∨ j = 16 ∨ j = 17 ∨ j = 18 ∨ j = 19 ∨ j = 20 ∨ j = 21 ∨ j = 22 ∨ j = 23 ∨ j = 24 ∨ j = 25 ∨ j = 26 by omega) with rfl | rfl | rfl | rfl | rfl | rfl | rfl | rfl | rfl | rfl | rfl | rfl | rfl | rfl | rfl | rfl | rfl | rfl | rfl | rfl | rfl | rfl | rfl | rfl | rfl | rfl | rfl
          · exact lw_0 hz hi hL
          · exact lw_1 hz hi hL
          · exact lw_2 hz hi hL
          · exact lw_3 hz hi hL
          · exact lw_4 hz hi hL
          · exact lw_5 hz hi hL
          · exact lw_6 hz hi hL
          · exact lw_7 hz hi hL
          · exact lw_8 hz hi hL
          · exact lw_9 hz hi hL
          · exact lw_10 hz hi hL
          · exact lw_11 hz hi hL
          · exact lw_12 hz hi hL
          · exact lw_13 hz hi hL
          · exact lw_14 hz hi hL
          · exact lw_15 hz hi hL
          · exact lw_16 hz hi hL
          · exact lw_17 hz hi hL
          · exact lw_18 hz hi hL
          · exact lw_19 hz hi hL
          · exact lw_20 hz hi hL
          · exact lw_21 hz hi hL
          · exact lw_22 hz hi hL
          · exact lw_23 hz hi hL
          · exact lw_24 hz hi hL
          · exact lw_25 hz hi hL
          · exact lw_26 hz hi hL
        · rw [sw_d (k := 27) (by decide) (by decide) (fun ⟨q, q1, q2⟩ => h27 (by
            have := (nI_eq (show j < 2 ^ 31 by omega) (show q < 2 ^ 31 by omega)).mp q2
            omega))]
          exact ⟨M, rfl, hz⟩
      obtain ⟨M1, e1, hz1⟩ := key
      obtain ⟨M2, e2⟩ := ih (i + 6) M1 (by omega) (by omega) hz1
      refine ⟨M2, ?_⟩
      rw [st, e1]
      simp (disch := first | assumption | omega) only [e146_1189, e146_1192, ar3, Option.bind_some, Option.bind_none, Option.toList_some, Option.toList_none, List.cons_append, List.nil_append, if_true, if_false, ite_true, ite_false, bd_ite, eq_self, not_true_eq_false, not_false_eq_true, true_or, or_true, or_self, k1_i, k1_j, k1_a, k1_n]
      exact e2
    · exact ⟨M, ex i M hi h2⟩
end S17
