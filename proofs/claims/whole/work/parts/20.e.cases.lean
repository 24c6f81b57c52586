/-! The law's cases: one call on both sides, and the same answer. -/
section RLC
variable {κ : rg_K} {adM : Nat → Nat} {co : ClassId × ClassId} {Γ : rg_C} {o od b L i : Nat} {xs : Nat → Int32} {cells slots : Nat} {σ τ : rg_S} {f : Nat → Int64} {g : Nat → UInt64} {nb nr nd ns : Nat}
theorem c_boat (F : rg_FG κ adM co Γ rg_tC rg_tM o od b L xs) (hcs : cells + 1 ≤ 1122 ∧ slots + 6 ≤ 42737) (hi : i + 4 < L) (h : rg_Z σ τ nb nr nd ns) (kk : rg_kn κ adM co Γ o od b i (cells + 1) (slots + 6) 1751) : rg_J κ Γ 9 cells slots 160 (rg_lv κ adM o od b i) [] (rg_gw κ adM rg_tC rg_tM co σ τ o f od g) := by
  obtain ⟨K, V, σ9, τ9, nb9, nr9, nd9, ns9, hK, hH, hM, hT, hZ, hV⟩ := s_boat κ (rg_kk κ adM) co h 
  refine rg_Jaload_n F.1 4 1 rfl dC_160 rfl ?_
  refine rg_Jaload_n F.1 2 3 rfl dC_161 rfl ?_
  refine rg_LhL F hcs [.ref (κ.2.2.2 0)] [] hH k_cw_yL_boat k_in_L k_st_yL_boat k_ml_L_104 ⟨by decide +kernel, by decide +kernel, (by decide +kernel : (parseMethodDescriptor yL_boat.desc).map (fun d => d.parameters.length) = some 2)⟩ (by decide) rfl (Nat.le_of_ble_eq_true rfl) dC_162 (fun f9 hf => ?_)
  refine rg_Jistore F.1 ((6, .int (rg_I K)) :: rg_lv κ adM o od b i) dC_165 (by decide) rfl ?_
  refine rg_Jaload_n F.1 4 2 rfl dC_167 rfl ?_
  refine rg_LmI F hcs [] [] 0 hM tM0 cX10 v_X10_boat i_X10_boat k_ml_L_109 (by decide) rfl (Nat.le_of_ble_eq_true rfl) dC_168 (fun r t9 hp => ?_)
  obtain ⟨rfl, hr⟩ := hp
  refine rg_Jistore F.1 ((7, .int (rg_I r)) :: (6, .int (rg_I K)) :: rg_lv κ adM o od b i) dC_171 (by decide) rfl ?_
  exact rg_LtI F hcs hT hK hf hr ⟨dC_173, dC_174, dC_177, dC_179⟩ ⟨dC_184, dC_186, dC_189, dC_190, dC_191, dC_192, dC_194, dC_195, dC_196, dC_201⟩ rfl hZ kk
theorem c_race (F : rg_FG κ adM co Γ rg_tC rg_tM o od b L xs) (hcs : cells + 1 ≤ 1122 ∧ slots + 6 ≤ 42737) (hi : i + 4 < L) (h : rg_Z σ τ nb nr nd ns) (kk : rg_kn κ adM co Γ o od b i (cells + 1) (slots + 6) 1751) : rg_J κ Γ 9 cells slots 204 (rg_lv κ adM o od b i) [] (rg_gw κ adM rg_tC rg_tM co σ τ o f od g) := by
  obtain ⟨K, V, σ9, τ9, nb9, nr9, nd9, ns9, hK, hH, hM, hT, hZ, hV⟩ := s_race κ (rg_kk κ adM) co h (rg_toInt_Rg (xs (i + 1))) (rg_toInt_Rg (xs (i + 2)))
  refine rg_Jaload_n F.1 4 1 rfl dC_204 rfl ?_
  refine rg_Larg F 5 0 1 (by omega) rfl rfl ⟨dC_205, dC_206, dC_208, dC_209, dC_210⟩ ?_
  refine rg_Larg F 5 0 2 (by omega) rfl rfl ⟨dC_211, dC_212, dC_214, dC_215, dC_216⟩ ?_
  refine rg_Jaload_n F.1 2 3 rfl dC_217 rfl ?_
  refine rg_LhL F hcs [.ref (κ.2.2.2 0), .int (rg_I (xs (i + 1)).toInt), .int (rg_I (xs (i + 2)).toInt)] [] hH k_cw_yL_race k_in_L k_st_yL_race k_ml_L_113 ⟨by decide +kernel, by decide +kernel, (by decide +kernel : (parseMethodDescriptor yL_race.desc).map (fun d => d.parameters.length) = some 4)⟩ (by decide) rfl (Nat.le_of_ble_eq_true rfl) dC_218 (fun f9 hf => ?_)
  refine rg_Jistore F.1 ((6, .int (rg_I K)) :: rg_lv κ adM o od b i) dC_221 (by decide) rfl ?_
  refine rg_Jaload_n F.1 4 2 rfl dC_223 rfl ?_
  refine rg_Larg F 6 1 1 (by omega) rfl rfl ⟨dC_224, dC_225, dC_227, dC_228, dC_229⟩ ?_
  refine rg_Larg F 6 1 2 (by omega) rfl rfl ⟨dC_230, dC_231, dC_233, dC_234, dC_235⟩ ?_
  refine rg_LmI F hcs [.int (rg_I (xs (i + 1)).toInt), .int (rg_I (xs (i + 2)).toInt)] [] 0 hM tM0 cX10 v_X10_race i_X10_race k_ml_L_116 (by decide) rfl (Nat.le_of_ble_eq_true rfl) dC_236 (fun r t9 hp => ?_)
  obtain ⟨rfl, hr⟩ := hp
  refine rg_Jistore F.1 ((7, .int (rg_I r)) :: (6, .int (rg_I K)) :: rg_lv κ adM o od b i) dC_239 (by decide) rfl ?_
  exact rg_LtI F hcs hT hK hf hr ⟨dC_241, dC_242, dC_245, dC_247⟩ ⟨dC_252, dC_254, dC_257, dC_258, dC_259, dC_260, dC_262, dC_263, dC_264, dC_269⟩ rfl hZ kk
theorem c_abandon (F : rg_FG κ adM co Γ rg_tC rg_tM o od b L xs) (hcs : cells + 1 ≤ 1122 ∧ slots + 6 ≤ 42737) (hi : i + 4 < L) (h : rg_Z σ τ nb nr nd ns) (kk : rg_kn κ adM co Γ o od b i (cells + 1) (slots + 6) 1751) : rg_J κ Γ 9 cells slots 272 (rg_lv κ adM o od b i) [] (rg_gw κ adM rg_tC rg_tM co σ τ o f od g) := by
  obtain ⟨K, V, σ9, τ9, nb9, nr9, nd9, ns9, hK, hH, hM, hT, hZ, hV⟩ := s_abandon κ (rg_kk κ adM) co h (rg_toInt_Rg (xs (i + 1))) (show rg_Rg (if (xs (i + 2)).toInt = 0 then 0 else 1) by split <;> exact ⟨by omega, by omega⟩) (by split; exact Or.inl rfl; exact Or.inr rfl)
  refine rg_Jaload_n F.1 4 1 rfl dC_272 rfl ?_
  refine rg_Larg F 5 0 1 (by omega) rfl rfl ⟨dC_273, dC_274, dC_276, dC_277, dC_278⟩ ?_
  refine rg_Larg F 5 0 2 (by omega) rfl rfl ⟨dC_279, dC_280, dC_282, dC_283, dC_284⟩ ?_
  refine rg_Lbool F (rg_toInt_Rg _) ⟨dC_285, dC_288, dC_289, dC_292⟩ ?_
  refine rg_Jaload_n F.1 2 3 rfl dC_293 rfl ?_
  refine rg_LhL F hcs [.ref (κ.2.2.2 0), .int (rg_I (xs (i + 1)).toInt), .int (rg_I (if (xs (i + 2)).toInt = 0 then 0 else 1))] [] hH k_cw_yL_abandon k_in_L k_st_yL_abandon k_ml_L_117 ⟨by decide +kernel, by decide +kernel, (by decide +kernel : (parseMethodDescriptor yL_abandon.desc).map (fun d => d.parameters.length) = some 4)⟩ (by decide) rfl (Nat.le_of_ble_eq_true rfl) dC_294 (fun f9 hf => ?_)
  refine rg_Jistore F.1 ((6, .int (rg_I K)) :: rg_lv κ adM o od b i) dC_297 (by decide) rfl ?_
  refine rg_Jaload_n F.1 4 2 rfl dC_299 rfl ?_
  refine rg_Larg F 6 1 1 (by omega) rfl rfl ⟨dC_300, dC_301, dC_303, dC_304, dC_305⟩ ?_
  refine rg_Larg F 6 1 2 (by omega) rfl rfl ⟨dC_306, dC_307, dC_309, dC_310, dC_311⟩ ?_
  refine rg_Lbool F (rg_toInt_Rg _) ⟨dC_312, dC_315, dC_316, dC_319⟩ ?_
  refine rg_LmI F hcs [.int (rg_I (xs (i + 1)).toInt), .int (rg_I (if (xs (i + 2)).toInt = 0 then 0 else 1))] [] 0 hM tM0 cX10 v_X10_abandon i_X10_abandon k_ml_L_120 (by decide) rfl (Nat.le_of_ble_eq_true rfl) dC_320 (fun r t9 hp => ?_)
  obtain ⟨rfl, hr⟩ := hp
  refine rg_Jistore F.1 ((7, .int (rg_I r)) :: (6, .int (rg_I K)) :: rg_lv κ adM o od b i) dC_323 (by decide) rfl ?_
  exact rg_LtZ F hcs hT hK hf hr hV ⟨dC_325, dC_326, dC_329, dC_331⟩ ⟨dC_336, dC_338, dC_341, dC_342, dC_343, dC_344, dC_346, dC_349, dC_350, dC_353, dC_354, dC_355, dC_360⟩ rfl hZ kk
theorem c_finish (F : rg_FG κ adM co Γ rg_tC rg_tM o od b L xs) (hcs : cells + 1 ≤ 1122 ∧ slots + 6 ≤ 42737) (hi : i + 4 < L) (h : rg_Z σ τ nb nr nd ns) (kk : rg_kn κ adM co Γ o od b i (cells + 1) (slots + 6) 1751) : rg_J κ Γ 9 cells slots 363 (rg_lv κ adM o od b i) [] (rg_gw κ adM rg_tC rg_tM co σ τ o f od g) := by
  obtain ⟨K, σ9, τ9, nb9, nr9, nd9, ns9, hK, hH, hM, hT, hZ⟩ := s_finish κ (rg_kk κ adM) co h (rg_toInt_Rg (xs (i + 1))) (rg_toInt_Rg (xs (i + 2))) (rg_toInt_Rg (xs (i + 3)))
  refine rg_Jaload_n F.1 4 1 rfl dC_363 rfl ?_
  refine rg_Larg F 5 0 1 (by omega) rfl rfl ⟨dC_364, dC_365, dC_367, dC_368, dC_369⟩ ?_
  refine rg_Larg F 5 0 2 (by omega) rfl rfl ⟨dC_370, dC_371, dC_373, dC_374, dC_375⟩ ?_
  refine rg_Larg F 5 0 3 (by omega) rfl rfl ⟨dC_376, dC_377, dC_379, dC_380, dC_381⟩ ?_
  refine rg_LhV F hcs [.ref (κ.2.2.2 0), .int (rg_I (xs (i + 1)).toInt), .int (rg_I (xs (i + 2)).toInt), .int (rg_I (xs (i + 3)).toInt)] [] hH k_cw_yL_finish k_in_L k_st_yL_finish k_ml_L_121 ⟨by decide +kernel, by decide +kernel, (by decide +kernel : (parseMethodDescriptor yL_finish.desc).map (fun d => d.parameters.length) = some 4)⟩ (by decide) rfl (Nat.le_of_ble_eq_true rfl) dC_382 ?_
  refine rg_Jistore F.1 ((6, .int (rg_I K)) :: rg_lv κ adM o od b i) dC_385 (by decide) rfl ?_
  refine rg_Jaload_n F.1 4 2 rfl dC_387 rfl ?_
  refine rg_Larg F 6 1 1 (by omega) rfl rfl ⟨dC_388, dC_389, dC_391, dC_392, dC_393⟩ ?_
  refine rg_Larg F 6 1 2 (by omega) rfl rfl ⟨dC_394, dC_395, dC_397, dC_398, dC_399⟩ ?_
  refine rg_Larg F 6 1 3 (by omega) rfl rfl ⟨dC_400, dC_401, dC_403, dC_404, dC_405⟩ ?_
  refine rg_LmV F hcs [.int (rg_I (xs (i + 1)).toInt), .int (rg_I (xs (i + 2)).toInt), .int (rg_I (xs (i + 3)).toInt)] [] 0 hM tM0 cX10 v_X10_finish i_X10_finish k_ml_L_124 (by decide) rfl (Nat.le_of_ble_eq_true rfl) dC_406 (fun t9 hp => ?_)
  have hp9 : t9 = τ9 := hp
  subst hp9
  exact rg_LtV F hcs hT ⟨dC_409, dC_410, dC_413, dC_415⟩ dC_420 rfl hZ kk
theorem c_code (F : rg_FG κ adM co Γ rg_tC rg_tM o od b L xs) (hcs : cells + 1 ≤ 1122 ∧ slots + 6 ≤ 42737) (hi : i + 4 < L) (h : rg_Z σ τ nb nr nd ns) (kk : rg_kn κ adM co Γ o od b i (cells + 1) (slots + 6) 1751) : rg_J κ Γ 9 cells slots 423 (rg_lv κ adM o od b i) [] (rg_gw κ adM rg_tC rg_tM co σ τ o f od g) := by
  obtain ⟨K, σ9, τ9, nb9, nr9, nd9, ns9, hK, hH, hM, hT, hZ⟩ := s_code κ (rg_kk κ adM) co h (rg_toInt_Rg (xs (i + 1))) (rg_toInt_Rg (xs (i + 2))) (rg_toInt_Rg (xs (i + 3))) (rg_toInt_Rg (xs (i + 4)))
  refine rg_Jaload_n F.1 4 1 rfl dC_423 rfl ?_
  refine rg_Larg F 5 0 1 (by omega) rfl rfl ⟨dC_424, dC_425, dC_427, dC_428, dC_429⟩ ?_
  refine rg_Larg F 5 0 2 (by omega) rfl rfl ⟨dC_430, dC_431, dC_433, dC_434, dC_435⟩ ?_
  refine rg_Larg F 5 0 3 (by omega) rfl rfl ⟨dC_436, dC_437, dC_439, dC_440, dC_441⟩ ?_
  refine rg_Larg F 5 0 4 (by omega) rfl rfl ⟨dC_442, dC_443, dC_445, dC_446, dC_447⟩ ?_
  refine rg_LhV F hcs [.ref (κ.2.2.2 0), .int (rg_I (xs (i + 1)).toInt), .int (rg_I (xs (i + 2)).toInt), .int (rg_I (xs (i + 3)).toInt), .int (rg_I (xs (i + 4)).toInt)] [] hH k_cw_yL_code k_in_L k_st_yL_code k_ml_L_125 ⟨by decide +kernel, by decide +kernel, (by decide +kernel : (parseMethodDescriptor yL_code.desc).map (fun d => d.parameters.length) = some 5)⟩ (by decide) rfl (Nat.le_of_ble_eq_true rfl) dC_448 ?_
  refine rg_Jistore F.1 ((6, .int (rg_I K)) :: rg_lv κ adM o od b i) dC_451 (by decide) rfl ?_
  refine rg_Jaload_n F.1 4 2 rfl dC_453 rfl ?_
  refine rg_Larg F 6 1 1 (by omega) rfl rfl ⟨dC_454, dC_455, dC_457, dC_458, dC_459⟩ ?_
  refine rg_Larg F 6 1 2 (by omega) rfl rfl ⟨dC_460, dC_461, dC_463, dC_464, dC_465⟩ ?_
  refine rg_Larg F 6 1 3 (by omega) rfl rfl ⟨dC_466, dC_467, dC_469, dC_470, dC_471⟩ ?_
  refine rg_Larg F 6 1 4 (by omega) rfl rfl ⟨dC_472, dC_473, dC_475, dC_476, dC_477⟩ ?_
  refine rg_LmV F hcs [.int (rg_I (xs (i + 1)).toInt), .int (rg_I (xs (i + 2)).toInt), .int (rg_I (xs (i + 3)).toInt), .int (rg_I (xs (i + 4)).toInt)] [] 0 hM tM0 cX10 v_X10_code i_X10_code k_ml_L_128 (by decide) rfl (Nat.le_of_ble_eq_true rfl) dC_478 (fun t9 hp => ?_)
  have hp9 : t9 = τ9 := hp
  subst hp9
  exact rg_LtV F hcs hT ⟨dC_481, dC_482, dC_485, dC_487⟩ dC_492 rfl hZ kk
theorem c_penalty (F : rg_FG κ adM co Γ rg_tC rg_tM o od b L xs) (hcs : cells + 1 ≤ 1122 ∧ slots + 6 ≤ 42737) (hi : i + 4 < L) (h : rg_Z σ τ nb nr nd ns) (kk : rg_kn κ adM co Γ o od b i (cells + 1) (slots + 6) 1751) : rg_J κ Γ 9 cells slots 495 (rg_lv κ adM o od b i) [] (rg_gw κ adM rg_tC rg_tM co σ τ o f od g) := by
  obtain ⟨K, σ9, τ9, nb9, nr9, nd9, ns9, hK, hH, hM, hT, hZ⟩ := s_penalty κ (rg_kk κ adM) co h (rg_toInt_Rg (xs (i + 1))) (rg_toInt_Rg (xs (i + 2))) (rg_toInt_Rg (xs (i + 3)))
  refine rg_Jaload_n F.1 4 1 rfl dC_495 rfl ?_
  refine rg_Larg F 5 0 1 (by omega) rfl rfl ⟨dC_496, dC_497, dC_499, dC_500, dC_501⟩ ?_
  refine rg_Larg F 5 0 2 (by omega) rfl rfl ⟨dC_502, dC_503, dC_505, dC_506, dC_507⟩ ?_
  refine rg_Larg F 5 0 3 (by omega) rfl rfl ⟨dC_508, dC_509, dC_511, dC_512, dC_513⟩ ?_
  refine rg_LhV F hcs [.ref (κ.2.2.2 0), .int (rg_I (xs (i + 1)).toInt), .int (rg_I (xs (i + 2)).toInt), .int (rg_I (xs (i + 3)).toInt)] [] hH k_cw_yL_penalty k_in_L k_st_yL_penalty k_ml_L_129 ⟨by decide +kernel, by decide +kernel, (by decide +kernel : (parseMethodDescriptor yL_penalty.desc).map (fun d => d.parameters.length) = some 4)⟩ (by decide) rfl (Nat.le_of_ble_eq_true rfl) dC_514 ?_
  refine rg_Jistore F.1 ((6, .int (rg_I K)) :: rg_lv κ adM o od b i) dC_517 (by decide) rfl ?_
  refine rg_Jaload_n F.1 4 2 rfl dC_519 rfl ?_
  refine rg_Larg F 6 1 1 (by omega) rfl rfl ⟨dC_520, dC_521, dC_523, dC_524, dC_525⟩ ?_
  refine rg_Larg F 6 1 2 (by omega) rfl rfl ⟨dC_526, dC_527, dC_529, dC_530, dC_531⟩ ?_
  refine rg_Larg F 6 1 3 (by omega) rfl rfl ⟨dC_532, dC_533, dC_535, dC_536, dC_537⟩ ?_
  refine rg_LmV F hcs [.int (rg_I (xs (i + 1)).toInt), .int (rg_I (xs (i + 2)).toInt), .int (rg_I (xs (i + 3)).toInt)] [] 0 hM tM0 cX10 v_X10_penalty i_X10_penalty k_ml_L_131 (by decide) rfl (Nat.le_of_ble_eq_true rfl) dC_538 (fun t9 hp => ?_)
  have hp9 : t9 = τ9 := hp
  subst hp9
  exact rg_LtV F hcs hT ⟨dC_541, dC_542, dC_545, dC_547⟩ dC_552 rfl hZ kk
theorem c_clear (F : rg_FG κ adM co Γ rg_tC rg_tM o od b L xs) (hcs : cells + 1 ≤ 1122 ∧ slots + 6 ≤ 42737) (hi : i + 4 < L) (h : rg_Z σ τ nb nr nd ns) (kk : rg_kn κ adM co Γ o od b i (cells + 1) (slots + 6) 1751) : rg_J κ Γ 9 cells slots 555 (rg_lv κ adM o od b i) [] (rg_gw κ adM rg_tC rg_tM co σ τ o f od g) := by
  obtain ⟨K, V, σ9, τ9, nb9, nr9, nd9, ns9, hK, hH, hM, hT, hZ, hV⟩ := s_clear κ (rg_kk κ adM) co h (rg_toInt_Rg (xs (i + 1))) (rg_toInt_Rg (xs (i + 2)))
  refine rg_Jaload_n F.1 4 1 rfl dC_555 rfl ?_
  refine rg_Larg F 5 0 1 (by omega) rfl rfl ⟨dC_556, dC_557, dC_559, dC_560, dC_561⟩ ?_
  refine rg_Larg F 5 0 2 (by omega) rfl rfl ⟨dC_562, dC_563, dC_565, dC_566, dC_567⟩ ?_
  refine rg_Jaload_n F.1 2 3 rfl dC_568 rfl ?_
  refine rg_LhL F hcs [.ref (κ.2.2.2 0), .int (rg_I (xs (i + 1)).toInt), .int (rg_I (xs (i + 2)).toInt)] [] hH k_cw_yL_clear k_in_L k_st_yL_clear k_ml_L_132 ⟨by decide +kernel, by decide +kernel, (by decide +kernel : (parseMethodDescriptor yL_clear.desc).map (fun d => d.parameters.length) = some 4)⟩ (by decide) rfl (Nat.le_of_ble_eq_true rfl) dC_569 (fun f9 hf => ?_)
  refine rg_Jistore F.1 ((6, .int (rg_I K)) :: rg_lv κ adM o od b i) dC_572 (by decide) rfl ?_
  refine rg_Jaload_n F.1 4 2 rfl dC_574 rfl ?_
  refine rg_Larg F 6 1 1 (by omega) rfl rfl ⟨dC_575, dC_576, dC_578, dC_579, dC_580⟩ ?_
  refine rg_Larg F 6 1 2 (by omega) rfl rfl ⟨dC_581, dC_582, dC_584, dC_585, dC_586⟩ ?_
  refine rg_LmI F hcs [.int (rg_I (xs (i + 1)).toInt), .int (rg_I (xs (i + 2)).toInt)] [] 0 hM tM0 cX10 v_X10_clear i_X10_clear k_ml_L_134 (by decide) rfl (Nat.le_of_ble_eq_true rfl) dC_587 (fun r t9 hp => ?_)
  obtain ⟨rfl, hr⟩ := hp
  refine rg_Jistore F.1 ((7, .int (rg_I r)) :: (6, .int (rg_I K)) :: rg_lv κ adM o od b i) dC_590 (by decide) rfl ?_
  exact rg_LtZ F hcs hT hK hf hr hV ⟨dC_592, dC_593, dC_596, dC_598⟩ ⟨dC_603, dC_605, dC_608, dC_609, dC_610, dC_611, dC_613, dC_616, dC_617, dC_620, dC_621, dC_622, dC_627⟩ rfl hZ kk
theorem c_protest (F : rg_FG κ adM co Γ rg_tC rg_tM o od b L xs) (hcs : cells + 1 ≤ 1122 ∧ slots + 6 ≤ 42737) (hi : i + 4 < L) (h : rg_Z σ τ nb nr nd ns) (kk : rg_kn κ adM co Γ o od b i (cells + 1) (slots + 6) 1751) : rg_J κ Γ 9 cells slots 630 (rg_lv κ adM o od b i) [] (rg_gw κ adM rg_tC rg_tM co σ τ o f od g) := by
  obtain ⟨K, V, σ9, τ9, nb9, nr9, nd9, ns9, hK, hH, hM, hT, hZ, hV⟩ := s_protest κ (rg_kk κ adM) co h (rg_toInt_Rg (xs (i + 1))) (rg_toInt_Rg (xs (i + 2))) (rg_toInt_Rg (xs (i + 3))) (rg_toInt_Rg (xs (i + 4)))
  refine rg_Jaload_n F.1 4 1 rfl dC_630 rfl ?_
  refine rg_Larg F 5 0 1 (by omega) rfl rfl ⟨dC_631, dC_632, dC_634, dC_635, dC_636⟩ ?_
  refine rg_Larg F 5 0 2 (by omega) rfl rfl ⟨dC_637, dC_638, dC_640, dC_641, dC_642⟩ ?_
  refine rg_Larg F 5 0 3 (by omega) rfl rfl ⟨dC_643, dC_644, dC_646, dC_647, dC_648⟩ ?_
  refine rg_Larg F 5 0 4 (by omega) rfl rfl ⟨dC_649, dC_650, dC_652, dC_653, dC_654⟩ ?_
  refine rg_Jaload_n F.1 2 3 rfl dC_655 rfl ?_
  refine rg_LhL F hcs [.ref (κ.2.2.2 0), .int (rg_I (xs (i + 1)).toInt), .int (rg_I (xs (i + 2)).toInt), .int (rg_I (xs (i + 3)).toInt), .int (rg_I (xs (i + 4)).toInt)] [] hH k_cw_yL_protest k_in_L k_st_yL_protest k_ml_L_135 ⟨by decide +kernel, by decide +kernel, (by decide +kernel : (parseMethodDescriptor yL_protest.desc).map (fun d => d.parameters.length) = some 6)⟩ (by decide) rfl (Nat.le_of_ble_eq_true rfl) dC_656 (fun f9 hf => ?_)
  refine rg_Jistore F.1 ((6, .int (rg_I K)) :: rg_lv κ adM o od b i) dC_659 (by decide) rfl ?_
  refine rg_Jaload_n F.1 4 2 rfl dC_661 rfl ?_
  refine rg_Larg F 6 1 1 (by omega) rfl rfl ⟨dC_662, dC_663, dC_665, dC_666, dC_667⟩ ?_
  refine rg_Larg F 6 1 2 (by omega) rfl rfl ⟨dC_668, dC_669, dC_671, dC_672, dC_673⟩ ?_
  refine rg_Larg F 6 1 3 (by omega) rfl rfl ⟨dC_674, dC_675, dC_677, dC_678, dC_679⟩ ?_
  refine rg_Larg F 6 1 4 (by omega) rfl rfl ⟨dC_680, dC_681, dC_683, dC_684, dC_685⟩ ?_
  refine rg_LmI F hcs [.int (rg_I (xs (i + 1)).toInt), .int (rg_I (xs (i + 2)).toInt), .int (rg_I (xs (i + 3)).toInt), .int (rg_I (xs (i + 4)).toInt)] [] 0 hM tM0 cX10 v_X10_protest i_X10_protest k_ml_L_138 (by decide) rfl (Nat.le_of_ble_eq_true rfl) dC_686 (fun r t9 hp => ?_)
  obtain ⟨rfl, hr⟩ := hp
  refine rg_Jistore F.1 ((7, .int (rg_I r)) :: (6, .int (rg_I K)) :: rg_lv κ adM o od b i) dC_689 (by decide) rfl ?_
  exact rg_LtI F hcs hT hK hf hr ⟨dC_691, dC_692, dC_695, dC_697⟩ ⟨dC_702, dC_704, dC_707, dC_708, dC_709, dC_710, dC_712, dC_713, dC_714, dC_719⟩ rfl hZ kk
theorem c_reopen (F : rg_FG κ adM co Γ rg_tC rg_tM o od b L xs) (hcs : cells + 1 ≤ 1122 ∧ slots + 6 ≤ 42737) (hi : i + 4 < L) (h : rg_Z σ τ nb nr nd ns) (kk : rg_kn κ adM co Γ o od b i (cells + 1) (slots + 6) 1751) : rg_J κ Γ 9 cells slots 722 (rg_lv κ adM o od b i) [] (rg_gw κ adM rg_tC rg_tM co σ τ o f od g) := by
  obtain ⟨K, σ9, τ9, nb9, nr9, nd9, ns9, hK, hH, hM, hT, hZ⟩ := s_reopen κ (rg_kk κ adM) co h (rg_toInt_Rg (xs (i + 1)))
  refine rg_Jaload_n F.1 4 1 rfl dC_722 rfl ?_
  refine rg_Larg F 5 0 1 (by omega) rfl rfl ⟨dC_723, dC_724, dC_726, dC_727, dC_728⟩ ?_
  refine rg_LhV F hcs [.ref (κ.2.2.2 0), .int (rg_I (xs (i + 1)).toInt)] [] hH k_cw_yL_reopen k_in_L k_st_yL_reopen k_ml_L_139 ⟨by decide +kernel, by decide +kernel, (by decide +kernel : (parseMethodDescriptor yL_reopen.desc).map (fun d => d.parameters.length) = some 2)⟩ (by decide) rfl (Nat.le_of_ble_eq_true rfl) dC_729 ?_
  refine rg_Jistore F.1 ((6, .int (rg_I K)) :: rg_lv κ adM o od b i) dC_732 (by decide) rfl ?_
  refine rg_Jaload_n F.1 4 2 rfl dC_734 rfl ?_
  refine rg_Larg F 6 1 1 (by omega) rfl rfl ⟨dC_735, dC_736, dC_738, dC_739, dC_740⟩ ?_
  refine rg_LmV F hcs [.int (rg_I (xs (i + 1)).toInt)] [] 0 hM tM0 cX10 v_X10_reopen i_X10_reopen k_ml_L_142 (by decide) rfl (Nat.le_of_ble_eq_true rfl) dC_741 (fun t9 hp => ?_)
  have hp9 : t9 = τ9 := hp
  subst hp9
  exact rg_LtV F hcs hT ⟨dC_744, dC_745, dC_748, dC_750⟩ dC_755 rfl hZ kk
theorem c_discards (F : rg_FG κ adM co Γ rg_tC rg_tM o od b L xs) (hcs : cells + 1 ≤ 1122 ∧ slots + 6 ≤ 42737) (hi : i + 4 < L) (h : rg_Z σ τ nb nr nd ns) (kk : rg_kn κ adM co Γ o od b i (cells + 1) (slots + 6) 1751) : rg_J κ Γ 9 cells slots 758 (rg_lv κ adM o od b i) [] (rg_gw κ adM rg_tC rg_tM co σ τ o f od g) := by
  obtain ⟨K, σ9, τ9, nb9, nr9, nd9, ns9, hK, hH, hM, hT, hZ⟩ := s_discards κ (rg_kk κ adM) co h (rg_toInt_Rg (xs (i + 1))) (rg_toInt_Rg (xs (i + 2)))
  refine rg_Jaload_n F.1 4 1 rfl dC_758 rfl ?_
  refine rg_Larg F 5 0 1 (by omega) rfl rfl ⟨dC_759, dC_760, dC_762, dC_763, dC_764⟩ ?_
  refine rg_Larg F 5 0 2 (by omega) rfl rfl ⟨dC_765, dC_766, dC_768, dC_769, dC_770⟩ ?_
  refine rg_LhV F hcs [.ref (κ.2.2.2 0), .int (rg_I (xs (i + 1)).toInt), .int (rg_I (xs (i + 2)).toInt)] [] hH k_cw_yL_discards k_in_L k_st_yL_discards k_ml_L_143 ⟨by decide +kernel, by decide +kernel, (by decide +kernel : (parseMethodDescriptor yL_discards.desc).map (fun d => d.parameters.length) = some 3)⟩ (by decide) rfl (Nat.le_of_ble_eq_true rfl) dC_771 ?_
  refine rg_Jistore F.1 ((6, .int (rg_I K)) :: rg_lv κ adM o od b i) dC_774 (by decide) rfl ?_
  refine rg_Jaload_n F.1 4 2 rfl dC_776 rfl ?_
  refine rg_Larg F 6 1 1 (by omega) rfl rfl ⟨dC_777, dC_778, dC_780, dC_781, dC_782⟩ ?_
  refine rg_Larg F 6 1 2 (by omega) rfl rfl ⟨dC_783, dC_784, dC_786, dC_787, dC_788⟩ ?_
  refine rg_LmV F hcs [.int (rg_I (xs (i + 1)).toInt), .int (rg_I (xs (i + 2)).toInt)] [] 0 hM tM0 cX10 v_X10_discards i_X10_discards k_ml_L_146 (by decide) rfl (Nat.le_of_ble_eq_true rfl) dC_789 (fun t9 hp => ?_)
  have hp9 : t9 = τ9 := hp
  subst hp9
  exact rg_LtV F hcs hT ⟨dC_792, dC_793, dC_796, dC_798⟩ dC_803 rfl hZ kk
theorem c_lot (F : rg_FG κ adM co Γ rg_tC rg_tM o od b L xs) (hcs : cells + 1 ≤ 1122 ∧ slots + 6 ≤ 42737) (hi : i + 4 < L) (h : rg_Z σ τ nb nr nd ns) (kk : rg_kn κ adM co Γ o od b i (cells + 1) (slots + 6) 1751) : rg_J κ Γ 9 cells slots 806 (rg_lv κ adM o od b i) [] (rg_gw κ adM rg_tC rg_tM co σ τ o f od g) := by
  obtain ⟨K, V, σ9, τ9, nb9, nr9, nd9, ns9, hK, hH, hM, hT, hZ, hV⟩ := s_lot κ (rg_kk κ adM) co h (rg_toInt_Rg (xs (i + 1))) (rg_toInt_Rg (xs (i + 2)))
  refine rg_Jaload_n F.1 4 1 rfl dC_806 rfl ?_
  refine rg_Larg F 5 0 1 (by omega) rfl rfl ⟨dC_807, dC_808, dC_810, dC_811, dC_812⟩ ?_
  refine rg_Larg F 5 0 2 (by omega) rfl rfl ⟨dC_813, dC_814, dC_816, dC_817, dC_818⟩ ?_
  refine rg_Jaload_n F.1 2 3 rfl dC_819 rfl ?_
  refine rg_LhL F hcs [.ref (κ.2.2.2 0), .int (rg_I (xs (i + 1)).toInt), .int (rg_I (xs (i + 2)).toInt)] [] hH k_cw_yL_lot k_in_L k_st_yL_lot k_ml_L_147 ⟨by decide +kernel, by decide +kernel, (by decide +kernel : (parseMethodDescriptor yL_lot.desc).map (fun d => d.parameters.length) = some 4)⟩ (by decide) rfl (Nat.le_of_ble_eq_true rfl) dC_820 (fun f9 hf => ?_)
  refine rg_Jistore F.1 ((6, .int (rg_I K)) :: rg_lv κ adM o od b i) dC_823 (by decide) rfl ?_
  refine rg_Jaload_n F.1 4 2 rfl dC_825 rfl ?_
  refine rg_Larg F 6 1 1 (by omega) rfl rfl ⟨dC_826, dC_827, dC_829, dC_830, dC_831⟩ ?_
  refine rg_Larg F 6 1 2 (by omega) rfl rfl ⟨dC_832, dC_833, dC_835, dC_836, dC_837⟩ ?_
  refine rg_LmI F hcs [.int (rg_I (xs (i + 1)).toInt), .int (rg_I (xs (i + 2)).toInt)] [] 0 hM tM0 cX10 v_X10_lot i_X10_lot k_ml_L_149 (by decide) rfl (Nat.le_of_ble_eq_true rfl) dC_838 (fun r t9 hp => ?_)
  obtain ⟨rfl, hr⟩ := hp
  refine rg_Jistore F.1 ((7, .int (rg_I r)) :: (6, .int (rg_I K)) :: rg_lv κ adM o od b i) dC_841 (by decide) rfl ?_
  exact rg_LtI F hcs hT hK hf hr ⟨dC_843, dC_844, dC_847, dC_849⟩ ⟨dC_854, dC_856, dC_859, dC_860, dC_861, dC_862, dC_864, dC_865, dC_866, dC_871⟩ rfl hZ kk
theorem c_split (F : rg_FG κ adM co Γ rg_tC rg_tM o od b L xs) (hcs : cells + 1 ≤ 1122 ∧ slots + 6 ≤ 42737) (hi : i + 4 < L) (h : rg_Z σ τ nb nr nd ns) (kk : rg_kn κ adM co Γ o od b i (cells + 1) (slots + 6) 1751) : rg_J κ Γ 9 cells slots 874 (rg_lv κ adM o od b i) [] (rg_gw κ adM rg_tC rg_tM co σ τ o f od g) := by
  obtain ⟨K, V, σ9, τ9, nb9, nr9, nd9, ns9, hK, hH, hM, hT, hZ, hV⟩ := s_split κ (rg_kk κ adM) co h (rg_toInt_Rg (xs (i + 1))) (rg_toInt_Rg (xs (i + 2)))
  refine rg_Jaload_n F.1 4 1 rfl dC_874 rfl ?_
  refine rg_Larg F 5 0 1 (by omega) rfl rfl ⟨dC_875, dC_876, dC_878, dC_879, dC_880⟩ ?_
  refine rg_Larg F 5 0 2 (by omega) rfl rfl ⟨dC_881, dC_882, dC_884, dC_885, dC_886⟩ ?_
  refine rg_Jaload_n F.1 2 3 rfl dC_887 rfl ?_
  refine rg_LhL F hcs [.ref (κ.2.2.2 0), .int (rg_I (xs (i + 1)).toInt), .int (rg_I (xs (i + 2)).toInt)] [] hH k_cw_yL_split k_in_L k_st_yL_split k_ml_L_150 ⟨by decide +kernel, by decide +kernel, (by decide +kernel : (parseMethodDescriptor yL_split.desc).map (fun d => d.parameters.length) = some 4)⟩ (by decide) rfl (Nat.le_of_ble_eq_true rfl) dC_888 (fun f9 hf => ?_)
  refine rg_Jistore F.1 ((6, .int (rg_I K)) :: rg_lv κ adM o od b i) dC_891 (by decide) rfl ?_
  refine rg_Jaload_n F.1 4 2 rfl dC_893 rfl ?_
  refine rg_Larg F 6 1 1 (by omega) rfl rfl ⟨dC_894, dC_895, dC_897, dC_898, dC_899⟩ ?_
  refine rg_Larg F 6 1 2 (by omega) rfl rfl ⟨dC_900, dC_901, dC_903, dC_904, dC_905⟩ ?_
  refine rg_LmI F hcs [.int (rg_I (xs (i + 1)).toInt), .int (rg_I (xs (i + 2)).toInt)] [] 0 hM tM0 cX10 v_X10_split i_X10_split k_ml_L_152 (by decide) rfl (Nat.le_of_ble_eq_true rfl) dC_906 (fun r t9 hp => ?_)
  obtain ⟨rfl, hr⟩ := hp
  refine rg_Jistore F.1 ((7, .int (rg_I r)) :: (6, .int (rg_I K)) :: rg_lv κ adM o od b i) dC_909 (by decide) rfl ?_
  exact rg_LtI F hcs hT hK hf hr ⟨dC_911, dC_912, dC_915, dC_917⟩ ⟨dC_922, dC_924, dC_927, dC_928, dC_929, dC_930, dC_932, dC_933, dC_934, dC_939⟩ rfl hZ kk
theorem c_points (F : rg_FG κ adM co Γ rg_tC rg_tM o od b L xs) (hcs : cells + 1 ≤ 1122 ∧ slots + 6 ≤ 42737) (hi : i + 4 < L) (h : rg_Z σ τ nb nr nd ns) (kk : rg_kn κ adM co Γ o od b i (cells + 1) (slots + 6) 1751) : rg_J κ Γ 9 cells slots 942 (rg_lv κ adM o od b i) [] (rg_gw κ adM rg_tC rg_tM co σ τ o f od g) := by
  obtain ⟨K, V, σ9, τ9, nb9, nr9, nd9, ns9, hK, hH, hM, hT, hZ, hV⟩ := s_points κ (rg_kk κ adM) co h (rg_toInt_Rg (xs (i + 1))) (rg_toInt_Rg (xs (i + 2)))
  refine rg_Jaload_n F.1 4 1 rfl dC_942 rfl ?_
  refine rg_Larg F 5 0 1 (by omega) rfl rfl ⟨dC_943, dC_944, dC_946, dC_947, dC_948⟩ ?_
  refine rg_Larg F 5 0 2 (by omega) rfl rfl ⟨dC_949, dC_950, dC_952, dC_953, dC_954⟩ ?_
  refine rg_Jaload_n F.1 2 3 rfl dC_955 rfl ?_
  refine rg_LhL F hcs [.ref (κ.2.2.2 0), .int (rg_I (xs (i + 1)).toInt), .int (rg_I (xs (i + 2)).toInt)] [] hH k_cw_yL_points k_in_L k_st_yL_points k_ml_L_153 ⟨by decide +kernel, by decide +kernel, (by decide +kernel : (parseMethodDescriptor yL_points.desc).map (fun d => d.parameters.length) = some 4)⟩ (by decide) rfl (Nat.le_of_ble_eq_true rfl) dC_956 (fun f9 hf => ?_)
  refine rg_Jistore F.1 ((6, .int (rg_I K)) :: rg_lv κ adM o od b i) dC_959 (by decide) rfl ?_
  refine rg_Jaload_n F.1 4 2 rfl dC_961 rfl ?_
  refine rg_Larg F 6 1 1 (by omega) rfl rfl ⟨dC_962, dC_963, dC_965, dC_966, dC_967⟩ ?_
  refine rg_Larg F 6 1 2 (by omega) rfl rfl ⟨dC_968, dC_969, dC_971, dC_972, dC_973⟩ ?_
  refine rg_LmI F hcs [.int (rg_I (xs (i + 1)).toInt), .int (rg_I (xs (i + 2)).toInt)] [] 0 hM tM0 cX10 v_X10_points i_X10_points k_ml_L_155 (by decide) rfl (Nat.le_of_ble_eq_true rfl) dC_974 (fun r t9 hp => ?_)
  obtain ⟨rfl, hr⟩ := hp
  refine rg_Jistore F.1 ((7, .int (rg_I r)) :: (6, .int (rg_I K)) :: rg_lv κ adM o od b i) dC_977 (by decide) rfl ?_
  exact rg_LtI F hcs hT hK hf hr ⟨dC_979, dC_980, dC_983, dC_985⟩ ⟨dC_990, dC_992, dC_995, dC_996, dC_997, dC_998, dC_1000, dC_1001, dC_1002, dC_1007⟩ rfl hZ kk
theorem c_isDiscard (F : rg_FG κ adM co Γ rg_tC rg_tM o od b L xs) (hcs : cells + 1 ≤ 1122 ∧ slots + 6 ≤ 42737) (hi : i + 4 < L) (h : rg_Z σ τ nb nr nd ns) (kk : rg_kn κ adM co Γ o od b i (cells + 1) (slots + 6) 1751) : rg_J κ Γ 9 cells slots 1010 (rg_lv κ adM o od b i) [] (rg_gw κ adM rg_tC rg_tM co σ τ o f od g) := by
  obtain ⟨K, V, σ9, τ9, nb9, nr9, nd9, ns9, hK, hH, hM, hT, hZ, hV⟩ := s_isDiscard κ (rg_kk κ adM) co h (rg_toInt_Rg (xs (i + 1))) (rg_toInt_Rg (xs (i + 2)))
  refine rg_Jaload_n F.1 4 1 rfl dC_1010 rfl ?_
  refine rg_Larg F 5 0 1 (by omega) rfl rfl ⟨dC_1011, dC_1012, dC_1014, dC_1015, dC_1016⟩ ?_
  refine rg_Larg F 5 0 2 (by omega) rfl rfl ⟨dC_1017, dC_1018, dC_1020, dC_1021, dC_1022⟩ ?_
  refine rg_Jaload_n F.1 2 3 rfl dC_1023 rfl ?_
  refine rg_LhL F hcs [.ref (κ.2.2.2 0), .int (rg_I (xs (i + 1)).toInt), .int (rg_I (xs (i + 2)).toInt)] [] hH k_cw_yL_isDiscard k_in_L k_st_yL_isDiscard k_ml_L_156 ⟨by decide +kernel, by decide +kernel, (by decide +kernel : (parseMethodDescriptor yL_isDiscard.desc).map (fun d => d.parameters.length) = some 4)⟩ (by decide) rfl (Nat.le_of_ble_eq_true rfl) dC_1024 (fun f9 hf => ?_)
  refine rg_Jistore F.1 ((6, .int (rg_I K)) :: rg_lv κ adM o od b i) dC_1027 (by decide) rfl ?_
  refine rg_Jaload_n F.1 4 2 rfl dC_1029 rfl ?_
  refine rg_Larg F 6 1 1 (by omega) rfl rfl ⟨dC_1030, dC_1031, dC_1033, dC_1034, dC_1035⟩ ?_
  refine rg_Larg F 6 1 2 (by omega) rfl rfl ⟨dC_1036, dC_1037, dC_1039, dC_1040, dC_1041⟩ ?_
  refine rg_LmI F hcs [.int (rg_I (xs (i + 1)).toInt), .int (rg_I (xs (i + 2)).toInt)] [] 0 hM tM0 cX10 v_X10_isDiscard i_X10_isDiscard k_ml_L_158 (by decide) rfl (Nat.le_of_ble_eq_true rfl) dC_1042 (fun r t9 hp => ?_)
  obtain ⟨rfl, hr⟩ := hp
  refine rg_Jistore F.1 ((7, .int (rg_I r)) :: (6, .int (rg_I K)) :: rg_lv κ adM o od b i) dC_1045 (by decide) rfl ?_
  exact rg_LtZ F hcs hT hK hf hr hV ⟨dC_1047, dC_1048, dC_1051, dC_1053⟩ ⟨dC_1058, dC_1060, dC_1063, dC_1064, dC_1065, dC_1066, dC_1068, dC_1071, dC_1072, dC_1075, dC_1076, dC_1077, dC_1082⟩ rfl hZ kk
theorem c_net (F : rg_FG κ adM co Γ rg_tC rg_tM o od b L xs) (hcs : cells + 1 ≤ 1122 ∧ slots + 6 ≤ 42737) (hi : i + 4 < L) (h : rg_Z σ τ nb nr nd ns) (kk : rg_kn κ adM co Γ o od b i (cells + 1) (slots + 6) 1751) : rg_J κ Γ 9 cells slots 1085 (rg_lv κ adM o od b i) [] (rg_gw κ adM rg_tC rg_tM co σ τ o f od g) := by
  obtain ⟨K, V, σ9, τ9, nb9, nr9, nd9, ns9, hK, hH, hM, hT, hZ, hV⟩ := s_net κ (rg_kk κ adM) co h (rg_toInt_Rg (xs (i + 1)))
  refine rg_Jaload_n F.1 4 1 rfl dC_1085 rfl ?_
  refine rg_Larg F 5 0 1 (by omega) rfl rfl ⟨dC_1086, dC_1087, dC_1089, dC_1090, dC_1091⟩ ?_
  refine rg_Jaload_n F.1 2 3 rfl dC_1092 rfl ?_
  refine rg_LhL F hcs [.ref (κ.2.2.2 0), .int (rg_I (xs (i + 1)).toInt)] [] hH k_cw_yL_net k_in_L k_st_yL_net k_ml_L_159 ⟨by decide +kernel, by decide +kernel, (by decide +kernel : (parseMethodDescriptor yL_net.desc).map (fun d => d.parameters.length) = some 3)⟩ (by decide) rfl (Nat.le_of_ble_eq_true rfl) dC_1093 (fun f9 hf => ?_)
  refine rg_Jistore F.1 ((6, .int (rg_I K)) :: rg_lv κ adM o od b i) dC_1096 (by decide) rfl ?_
  refine rg_Jaload_n F.1 4 2 rfl dC_1098 rfl ?_
  refine rg_Larg F 6 1 1 (by omega) rfl rfl ⟨dC_1099, dC_1100, dC_1102, dC_1103, dC_1104⟩ ?_
  refine rg_LmI F hcs [.int (rg_I (xs (i + 1)).toInt)] [] 0 hM tM0 cX10 v_X10_net i_X10_net k_ml_L_162 (by decide) rfl (Nat.le_of_ble_eq_true rfl) dC_1105 (fun r t9 hp => ?_)
  obtain ⟨rfl, hr⟩ := hp
  refine rg_Jistore F.1 ((7, .int (rg_I r)) :: (6, .int (rg_I K)) :: rg_lv κ adM o od b i) dC_1108 (by decide) rfl ?_
  exact rg_LtI F hcs hT hK hf hr ⟨dC_1110, dC_1111, dC_1114, dC_1116⟩ ⟨dC_1121, dC_1123, dC_1126, dC_1127, dC_1128, dC_1129, dC_1131, dC_1132, dC_1133, dC_1138⟩ rfl hZ kk
theorem c_gross (F : rg_FG κ adM co Γ rg_tC rg_tM o od b L xs) (hcs : cells + 1 ≤ 1122 ∧ slots + 6 ≤ 42737) (hi : i + 4 < L) (h : rg_Z σ τ nb nr nd ns) (kk : rg_kn κ adM co Γ o od b i (cells + 1) (slots + 6) 1751) : rg_J κ Γ 9 cells slots 1141 (rg_lv κ adM o od b i) [] (rg_gw κ adM rg_tC rg_tM co σ τ o f od g) := by
  obtain ⟨K, V, σ9, τ9, nb9, nr9, nd9, ns9, hK, hH, hM, hT, hZ, hV⟩ := s_gross κ (rg_kk κ adM) co h (rg_toInt_Rg (xs (i + 1)))
  refine rg_Jaload_n F.1 4 1 rfl dC_1141 rfl ?_
  refine rg_Larg F 5 0 1 (by omega) rfl rfl ⟨dC_1142, dC_1143, dC_1145, dC_1146, dC_1147⟩ ?_
  refine rg_Jaload_n F.1 2 3 rfl dC_1148 rfl ?_
  refine rg_LhL F hcs [.ref (κ.2.2.2 0), .int (rg_I (xs (i + 1)).toInt)] [] hH k_cw_yL_gross k_in_L k_st_yL_gross k_ml_L_163 ⟨by decide +kernel, by decide +kernel, (by decide +kernel : (parseMethodDescriptor yL_gross.desc).map (fun d => d.parameters.length) = some 3)⟩ (by decide) rfl (Nat.le_of_ble_eq_true rfl) dC_1149 (fun f9 hf => ?_)
  refine rg_Jistore F.1 ((6, .int (rg_I K)) :: rg_lv κ adM o od b i) dC_1152 (by decide) rfl ?_
  refine rg_Jaload_n F.1 4 2 rfl dC_1154 rfl ?_
  refine rg_Larg F 6 1 1 (by omega) rfl rfl ⟨dC_1155, dC_1156, dC_1158, dC_1159, dC_1160⟩ ?_
  refine rg_LmI F hcs [.int (rg_I (xs (i + 1)).toInt)] [] 0 hM tM0 cX10 v_X10_gross i_X10_gross k_ml_L_165 (by decide) rfl (Nat.le_of_ble_eq_true rfl) dC_1161 (fun r t9 hp => ?_)
  obtain ⟨rfl, hr⟩ := hp
  refine rg_Jistore F.1 ((7, .int (rg_I r)) :: (6, .int (rg_I K)) :: rg_lv κ adM o od b i) dC_1164 (by decide) rfl ?_
  exact rg_LtI F hcs hT hK hf hr ⟨dC_1166, dC_1167, dC_1170, dC_1172⟩ ⟨dC_1177, dC_1179, dC_1182, dC_1183, dC_1184, dC_1185, dC_1187, dC_1188, dC_1189, dC_1194⟩ rfl hZ kk
theorem c_mean (F : rg_FG κ adM co Γ rg_tC rg_tM o od b L xs) (hcs : cells + 1 ≤ 1122 ∧ slots + 6 ≤ 42737) (hi : i + 4 < L) (h : rg_Z σ τ nb nr nd ns) (kk : rg_kn κ adM co Γ o od b i (cells + 1) (slots + 6) 1751) : rg_J κ Γ 9 cells slots 1197 (rg_lv κ adM o od b i) [] (rg_gw κ adM rg_tC rg_tM co σ τ o f od g) := by
  obtain ⟨K, V, σ9, τ9, nb9, nr9, nd9, ns9, hK, hH, hM, hT, hZ, hV⟩ := s_mean κ (rg_kk κ adM) co h (rg_toInt_Rg (xs (i + 1)))
  refine rg_Jaload_n F.1 4 1 rfl dC_1197 rfl ?_
  refine rg_Larg F 5 0 1 (by omega) rfl rfl ⟨dC_1198, dC_1199, dC_1201, dC_1202, dC_1203⟩ ?_
  refine rg_Jaload F.1 1 4 dC_1204 rfl ?_
  refine rg_LhD F hcs [.ref (κ.2.2.2 0), .int (rg_I (xs (i + 1)).toInt)] [] hH k_cw_yL_mean k_in_L k_st_yL_mean k_ml_L_166 ⟨by decide +kernel, by decide +kernel, (by decide +kernel : (parseMethodDescriptor yL_mean.desc).map (fun d => d.parameters.length) = some 3)⟩ (by decide) rfl (Nat.le_of_ble_eq_true rfl) dC_1206 (fun f9 hf => ?_)
  refine rg_Jistore F.1 ((6, .int (rg_I K)) :: rg_lv κ adM o od b i) dC_1209 (by decide) rfl ?_
  refine rg_Jaload_n F.1 4 2 rfl dC_1211 rfl ?_
  refine rg_Larg F 6 1 1 (by omega) rfl rfl ⟨dC_1212, dC_1213, dC_1215, dC_1216, dC_1217⟩ ?_
  refine rg_LmD F hcs [.int (rg_I (xs (i + 1)).toInt)] [] 0 hM tM0 cX10 v_X10_mean i_X10_mean k_ml_L_169 (by decide) rfl (Nat.le_of_ble_eq_true rfl) dC_1218 (fun r t9 hp => ?_)
  obtain ⟨rfl, hr⟩ := hp
  refine rg_Jdstore F.1 ((7, .double r) :: (6, .int (rg_I K)) :: rg_lv κ adM o od b i) dC_1221 (by decide) rfl ?_
  exact rg_LtD F hcs hT hK hf hr hV ⟨dC_1223, dC_1224, dC_1227, dC_1229⟩ ⟨dC_1234, dC_1236, dC_1239, dC_1241, dC_1242, dC_1243, dC_1245, dC_1246, dC_1271⟩ rfl hZ kk
theorem c_rank (F : rg_FG κ adM co Γ rg_tC rg_tM o od b L xs) (hcs : cells + 1 ≤ 1122 ∧ slots + 6 ≤ 42737) (hi : i + 4 < L) (h : rg_Z σ τ nb nr nd ns) (kk : rg_kn κ adM co Γ o od b i (cells + 1) (slots + 6) 1751) : rg_J κ Γ 9 cells slots 1274 (rg_lv κ adM o od b i) [] (rg_gw κ adM rg_tC rg_tM co σ τ o f od g) := by
  obtain ⟨K, V, σ9, τ9, nb9, nr9, nd9, ns9, hK, hH, hM, hT, hZ, hV⟩ := s_rank κ (rg_kk κ adM) co h (rg_toInt_Rg (xs (i + 1)))
  refine rg_Jaload_n F.1 4 1 rfl dC_1274 rfl ?_
  refine rg_Larg F 5 0 1 (by omega) rfl rfl ⟨dC_1275, dC_1276, dC_1278, dC_1279, dC_1280⟩ ?_
  refine rg_Jaload_n F.1 2 3 rfl dC_1281 rfl ?_
  refine rg_LhL F hcs [.ref (κ.2.2.2 0), .int (rg_I (xs (i + 1)).toInt)] [] hH k_cw_yL_rank k_in_L k_st_yL_rank k_ml_L_170 ⟨by decide +kernel, by decide +kernel, (by decide +kernel : (parseMethodDescriptor yL_rank.desc).map (fun d => d.parameters.length) = some 3)⟩ (by decide) rfl (Nat.le_of_ble_eq_true rfl) dC_1282 (fun f9 hf => ?_)
  refine rg_Jistore F.1 ((6, .int (rg_I K)) :: rg_lv κ adM o od b i) dC_1285 (by decide) rfl ?_
  refine rg_Jaload_n F.1 4 2 rfl dC_1287 rfl ?_
  refine rg_Larg F 6 1 1 (by omega) rfl rfl ⟨dC_1288, dC_1289, dC_1291, dC_1292, dC_1293⟩ ?_
  refine rg_LmI F hcs [.int (rg_I (xs (i + 1)).toInt)] [] 0 hM tM0 cX10 v_X10_rank i_X10_rank k_ml_L_172 (by decide) rfl (Nat.le_of_ble_eq_true rfl) dC_1294 (fun r t9 hp => ?_)
  obtain ⟨rfl, hr⟩ := hp
  refine rg_Jistore F.1 ((7, .int (rg_I r)) :: (6, .int (rg_I K)) :: rg_lv κ adM o od b i) dC_1297 (by decide) rfl ?_
  exact rg_LtI F hcs hT hK hf hr ⟨dC_1299, dC_1300, dC_1303, dC_1305⟩ ⟨dC_1310, dC_1312, dC_1315, dC_1316, dC_1317, dC_1318, dC_1320, dC_1321, dC_1322, dC_1327⟩ rfl hZ kk
theorem c_at (F : rg_FG κ adM co Γ rg_tC rg_tM o od b L xs) (hcs : cells + 1 ≤ 1122 ∧ slots + 6 ≤ 42737) (hi : i + 4 < L) (h : rg_Z σ τ nb nr nd ns) (kk : rg_kn κ adM co Γ o od b i (cells + 1) (slots + 6) 1751) : rg_J κ Γ 9 cells slots 1330 (rg_lv κ adM o od b i) [] (rg_gw κ adM rg_tC rg_tM co σ τ o f od g) := by
  obtain ⟨K, V, σ9, τ9, nb9, nr9, nd9, ns9, hK, hH, hM, hT, hZ, hV⟩ := s_at κ (rg_kk κ adM) co h (rg_toInt_Rg (xs (i + 1)))
  refine rg_Jaload_n F.1 4 1 rfl dC_1330 rfl ?_
  refine rg_Larg F 5 0 1 (by omega) rfl rfl ⟨dC_1331, dC_1332, dC_1334, dC_1335, dC_1336⟩ ?_
  refine rg_Jaload_n F.1 2 3 rfl dC_1337 rfl ?_
  refine rg_LhL F hcs [.ref (κ.2.2.2 0), .int (rg_I (xs (i + 1)).toInt)] [] hH k_cw_yL_at k_in_L k_st_yL_at k_ml_L_173 ⟨by decide +kernel, by decide +kernel, (by decide +kernel : (parseMethodDescriptor yL_at.desc).map (fun d => d.parameters.length) = some 3)⟩ (by decide) rfl (Nat.le_of_ble_eq_true rfl) dC_1338 (fun f9 hf => ?_)
  refine rg_Jistore F.1 ((6, .int (rg_I K)) :: rg_lv κ adM o od b i) dC_1341 (by decide) rfl ?_
  refine rg_Jaload_n F.1 4 2 rfl dC_1343 rfl ?_
  refine rg_Larg F 6 1 1 (by omega) rfl rfl ⟨dC_1344, dC_1345, dC_1347, dC_1348, dC_1349⟩ ?_
  refine rg_LmI F hcs [.int (rg_I (xs (i + 1)).toInt)] [] 0 hM tM0 cX10 v_X10_at i_X10_at k_ml_L_175 (by decide) rfl (Nat.le_of_ble_eq_true rfl) dC_1350 (fun r t9 hp => ?_)
  obtain ⟨rfl, hr⟩ := hp
  refine rg_Jistore F.1 ((7, .int (rg_I r)) :: (6, .int (rg_I K)) :: rg_lv κ adM o od b i) dC_1353 (by decide) rfl ?_
  exact rg_LtI F hcs hT hK hf hr ⟨dC_1355, dC_1356, dC_1359, dC_1361⟩ ⟨dC_1366, dC_1368, dC_1371, dC_1372, dC_1373, dC_1374, dC_1376, dC_1377, dC_1378, dC_1383⟩ rfl hZ kk
theorem c_tie (F : rg_FG κ adM co Γ rg_tC rg_tM o od b L xs) (hcs : cells + 1 ≤ 1122 ∧ slots + 6 ≤ 42737) (hi : i + 4 < L) (h : rg_Z σ τ nb nr nd ns) (kk : rg_kn κ adM co Γ o od b i (cells + 1) (slots + 6) 1751) : rg_J κ Γ 9 cells slots 1386 (rg_lv κ adM o od b i) [] (rg_gw κ adM rg_tC rg_tM co σ τ o f od g) := by
  obtain ⟨K, V, σ9, τ9, nb9, nr9, nd9, ns9, hK, hH, hM, hT, hZ, hV⟩ := s_tie κ (rg_kk κ adM) co h (rg_toInt_Rg (xs (i + 1))) (rg_toInt_Rg (xs (i + 2)))
  refine rg_Jaload_n F.1 4 1 rfl dC_1386 rfl ?_
  refine rg_Larg F 5 0 1 (by omega) rfl rfl ⟨dC_1387, dC_1388, dC_1390, dC_1391, dC_1392⟩ ?_
  refine rg_Larg F 5 0 2 (by omega) rfl rfl ⟨dC_1393, dC_1394, dC_1396, dC_1397, dC_1398⟩ ?_
  refine rg_Jaload_n F.1 2 3 rfl dC_1399 rfl ?_
  refine rg_LhL F hcs [.ref (κ.2.2.2 0), .int (rg_I (xs (i + 1)).toInt), .int (rg_I (xs (i + 2)).toInt)] [] hH k_cw_yL_tie k_in_L k_st_yL_tie k_ml_L_176 ⟨by decide +kernel, by decide +kernel, (by decide +kernel : (parseMethodDescriptor yL_tie.desc).map (fun d => d.parameters.length) = some 4)⟩ (by decide) rfl (Nat.le_of_ble_eq_true rfl) dC_1400 (fun f9 hf => ?_)
  refine rg_Jistore F.1 ((6, .int (rg_I K)) :: rg_lv κ adM o od b i) dC_1403 (by decide) rfl ?_
  refine rg_Jaload_n F.1 4 2 rfl dC_1405 rfl ?_
  refine rg_Larg F 6 1 1 (by omega) rfl rfl ⟨dC_1406, dC_1407, dC_1409, dC_1410, dC_1411⟩ ?_
  refine rg_Larg F 6 1 2 (by omega) rfl rfl ⟨dC_1412, dC_1413, dC_1415, dC_1416, dC_1417⟩ ?_
  refine rg_LmI F hcs [.int (rg_I (xs (i + 1)).toInt), .int (rg_I (xs (i + 2)).toInt)] [] 0 hM tM0 cX10 v_X10_tie i_X10_tie k_ml_L_178 (by decide) rfl (Nat.le_of_ble_eq_true rfl) dC_1418 (fun r t9 hp => ?_)
  obtain ⟨rfl, hr⟩ := hp
  refine rg_Jistore F.1 ((7, .int (rg_I r)) :: (6, .int (rg_I K)) :: rg_lv κ adM o od b i) dC_1421 (by decide) rfl ?_
  exact rg_LtI F hcs hT hK hf hr ⟨dC_1423, dC_1424, dC_1427, dC_1429⟩ ⟨dC_1434, dC_1436, dC_1439, dC_1440, dC_1441, dC_1442, dC_1444, dC_1445, dC_1446, dC_1451⟩ rfl hZ kk
theorem c_what (F : rg_FG κ adM co Γ rg_tC rg_tM o od b L xs) (hcs : cells + 1 ≤ 1122 ∧ slots + 6 ≤ 42737) (hi : i + 4 < L) (h : rg_Z σ τ nb nr nd ns) (kk : rg_kn κ adM co Γ o od b i (cells + 1) (slots + 6) 1751) : rg_J κ Γ 9 cells slots 1454 (rg_lv κ adM o od b i) [] (rg_gw κ adM rg_tC rg_tM co σ τ o f od g) := by
  obtain ⟨K, V, σ9, τ9, nb9, nr9, nd9, ns9, hK, hH, hM, hT, hZ, hV⟩ := s_what κ (rg_kk κ adM) co h (rg_toInt_Rg (xs (i + 1))) (rg_toInt_Rg (xs (i + 2))) (rg_toInt_Rg (xs (i + 3))) (rg_toInt_Rg (xs (i + 4)))
  refine rg_Jaload_n F.1 4 1 rfl dC_1454 rfl ?_
  refine rg_Larg F 5 0 1 (by omega) rfl rfl ⟨dC_1455, dC_1456, dC_1458, dC_1459, dC_1460⟩ ?_
  refine rg_Larg F 5 0 2 (by omega) rfl rfl ⟨dC_1461, dC_1462, dC_1464, dC_1465, dC_1466⟩ ?_
  refine rg_Larg F 5 0 3 (by omega) rfl rfl ⟨dC_1467, dC_1468, dC_1470, dC_1471, dC_1472⟩ ?_
  refine rg_Larg F 5 0 4 (by omega) rfl rfl ⟨dC_1473, dC_1474, dC_1476, dC_1477, dC_1478⟩ ?_
  refine rg_Jaload_n F.1 2 3 rfl dC_1479 rfl ?_
  refine rg_LhL F hcs [.ref (κ.2.2.2 0), .int (rg_I (xs (i + 1)).toInt), .int (rg_I (xs (i + 2)).toInt), .int (rg_I (xs (i + 3)).toInt), .int (rg_I (xs (i + 4)).toInt)] [] hH k_cw_yL_what k_in_L k_st_yL_what k_ml_L_179 ⟨by decide +kernel, by decide +kernel, (by decide +kernel : (parseMethodDescriptor yL_what.desc).map (fun d => d.parameters.length) = some 6)⟩ (by decide) rfl (Nat.le_of_ble_eq_true rfl) dC_1480 (fun f9 hf => ?_)
  refine rg_Jistore F.1 ((6, .int (rg_I K)) :: rg_lv κ adM o od b i) dC_1483 (by decide) rfl ?_
  refine rg_Jaload_n F.1 4 2 rfl dC_1485 rfl ?_
  refine rg_Larg F 6 1 1 (by omega) rfl rfl ⟨dC_1486, dC_1487, dC_1489, dC_1490, dC_1491⟩ ?_
  refine rg_Larg F 6 1 2 (by omega) rfl rfl ⟨dC_1492, dC_1493, dC_1495, dC_1496, dC_1497⟩ ?_
  refine rg_Larg F 6 1 3 (by omega) rfl rfl ⟨dC_1498, dC_1499, dC_1501, dC_1502, dC_1503⟩ ?_
  refine rg_Larg F 6 1 4 (by omega) rfl rfl ⟨dC_1504, dC_1505, dC_1507, dC_1508, dC_1509⟩ ?_
  refine rg_LmI F hcs [.int (rg_I (xs (i + 1)).toInt), .int (rg_I (xs (i + 2)).toInt), .int (rg_I (xs (i + 3)).toInt), .int (rg_I (xs (i + 4)).toInt)] [] 0 hM tM0 cX10 v_X10_what i_X10_what k_ml_L_181 (by decide) rfl (Nat.le_of_ble_eq_true rfl) dC_1510 (fun r t9 hp => ?_)
  obtain ⟨rfl, hr⟩ := hp
  refine rg_Jistore F.1 ((7, .int (rg_I r)) :: (6, .int (rg_I K)) :: rg_lv κ adM o od b i) dC_1513 (by decide) rfl ?_
  exact rg_LtI F hcs hT hK hf hr ⟨dC_1515, dC_1516, dC_1519, dC_1521⟩ ⟨dC_1526, dC_1528, dC_1531, dC_1532, dC_1533, dC_1534, dC_1536, dC_1537, dC_1538, dC_1543⟩ rfl hZ kk
theorem c_missing (F : rg_FG κ adM co Γ rg_tC rg_tM o od b L xs) (hcs : cells + 1 ≤ 1122 ∧ slots + 6 ≤ 42737) (hi : i + 4 < L) (h : rg_Z σ τ nb nr nd ns) (kk : rg_kn κ adM co Γ o od b i (cells + 1) (slots + 6) 1751) : rg_J κ Γ 9 cells slots 1546 (rg_lv κ adM o od b i) [] (rg_gw κ adM rg_tC rg_tM co σ τ o f od g) := by
  obtain ⟨K, V, σ9, τ9, nb9, nr9, nd9, ns9, hK, hH, hM, hT, hZ, hV⟩ := s_missing κ (rg_kk κ adM) co h (rg_toInt_Rg (xs (i + 1))) (rg_toInt_Rg (xs (i + 2)))
  refine rg_Jaload_n F.1 4 1 rfl dC_1546 rfl ?_
  refine rg_Larg F 5 0 1 (by omega) rfl rfl ⟨dC_1547, dC_1548, dC_1550, dC_1551, dC_1552⟩ ?_
  refine rg_Larg F 5 0 2 (by omega) rfl rfl ⟨dC_1553, dC_1554, dC_1556, dC_1557, dC_1558⟩ ?_
  refine rg_Jaload_n F.1 2 3 rfl dC_1559 rfl ?_
  refine rg_LhL F hcs [.ref (κ.2.2.2 0), .int (rg_I (xs (i + 1)).toInt), .int (rg_I (xs (i + 2)).toInt)] [] hH k_cw_yL_missing k_in_L k_st_yL_missing k_ml_L_182 ⟨by decide +kernel, by decide +kernel, (by decide +kernel : (parseMethodDescriptor yL_missing.desc).map (fun d => d.parameters.length) = some 4)⟩ (by decide) rfl (Nat.le_of_ble_eq_true rfl) dC_1560 (fun f9 hf => ?_)
  refine rg_Jistore F.1 ((6, .int (rg_I K)) :: rg_lv κ adM o od b i) dC_1563 (by decide) rfl ?_
  refine rg_Jaload_n F.1 4 2 rfl dC_1565 rfl ?_
  refine rg_Larg F 6 1 1 (by omega) rfl rfl ⟨dC_1566, dC_1567, dC_1569, dC_1570, dC_1571⟩ ?_
  refine rg_Larg F 6 1 2 (by omega) rfl rfl ⟨dC_1572, dC_1573, dC_1575, dC_1576, dC_1577⟩ ?_
  refine rg_LmI F hcs [.int (rg_I (xs (i + 1)).toInt), .int (rg_I (xs (i + 2)).toInt)] [] 0 hM tM0 cX10 v_X10_missing i_X10_missing k_ml_L_184 (by decide) rfl (Nat.le_of_ble_eq_true rfl) dC_1578 (fun r t9 hp => ?_)
  obtain ⟨rfl, hr⟩ := hp
  refine rg_Jistore F.1 ((7, .int (rg_I r)) :: (6, .int (rg_I K)) :: rg_lv κ adM o od b i) dC_1581 (by decide) rfl ?_
  exact rg_LtI F hcs hT hK hf hr ⟨dC_1583, dC_1584, dC_1587, dC_1589⟩ ⟨dC_1594, dC_1596, dC_1599, dC_1600, dC_1601, dC_1602, dC_1604, dC_1605, dC_1606, dC_1611⟩ rfl hZ kk
theorem c_told (F : rg_FG κ adM co Γ rg_tC rg_tM o od b L xs) (hcs : cells + 1 ≤ 1122 ∧ slots + 6 ≤ 42737) (hi : i + 4 < L) (h : rg_Z σ τ nb nr nd ns) (kk : rg_kn κ adM co Γ o od b i (cells + 1) (slots + 6) 1751) : rg_J κ Γ 9 cells slots 1614 (rg_lv κ adM o od b i) [] (rg_gw κ adM rg_tC rg_tM co σ τ o f od g) := by
  obtain ⟨K, V, σ9, τ9, nb9, nr9, nd9, ns9, hK, hH, hM, hT, hZ, hV⟩ := s_told κ (rg_kk κ adM) co h (rg_toInt_Rg (xs (i + 1))) (rg_toInt_Rg (xs (i + 2)))
  refine rg_Jaload_n F.1 4 1 rfl dC_1614 rfl ?_
  refine rg_Larg F 5 0 1 (by omega) rfl rfl ⟨dC_1615, dC_1616, dC_1618, dC_1619, dC_1620⟩ ?_
  refine rg_Larg F 5 0 2 (by omega) rfl rfl ⟨dC_1621, dC_1622, dC_1624, dC_1625, dC_1626⟩ ?_
  refine rg_Jaload_n F.1 2 3 rfl dC_1627 rfl ?_
  refine rg_LhL F hcs [.ref (κ.2.2.2 0), .int (rg_I (xs (i + 1)).toInt), .int (rg_I (xs (i + 2)).toInt)] [] hH k_cw_yL_told k_in_L k_st_yL_told k_ml_L_185 ⟨by decide +kernel, by decide +kernel, (by decide +kernel : (parseMethodDescriptor yL_told.desc).map (fun d => d.parameters.length) = some 4)⟩ (by decide) rfl (Nat.le_of_ble_eq_true rfl) dC_1628 (fun f9 hf => ?_)
  refine rg_Jistore F.1 ((6, .int (rg_I K)) :: rg_lv κ adM o od b i) dC_1631 (by decide) rfl ?_
  refine rg_Jaload_n F.1 4 2 rfl dC_1633 rfl ?_
  refine rg_Larg F 6 1 1 (by omega) rfl rfl ⟨dC_1634, dC_1635, dC_1637, dC_1638, dC_1639⟩ ?_
  refine rg_Larg F 6 1 2 (by omega) rfl rfl ⟨dC_1640, dC_1641, dC_1643, dC_1644, dC_1645⟩ ?_
  refine rg_LmI F hcs [.int (rg_I (xs (i + 1)).toInt), .int (rg_I (xs (i + 2)).toInt)] [] 0 hM tM0 cX10 v_X10_told i_X10_told k_ml_L_187 (by decide) rfl (Nat.le_of_ble_eq_true rfl) dC_1646 (fun r t9 hp => ?_)
  obtain ⟨rfl, hr⟩ := hp
  refine rg_Jistore F.1 ((7, .int (rg_I r)) :: (6, .int (rg_I K)) :: rg_lv κ adM o od b i) dC_1649 (by decide) rfl ?_
  exact rg_LtI F hcs hT hK hf hr ⟨dC_1651, dC_1652, dC_1655, dC_1657⟩ ⟨dC_1662, dC_1664, dC_1667, dC_1668, dC_1669, dC_1670, dC_1672, dC_1673, dC_1674, dC_1679⟩ rfl hZ kk
theorem c_sheet (F : rg_FG κ adM co Γ rg_tC rg_tM o od b L xs) (hcs : cells + 1 ≤ 1122 ∧ slots + 6 ≤ 42737) (hi : i + 4 < L) (h : rg_Z σ τ nb nr nd ns) (kk : rg_kn κ adM co Γ o od b i (cells + 1) (slots + 6) 1751) : rg_J κ Γ 9 cells slots 1682 (rg_lv κ adM o od b i) [] (rg_gw κ adM rg_tC rg_tM co σ τ o f od g) := by
  obtain ⟨V, σ9, τ9, nb9, nr9, nd9, ns9, hC, hM, hZ⟩ := s_sheet κ (rg_kk κ adM) h
  refine rg_Jwid (Nat.le_succ cells) (Nat.le_add_right slots 6) ?_
  refine rg_Jaload_n F.1 4 1 rfl dC_1682 rfl ?_
  refine rg_LcI F hcs [] [] 0 hC tC0 cX9 v_X9_sheet i_X9_sheet k_ml_L_188 (by decide) rfl (Nat.le_of_ble_eq_true rfl) dC_1683 (fun r s9 hp => ?_)
  obtain ⟨rfl, rfl⟩ := hp
  refine rg_Jaload_n F.1 3 2 rfl dC_1686 rfl ?_
  refine rg_LmI F hcs [] [.int (rg_I r)] 0 hM tM0 cX10 v_X10_sheet i_X10_sheet k_ml_L_191 (by decide) rfl (Nat.le_of_ble_eq_true rfl) dC_1687 (fun r9 t9 hp => ?_)
  obtain ⟨rfl, rfl⟩ := hp
  refine rg_Jicmp_same F.1 1751 dC_1690 rfl ?_
  exact kk _ _ f g nb9 nr9 nd9 ns9 hZ
theorem c_sheetByte (F : rg_FG κ adM co Γ rg_tC rg_tM o od b L xs) (hcs : cells + 1 ≤ 1122 ∧ slots + 6 ≤ 42737) (hi : i + 4 < L) (h : rg_Z σ τ nb nr nd ns) (kk : rg_kn κ adM co Γ o od b i (cells + 1) (slots + 6) 1751) : rg_J κ Γ 9 cells slots 1695 (rg_lv κ adM o od b i) [] (rg_gw κ adM rg_tC rg_tM co σ τ o f od g) := by
  obtain ⟨K, V, σ9, τ9, nb9, nr9, nd9, ns9, hK, hH, hM, hT, hZ, hV⟩ := s_sheetByte κ (rg_kk κ adM) co h (rg_toInt_Rg (xs (i + 1)))
  refine rg_Jaload_n F.1 4 1 rfl dC_1695 rfl ?_
  refine rg_Larg F 5 0 1 (by omega) rfl rfl ⟨dC_1696, dC_1697, dC_1699, dC_1700, dC_1701⟩ ?_
  refine rg_Jaload_n F.1 2 3 rfl dC_1702 rfl ?_
  refine rg_LhL F hcs [.ref (κ.2.2.2 0), .int (rg_I (xs (i + 1)).toInt)] [] hH k_cw_yL_sheetByte k_in_L k_st_yL_sheetByte k_ml_L_192 ⟨by decide +kernel, by decide +kernel, (by decide +kernel : (parseMethodDescriptor yL_sheetByte.desc).map (fun d => d.parameters.length) = some 3)⟩ (by decide) rfl (Nat.le_of_ble_eq_true rfl) dC_1703 (fun f9 hf => ?_)
  refine rg_Jistore F.1 ((6, .int (rg_I K)) :: rg_lv κ adM o od b i) dC_1706 (by decide) rfl ?_
  refine rg_Jaload_n F.1 4 2 rfl dC_1708 rfl ?_
  refine rg_Larg F 6 1 1 (by omega) rfl rfl ⟨dC_1709, dC_1710, dC_1712, dC_1713, dC_1714⟩ ?_
  refine rg_LmI F hcs [.int (rg_I (xs (i + 1)).toInt)] [] 0 hM tM0 cX10 v_X10_sheetByte i_X10_sheetByte k_ml_L_194 (by decide) rfl (Nat.le_of_ble_eq_true rfl) dC_1715 (fun r t9 hp => ?_)
  obtain ⟨rfl, hr⟩ := hp
  refine rg_Jistore F.1 ((7, .int (rg_I r)) :: (6, .int (rg_I K)) :: rg_lv κ adM o od b i) dC_1718 (by decide) rfl ?_
  exact rg_LtI F hcs hT hK hf hr ⟨dC_1720, dC_1721, dC_1724, dC_1726⟩ ⟨dC_1731, dC_1733, dC_1736, dC_1737, dC_1738, dC_1739, dC_1741, dC_1742, dC_1743, dC_1748⟩ rfl hZ kk
end RLC
