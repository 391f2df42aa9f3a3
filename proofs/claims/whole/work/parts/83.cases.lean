/-! ===== the law: one call of both ===== -/
/-- where the law stands -/
def LwS (L : Nat) (xs : Nat → Int32) (h : AH) : Prop := ∃ S, Inv S ∧ RepC h S ∧ RepM h S ∧ h.2.2 0 = some (iA L xs) ∧ h.1 = 111 ∧ h.2.1 = 11307
theorem lg_self (v : Int64) : lg_cmp v v = nI 0 := by
  unfold lg_cmp
  simp
  rfl
theorem RepC.ro {h : AH} {S : SS} (r : RepC h S) : refO h 8 (some (.ref 1)) = true := by
  obtain ⟨o, -, h1, -⟩ := r
  exact ro8 h1
theorem RepM.ro {h : AH} {S : SS} (r : RepM h S) : refO h 9 (some (.ref 88)) = true := by
  obtain ⟨⟨_, _, _, _, _, _, _, _, _, _, _, h1⟩, -⟩ := r
  exact ro9 h1
def LGo (L : Nat) (xs : Nat → Int32) (i pc : Nat) : Prop := ∀ h, LwS L xs h → ∃ h', LwS L xs h' ∧ Run M_L_law pc [.ref 0, .ref 1, .ref 88, .int (nI i)] [] h = Run M_L_law 1347 [.ref 0, .ref 1, .ref 88, .int (nI i)] [] h'
theorem law_feed {L : Nat} {xs : Nat → Int32} {i : Nat} (hi : i + 5 ≤ L) (hL : L ≤ 320) : LGo L xs i 208 := by
  rintro h ⟨S, hI, rc, rm, c0, n1, n2⟩
  have w : OpW M_X8_feed M_X9_feed [.int (xs (i + 1))] S := (op_feed hI _).w
  obtain ⟨r, S', h1, h2, iS, c1, c2, rc1, rc2, rm2, f1, f2⟩ := w h rc rm
  obtain ⟨v, rfl⟩ := kI rfl c1
  have c01 : h1.2.2 0 = some (iA L xs) := (f1.1 0 (Or.inl rfl)).trans c0
  have rm1 : RepM h1 S := rm.fr (fun y hy => f1.1 y (Or.inr hy))
  refine ⟨h2, ⟨S', iS, rc2, rm2, (f2.1 0 (by decide)).trans c01, by rw [f2.2.1, f1.2.1]; exact n1, by rw [f2.2.2, f1.2.2]; exact n2⟩, ?_⟩
  simp only [r_L_law_208, r_L_law_209, r_L_law_210, r_L_law_211, r_L_law_212, r_L_law_213, r_L_law_214, r_L_law_217, r_L_law_218, r_L_law_219, r_L_law_220, r_L_law_221, r_L_law_222, r_L_law_223, r_L_law_226, ↓reduceIte, Option.isSome_some, Option.getD_some, rL_v, rL_n, cH_s, List.cons_append, List.nil_append, cat_i, cat_r, cat_n, ofN, nI_add, rc.ro, rm1.ro, c1, c2, gI_nI c0 (by omega) (show i + 1 < L by omega), gI_nI c01 (by omega) (show i + 1 < L by omega)]
theorem law_hall {L : Nat} {xs : Nat → Int32} {i : Nat} (hi : i + 5 ≤ L) (hL : L ≤ 320) : LGo L xs i 231 := by
  rintro h ⟨S, hI, rc, rm, c0, n1, n2⟩
  have w : OpW M_X8_hall M_X9_hall [] S := op_hall hI
  obtain ⟨r, S', h1, h2, iS, c1, c2, rc1, rc2, rm2, f1, f2⟩ := w h rc rm
  obtain ⟨v, rfl⟩ := kI rfl c1
  have c01 : h1.2.2 0 = some (iA L xs) := (f1.1 0 (Or.inl rfl)).trans c0
  have rm1 : RepM h1 S := rm.fr (fun y hy => f1.1 y (Or.inr hy))
  refine ⟨h2, ⟨S', iS, rc2, rm2, (f2.1 0 (by decide)).trans c01, by rw [f2.2.1, f1.2.1]; exact n1, by rw [f2.2.2, f1.2.2]; exact n2⟩, ?_⟩
  simp only [r_L_law_231, r_L_law_232, r_L_law_235, r_L_law_236, r_L_law_239, ↓reduceIte, Option.isSome_some, Option.getD_some, rL_v, rL_n, cH_s, List.cons_append, List.nil_append, cat_i, cat_r, cat_n, ofN, nI_add, rc.ro, rm1.ro, c1, c2]
theorem law_fault {L : Nat} {xs : Nat → Int32} {i : Nat} (hi : i + 5 ≤ L) (hL : L ≤ 320) : LGo L xs i 244 := by
  rintro h ⟨S, hI, rc, rm, c0, n1, n2⟩
  have w : OpW M_X8_fault M_X9_fault [] S := (op_fault hI).w
  obtain ⟨r, S', h1, h2, iS, c1, c2, rc1, rc2, rm2, f1, f2⟩ := w h rc rm
  obtain ⟨v, rfl⟩ := kI rfl c1
  have c01 : h1.2.2 0 = some (iA L xs) := (f1.1 0 (Or.inl rfl)).trans c0
  have rm1 : RepM h1 S := rm.fr (fun y hy => f1.1 y (Or.inr hy))
  refine ⟨h2, ⟨S', iS, rc2, rm2, (f2.1 0 (by decide)).trans c01, by rw [f2.2.1, f1.2.1]; exact n1, by rw [f2.2.2, f1.2.2]; exact n2⟩, ?_⟩
  simp only [r_L_law_244, r_L_law_245, r_L_law_248, r_L_law_249, r_L_law_252, ↓reduceIte, Option.isSome_some, Option.getD_some, rL_v, rL_n, cH_s, List.cons_append, List.nil_append, cat_i, cat_r, cat_n, ofN, nI_add, rc.ro, rm1.ro, c1, c2]
theorem law_told {L : Nat} {xs : Nat → Int32} {i : Nat} (hi : i + 5 ≤ L) (hL : L ≤ 320) : LGo L xs i 257 := by
  rintro h ⟨S, hI, rc, rm, c0, n1, n2⟩
  have w : OpW M_X8_told M_X9_told [.int (xs (i + 1))] S := (op_told hI _).w
  obtain ⟨r, S', h1, h2, iS, c1, c2, rc1, rc2, rm2, f1, f2⟩ := w h rc rm
  obtain ⟨v, rfl⟩ := kI rfl c1
  have c01 : h1.2.2 0 = some (iA L xs) := (f1.1 0 (Or.inl rfl)).trans c0
  have rm1 : RepM h1 S := rm.fr (fun y hy => f1.1 y (Or.inr hy))
  refine ⟨h2, ⟨S', iS, rc2, rm2, (f2.1 0 (by decide)).trans c01, by rw [f2.2.1, f1.2.1]; exact n1, by rw [f2.2.2, f1.2.2]; exact n2⟩, ?_⟩
  simp only [r_L_law_257, r_L_law_258, r_L_law_259, r_L_law_260, r_L_law_261, r_L_law_262, r_L_law_263, r_L_law_266, r_L_law_267, r_L_law_268, r_L_law_269, r_L_law_270, r_L_law_271, r_L_law_272, r_L_law_275, ↓reduceIte, Option.isSome_some, Option.getD_some, rL_v, rL_n, cH_s, List.cons_append, List.nil_append, cat_i, cat_r, cat_n, ofN, nI_add, rc.ro, rm1.ro, c1, c2, gI_nI c0 (by omega) (show i + 1 < L by omega), gI_nI c01 (by omega) (show i + 1 < L by omega)]
theorem law_part {L : Nat} {xs : Nat → Int32} {i : Nat} (hi : i + 5 ≤ L) (hL : L ≤ 320) : LGo L xs i 280 := by
  rintro h ⟨S, hI, rc, rm, c0, n1, n2⟩
  have w : OpW M_X8_part M_X9_part [.int (xs (i + 1)), .int (xs (i + 2))] S := (op_part hI _ _).w
  obtain ⟨r, S', h1, h2, iS, c1, c2, rc1, rc2, rm2, f1, f2⟩ := w h rc rm
  obtain ⟨v, rfl⟩ := kI rfl c1
  have c01 : h1.2.2 0 = some (iA L xs) := (f1.1 0 (Or.inl rfl)).trans c0
  have rm1 : RepM h1 S := rm.fr (fun y hy => f1.1 y (Or.inr hy))
  refine ⟨h2, ⟨S', iS, rc2, rm2, (f2.1 0 (by decide)).trans c01, by rw [f2.2.1, f1.2.1]; exact n1, by rw [f2.2.2, f1.2.2]; exact n2⟩, ?_⟩
  simp only [r_L_law_280, r_L_law_281, r_L_law_282, r_L_law_283, r_L_law_284, r_L_law_285, r_L_law_286, r_L_law_287, r_L_law_288, r_L_law_289, r_L_law_290, r_L_law_291, r_L_law_294, r_L_law_295, r_L_law_296, r_L_law_297, r_L_law_298, r_L_law_299, r_L_law_300, r_L_law_301, r_L_law_302, r_L_law_303, r_L_law_304, r_L_law_305, r_L_law_308, ↓reduceIte, Option.isSome_some, Option.getD_some, rL_v, rL_n, cH_s, List.cons_append, List.nil_append, cat_i, cat_r, cat_n, ofN, nI_add, rc.ro, rm1.ro, c1, c2, gI_nI c0 (by omega) (show i + 1 < L by omega), gI_nI c01 (by omega) (show i + 1 < L by omega), gI_nI c0 (by omega) (show i + 2 < L by omega), gI_nI c01 (by omega) (show i + 2 < L by omega)]
theorem law_length {L : Nat} {xs : Nat → Int32} {i : Nat} (hi : i + 5 ≤ L) (hL : L ≤ 320) : LGo L xs i 313 := by
  rintro h ⟨S, hI, rc, rm, c0, n1, n2⟩
  have w : OpW M_X8_length M_X9_length [.int (xs (i + 1)), .int (xs (i + 2))] S := (op_length hI _ _).w
  obtain ⟨r, S', h1, h2, iS, c1, c2, rc1, rc2, rm2, f1, f2⟩ := w h rc rm
  obtain ⟨v, rfl⟩ := kI rfl c1
  have c01 : h1.2.2 0 = some (iA L xs) := (f1.1 0 (Or.inl rfl)).trans c0
  have rm1 : RepM h1 S := rm.fr (fun y hy => f1.1 y (Or.inr hy))
  refine ⟨h2, ⟨S', iS, rc2, rm2, (f2.1 0 (by decide)).trans c01, by rw [f2.2.1, f1.2.1]; exact n1, by rw [f2.2.2, f1.2.2]; exact n2⟩, ?_⟩
  simp only [r_L_law_313, r_L_law_314, r_L_law_315, r_L_law_316, r_L_law_317, r_L_law_318, r_L_law_319, r_L_law_320, r_L_law_321, r_L_law_322, r_L_law_323, r_L_law_324, r_L_law_327, r_L_law_328, r_L_law_329, r_L_law_330, r_L_law_331, r_L_law_332, r_L_law_333, r_L_law_334, r_L_law_335, r_L_law_336, r_L_law_337, r_L_law_338, r_L_law_341, ↓reduceIte, Option.isSome_some, Option.getD_some, rL_v, rL_n, cH_s, List.cons_append, List.nil_append, cat_i, cat_r, cat_n, ofN, nI_add, rc.ro, rm1.ro, c1, c2, gI_nI c0 (by omega) (show i + 1 < L by omega), gI_nI c01 (by omega) (show i + 1 < L by omega), gI_nI c0 (by omega) (show i + 2 < L by omega), gI_nI c01 (by omega) (show i + 2 < L by omega)]
theorem law_player {L : Nat} {xs : Nat → Int32} {i : Nat} (hi : i + 5 ≤ L) (hL : L ≤ 320) : LGo L xs i 346 := by
  rintro h ⟨S, hI, rc, rm, c0, n1, n2⟩
  have w : OpW M_X8_player M_X9_player [.int (xs (i + 1)), .int (xs (i + 2))] S := (op_player hI _ _).w
  obtain ⟨r, S', h1, h2, iS, c1, c2, rc1, rc2, rm2, f1, f2⟩ := w h rc rm
  obtain ⟨v, rfl⟩ := kI rfl c1
  have c01 : h1.2.2 0 = some (iA L xs) := (f1.1 0 (Or.inl rfl)).trans c0
  have rm1 : RepM h1 S := rm.fr (fun y hy => f1.1 y (Or.inr hy))
  refine ⟨h2, ⟨S', iS, rc2, rm2, (f2.1 0 (by decide)).trans c01, by rw [f2.2.1, f1.2.1]; exact n1, by rw [f2.2.2, f1.2.2]; exact n2⟩, ?_⟩
  simp only [r_L_law_346, r_L_law_347, r_L_law_348, r_L_law_349, r_L_law_350, r_L_law_351, r_L_law_352, r_L_law_353, r_L_law_354, r_L_law_355, r_L_law_356, r_L_law_357, r_L_law_360, r_L_law_361, r_L_law_362, r_L_law_363, r_L_law_364, r_L_law_365, r_L_law_366, r_L_law_367, r_L_law_368, r_L_law_369, r_L_law_370, r_L_law_371, r_L_law_374, ↓reduceIte, Option.isSome_some, Option.getD_some, rL_v, rL_n, cH_s, List.cons_append, List.nil_append, cat_i, cat_r, cat_n, ofN, nI_add, rc.ro, rm1.ro, c1, c2, gI_nI c0 (by omega) (show i + 1 < L by omega), gI_nI c01 (by omega) (show i + 1 < L by omega), gI_nI c0 (by omega) (show i + 2 < L by omega), gI_nI c01 (by omega) (show i + 2 < L by omega)]
theorem law_instrument {L : Nat} {xs : Nat → Int32} {i : Nat} (hi : i + 5 ≤ L) (hL : L ≤ 320) : LGo L xs i 379 := by
  rintro h ⟨S, hI, rc, rm, c0, n1, n2⟩
  have w : OpW M_X8_instrument M_X9_instrument [.int (xs (i + 1)), .int (xs (i + 2))] S := (op_instrument hI _ _).w
  obtain ⟨r, S', h1, h2, iS, c1, c2, rc1, rc2, rm2, f1, f2⟩ := w h rc rm
  obtain ⟨v, rfl⟩ := kI rfl c1
  have c01 : h1.2.2 0 = some (iA L xs) := (f1.1 0 (Or.inl rfl)).trans c0
  have rm1 : RepM h1 S := rm.fr (fun y hy => f1.1 y (Or.inr hy))
  refine ⟨h2, ⟨S', iS, rc2, rm2, (f2.1 0 (by decide)).trans c01, by rw [f2.2.1, f1.2.1]; exact n1, by rw [f2.2.2, f1.2.2]; exact n2⟩, ?_⟩
  simp only [r_L_law_379, r_L_law_380, r_L_law_381, r_L_law_382, r_L_law_383, r_L_law_384, r_L_law_385, r_L_law_386, r_L_law_387, r_L_law_388, r_L_law_389, r_L_law_390, r_L_law_393, r_L_law_394, r_L_law_395, r_L_law_396, r_L_law_397, r_L_law_398, r_L_law_399, r_L_law_400, r_L_law_401, r_L_law_402, r_L_law_403, r_L_law_404, r_L_law_407, ↓reduceIte, Option.isSome_some, Option.getD_some, rL_v, rL_n, cH_s, List.cons_append, List.nil_append, cat_i, cat_r, cat_n, ofN, nI_add, rc.ro, rm1.ro, c1, c2, gI_nI c0 (by omega) (show i + 1 < L by omega), gI_nI c01 (by omega) (show i + 1 < L by omega), gI_nI c0 (by omega) (show i + 2 < L by omega), gI_nI c01 (by omega) (show i + 2 < L by omega)]
theorem law_costs {L : Nat} {xs : Nat → Int32} {i : Nat} (hi : i + 5 ≤ L) (hL : L ≤ 320) : LGo L xs i 412 := by
  rintro h ⟨S, hI, rc, rm, c0, n1, n2⟩
  have w : OpW M_X8_costs M_X9_costs [.int (xs (i + 1)), .int (xs (i + 2)), .int (xs (i + 3))] S := (op_costs hI _ _ _).w
  obtain ⟨r, S', h1, h2, iS, c1, c2, rc1, rc2, rm2, f1, f2⟩ := w h rc rm
  obtain ⟨v, rfl⟩ := kI rfl c1
  have c01 : h1.2.2 0 = some (iA L xs) := (f1.1 0 (Or.inl rfl)).trans c0
  have rm1 : RepM h1 S := rm.fr (fun y hy => f1.1 y (Or.inr hy))
  refine ⟨h2, ⟨S', iS, rc2, rm2, (f2.1 0 (by decide)).trans c01, by rw [f2.2.1, f1.2.1]; exact n1, by rw [f2.2.2, f1.2.2]; exact n2⟩, ?_⟩
  simp only [r_L_law_412, r_L_law_413, r_L_law_414, r_L_law_415, r_L_law_416, r_L_law_417, r_L_law_418, r_L_law_419, r_L_law_420, r_L_law_421, r_L_law_422, r_L_law_423, r_L_law_424, r_L_law_425, r_L_law_426, r_L_law_427, r_L_law_428, r_L_law_431, r_L_law_432, r_L_law_433, r_L_law_434, r_L_law_435, r_L_law_436, r_L_law_437, r_L_law_438, r_L_law_439, r_L_law_440, r_L_law_441, r_L_law_442, r_L_law_443, r_L_law_444, r_L_law_445, r_L_law_446, r_L_law_447, r_L_law_450, ↓reduceIte, Option.isSome_some, Option.getD_some, rL_v, rL_n, cH_s, List.cons_append, List.nil_append, cat_i, cat_r, cat_n, ofN, nI_add, rc.ro, rm1.ro, c1, c2, gI_nI c0 (by omega) (show i + 1 < L by omega), gI_nI c01 (by omega) (show i + 1 < L by omega), gI_nI c0 (by omega) (show i + 2 < L by omega), gI_nI c01 (by omega) (show i + 2 < L by omega), gI_nI c0 (by omega) (show i + 3 < L by omega), gI_nI c01 (by omega) (show i + 3 < L by omega)]
theorem law_sign {L : Nat} {xs : Nat → Int32} {i : Nat} (hi : i + 5 ≤ L) (hL : L ≤ 320) : LGo L xs i 455 := by
  rintro h ⟨S, hI, rc, rm, c0, n1, n2⟩
  have w : OpW M_X8_sign M_X9_sign [.int (xs (i + 1)), .int (xs (i + 2))] S := (op_sign hI _ _).w
  obtain ⟨r, S', h1, h2, iS, c1, c2, rc1, rc2, rm2, f1, f2⟩ := w h rc rm
  obtain ⟨v, rfl⟩ := kI rfl c1
  have c01 : h1.2.2 0 = some (iA L xs) := (f1.1 0 (Or.inl rfl)).trans c0
  have rm1 : RepM h1 S := rm.fr (fun y hy => f1.1 y (Or.inr hy))
  refine ⟨h2, ⟨S', iS, rc2, rm2, (f2.1 0 (by decide)).trans c01, by rw [f2.2.1, f1.2.1]; exact n1, by rw [f2.2.2, f1.2.2]; exact n2⟩, ?_⟩
  simp only [r_L_law_455, r_L_law_456, r_L_law_457, r_L_law_458, r_L_law_459, r_L_law_460, r_L_law_461, r_L_law_462, r_L_law_463, r_L_law_464, r_L_law_465, r_L_law_466, r_L_law_469, r_L_law_470, r_L_law_471, r_L_law_472, r_L_law_473, r_L_law_474, r_L_law_475, r_L_law_476, r_L_law_477, r_L_law_478, r_L_law_479, r_L_law_480, r_L_law_483, ↓reduceIte, Option.isSome_some, Option.getD_some, rL_v, rL_n, cH_s, List.cons_append, List.nil_append, cat_i, cat_r, cat_n, ofN, nI_add, rc.ro, rm1.ro, c1, c2, gI_nI c0 (by omega) (show i + 1 < L by omega), gI_nI c01 (by omega) (show i + 1 < L by omega), gI_nI c0 (by omega) (show i + 2 < L by omega), gI_nI c01 (by omega) (show i + 2 < L by omega)]
theorem law_lags {L : Nat} {xs : Nat → Int32} {i : Nat} (hi : i + 5 ≤ L) (hL : L ≤ 320) : LGo L xs i 488 := by
  rintro h ⟨S, hI, rc, rm, c0, n1, n2⟩
  have w : OpW M_X8_lags M_X9_lags [.int (xs (i + 1)), .int (xs (i + 2)), .int (xs (i + 3))] S := (op_lags hI _ _ _).w
  obtain ⟨r, S', h1, h2, iS, c1, c2, rc1, rc2, rm2, f1, f2⟩ := w h rc rm
  obtain ⟨v, rfl⟩ := kI rfl c1
  have c01 : h1.2.2 0 = some (iA L xs) := (f1.1 0 (Or.inl rfl)).trans c0
  have rm1 : RepM h1 S := rm.fr (fun y hy => f1.1 y (Or.inr hy))
  refine ⟨h2, ⟨S', iS, rc2, rm2, (f2.1 0 (by decide)).trans c01, by rw [f2.2.1, f1.2.1]; exact n1, by rw [f2.2.2, f1.2.2]; exact n2⟩, ?_⟩
  simp only [r_L_law_488, r_L_law_489, r_L_law_490, r_L_law_491, r_L_law_492, r_L_law_493, r_L_law_494, r_L_law_495, r_L_law_496, r_L_law_497, r_L_law_498, r_L_law_499, r_L_law_500, r_L_law_501, r_L_law_502, r_L_law_503, r_L_law_504, r_L_law_507, r_L_law_508, r_L_law_509, r_L_law_510, r_L_law_511, r_L_law_512, r_L_law_513, r_L_law_514, r_L_law_515, r_L_law_516, r_L_law_517, r_L_law_518, r_L_law_519, r_L_law_520, r_L_law_521, r_L_law_522, r_L_law_523, r_L_law_526, ↓reduceIte, Option.isSome_some, Option.getD_some, rL_v, rL_n, cH_s, List.cons_append, List.nil_append, cat_i, cat_r, cat_n, ofN, nI_add, rc.ro, rm1.ro, c1, c2, gI_nI c0 (by omega) (show i + 1 < L by omega), gI_nI c01 (by omega) (show i + 1 < L by omega), gI_nI c0 (by omega) (show i + 2 < L by omega), gI_nI c01 (by omega) (show i + 2 < L by omega), gI_nI c0 (by omega) (show i + 3 < L by omega), gI_nI c01 (by omega) (show i + 3 < L by omega)]
theorem law_lead {L : Nat} {xs : Nat → Int32} {i : Nat} (hi : i + 5 ≤ L) (hL : L ≤ 320) : LGo L xs i 531 := by
  rintro h ⟨S, hI, rc, rm, c0, n1, n2⟩
  have w : OpW M_X8_lead M_X9_lead [.int (xs (i + 1))] S := (op_lead hI _).w
  obtain ⟨r, S', h1, h2, iS, c1, c2, rc1, rc2, rm2, f1, f2⟩ := w h rc rm
  obtain ⟨v, rfl⟩ := kI rfl c1
  have c01 : h1.2.2 0 = some (iA L xs) := (f1.1 0 (Or.inl rfl)).trans c0
  have rm1 : RepM h1 S := rm.fr (fun y hy => f1.1 y (Or.inr hy))
  refine ⟨h2, ⟨S', iS, rc2, rm2, (f2.1 0 (by decide)).trans c01, by rw [f2.2.1, f1.2.1]; exact n1, by rw [f2.2.2, f1.2.2]; exact n2⟩, ?_⟩
  simp only [r_L_law_531, r_L_law_532, r_L_law_533, r_L_law_534, r_L_law_535, r_L_law_536, r_L_law_537, r_L_law_540, r_L_law_541, r_L_law_542, r_L_law_543, r_L_law_544, r_L_law_545, r_L_law_546, r_L_law_549, ↓reduceIte, Option.isSome_some, Option.getD_some, rL_v, rL_n, cH_s, List.cons_append, List.nil_append, cat_i, cat_r, cat_n, ofN, nI_add, rc.ro, rm1.ro, c1, c2, gI_nI c0 (by omega) (show i + 1 < L by omega), gI_nI c01 (by omega) (show i + 1 < L by omega)]
theorem law_drift {L : Nat} {xs : Nat → Int32} {i : Nat} (hi : i + 5 ≤ L) (hL : L ≤ 320) : LGo L xs i 554 := by
  rintro h ⟨S, hI, rc, rm, c0, n1, n2⟩
  have w : OpW M_X8_drift M_X9_drift [.int (xs (i + 1))] S := (op_drift hI _).w
  obtain ⟨r, S', h1, h2, iS, c1, c2, rc1, rc2, rm2, f1, f2⟩ := w h rc rm
  obtain ⟨v, rfl⟩ := kI rfl c1
  have c01 : h1.2.2 0 = some (iA L xs) := (f1.1 0 (Or.inl rfl)).trans c0
  have rm1 : RepM h1 S := rm.fr (fun y hy => f1.1 y (Or.inr hy))
  refine ⟨h2, ⟨S', iS, rc2, rm2, (f2.1 0 (by decide)).trans c01, by rw [f2.2.1, f1.2.1]; exact n1, by rw [f2.2.2, f1.2.2]; exact n2⟩, ?_⟩
  simp only [r_L_law_554, r_L_law_555, r_L_law_556, r_L_law_557, r_L_law_558, r_L_law_559, r_L_law_560, r_L_law_563, r_L_law_564, r_L_law_565, r_L_law_566, r_L_law_567, r_L_law_568, r_L_law_569, r_L_law_572, ↓reduceIte, Option.isSome_some, Option.getD_some, rL_v, rL_n, cH_s, List.cons_append, List.nil_append, cat_i, cat_r, cat_n, ofN, nI_add, rc.ro, rm1.ro, c1, c2, gI_nI c0 (by omega) (show i + 1 < L by omega), gI_nI c01 (by omega) (show i + 1 < L by omega)]
theorem law_ends {L : Nat} {xs : Nat → Int32} {i : Nat} (hi : i + 5 ≤ L) (hL : L ≤ 320) : LGo L xs i 577 := by
  rintro h ⟨S, hI, rc, rm, c0, n1, n2⟩
  have w : OpW M_X8_ends M_X9_ends [.int (xs (i + 1)), .int (xs (i + 2))] S := (op_ends hI _ _).w
  obtain ⟨r, S', h1, h2, iS, c1, c2, rc1, rc2, rm2, f1, f2⟩ := w h rc rm
  obtain ⟨v, rfl⟩ := kJ noI_ends c1
  have c01 : h1.2.2 0 = some (iA L xs) := (f1.1 0 (Or.inl rfl)).trans c0
  have rm1 : RepM h1 S := rm.fr (fun y hy => f1.1 y (Or.inr hy))
  refine ⟨h2, ⟨S', iS, rc2, rm2, (f2.1 0 (by decide)).trans c01, by rw [f2.2.1, f1.2.1]; exact n1, by rw [f2.2.2, f1.2.2]; exact n2⟩, ?_⟩
  simp only [r_L_law_577, r_L_law_578, r_L_law_579, r_L_law_580, r_L_law_581, r_L_law_582, r_L_law_583, r_L_law_584, r_L_law_585, r_L_law_586, r_L_law_587, r_L_law_588, r_L_law_591, r_L_law_592, r_L_law_593, r_L_law_594, r_L_law_595, r_L_law_596, r_L_law_597, r_L_law_598, r_L_law_599, r_L_law_600, r_L_law_601, r_L_law_602, r_L_law_605, r_L_law_606, ↓reduceIte, Option.isSome_some, Option.getD_some, rL_v, rL_n, cH_s, List.cons_append, List.nil_append, cat_i, cat_r, cat_n, ofN, nI_add, rc.ro, rm1.ro, c1, c2, gI_nI c0 (by omega) (show i + 1 < L by omega), gI_nI c01 (by omega) (show i + 1 < L by omega), gI_nI c0 (by omega) (show i + 2 < L by omega), gI_nI c01 (by omega) (show i + 2 < L by omega), lg_self]
theorem law_by {L : Nat} {xs : Nat → Int32} {i : Nat} (hi : i + 5 ≤ L) (hL : L ≤ 320) : LGo L xs i 611 := by
  rintro h ⟨S, hI, rc, rm, c0, n1, n2⟩
  have w : OpW M_X8_by M_X9_by [.int (xs (i + 1)), .int (xs (i + 2))] S := (op_by hI _ _).w
  obtain ⟨r, S', h1, h2, iS, c1, c2, rc1, rc2, rm2, f1, f2⟩ := w h rc rm
  obtain ⟨v, rfl⟩ := kJ noI_by c1
  have c01 : h1.2.2 0 = some (iA L xs) := (f1.1 0 (Or.inl rfl)).trans c0
  have rm1 : RepM h1 S := rm.fr (fun y hy => f1.1 y (Or.inr hy))
  refine ⟨h2, ⟨S', iS, rc2, rm2, (f2.1 0 (by decide)).trans c01, by rw [f2.2.1, f1.2.1]; exact n1, by rw [f2.2.2, f1.2.2]; exact n2⟩, ?_⟩
  simp only [r_L_law_611, r_L_law_612, r_L_law_613, r_L_law_614, r_L_law_615, r_L_law_616, r_L_law_617, r_L_law_618, r_L_law_619, r_L_law_620, r_L_law_621, r_L_law_622, r_L_law_625, r_L_law_626, r_L_law_627, r_L_law_628, r_L_law_629, r_L_law_630, r_L_law_631, r_L_law_632, r_L_law_633, r_L_law_634, r_L_law_635, r_L_law_636, r_L_law_639, r_L_law_640, ↓reduceIte, Option.isSome_some, Option.getD_some, rL_v, rL_n, cH_s, List.cons_append, List.nil_append, cat_i, cat_r, cat_n, ofN, nI_add, rc.ro, rm1.ro, c1, c2, gI_nI c0 (by omega) (show i + 1 < L by omega), gI_nI c01 (by omega) (show i + 1 < L by omega), gI_nI c0 (by omega) (show i + 2 < L by omega), gI_nI c01 (by omega) (show i + 2 < L by omega), lg_self]
theorem law_mean {L : Nat} {xs : Nat → Int32} {i : Nat} (hi : i + 5 ≤ L) (hL : L ≤ 320) : LGo L xs i 645 := by
  rintro h ⟨S, hI, rc, rm, c0, n1, n2⟩
  have w : OpW M_X8_mean M_X9_mean [.int (xs (i + 1))] S := (op_mean hI _).w
  obtain ⟨r, S', h1, h2, iS, c1, c2, rc1, rc2, rm2, f1, f2⟩ := w h rc rm
  obtain ⟨v, rfl⟩ := kJ noI_mean c1
  have c01 : h1.2.2 0 = some (iA L xs) := (f1.1 0 (Or.inl rfl)).trans c0
  have rm1 : RepM h1 S := rm.fr (fun y hy => f1.1 y (Or.inr hy))
  refine ⟨h2, ⟨S', iS, rc2, rm2, (f2.1 0 (by decide)).trans c01, by rw [f2.2.1, f1.2.1]; exact n1, by rw [f2.2.2, f1.2.2]; exact n2⟩, ?_⟩
  simp only [r_L_law_645, r_L_law_646, r_L_law_647, r_L_law_648, r_L_law_649, r_L_law_650, r_L_law_651, r_L_law_654, r_L_law_655, r_L_law_656, r_L_law_657, r_L_law_658, r_L_law_659, r_L_law_660, r_L_law_663, r_L_law_664, ↓reduceIte, Option.isSome_some, Option.getD_some, rL_v, rL_n, cH_s, List.cons_append, List.nil_append, cat_i, cat_r, cat_n, ofN, nI_add, rc.ro, rm1.ro, c1, c2, gI_nI c0 (by omega) (show i + 1 < L by omega), gI_nI c01 (by omega) (show i + 1 < L by omega), lg_self]
theorem law_edge {L : Nat} {xs : Nat → Int32} {i : Nat} (hi : i + 5 ≤ L) (hL : L ≤ 320) : LGo L xs i 669 := by
  rintro h ⟨S, hI, rc, rm, c0, n1, n2⟩
  have w : OpW M_X8_edge M_X9_edge [.int (xs (i + 1))] S := (op_edge hI _).w
  obtain ⟨r, S', h1, h2, iS, c1, c2, rc1, rc2, rm2, f1, f2⟩ := w h rc rm
  obtain ⟨v, rfl⟩ := kI rfl c1
  have c01 : h1.2.2 0 = some (iA L xs) := (f1.1 0 (Or.inl rfl)).trans c0
  have rm1 : RepM h1 S := rm.fr (fun y hy => f1.1 y (Or.inr hy))
  refine ⟨h2, ⟨S', iS, rc2, rm2, (f2.1 0 (by decide)).trans c01, by rw [f2.2.1, f1.2.1]; exact n1, by rw [f2.2.2, f1.2.2]; exact n2⟩, ?_⟩
  simp only [r_L_law_669, r_L_law_670, r_L_law_671, r_L_law_672, r_L_law_673, r_L_law_674, r_L_law_675, r_L_law_678, r_L_law_679, r_L_law_680, r_L_law_681, r_L_law_682, r_L_law_683, r_L_law_684, r_L_law_687, ↓reduceIte, Option.isSome_some, Option.getD_some, rL_v, rL_n, cH_s, List.cons_append, List.nil_append, cat_i, cat_r, cat_n, ofN, nI_add, rc.ro, rm1.ro, c1, c2, gI_nI c0 (by omega) (show i + 1 < L by omega), gI_nI c01 (by omega) (show i + 1 < L by omega)]
theorem law_starts {L : Nat} {xs : Nat → Int32} {i : Nat} (hi : i + 5 ≤ L) (hL : L ≤ 320) : LGo L xs i 692 := by
  rintro h ⟨S, hI, rc, rm, c0, n1, n2⟩
  have w : OpW M_X8_starts M_X9_starts [.int (xs (i + 1)), .int (xs (i + 2)), .int (xs (i + 3))] S := (op_starts hI _ _ _).w
  obtain ⟨r, S', h1, h2, iS, c1, c2, rc1, rc2, rm2, f1, f2⟩ := w h rc rm
  obtain ⟨v, rfl⟩ := kJ noI_starts c1
  have c01 : h1.2.2 0 = some (iA L xs) := (f1.1 0 (Or.inl rfl)).trans c0
  have rm1 : RepM h1 S := rm.fr (fun y hy => f1.1 y (Or.inr hy))
  refine ⟨h2, ⟨S', iS, rc2, rm2, (f2.1 0 (by decide)).trans c01, by rw [f2.2.1, f1.2.1]; exact n1, by rw [f2.2.2, f1.2.2]; exact n2⟩, ?_⟩
  simp only [r_L_law_692, r_L_law_693, r_L_law_694, r_L_law_695, r_L_law_696, r_L_law_697, r_L_law_698, r_L_law_699, r_L_law_700, r_L_law_701, r_L_law_702, r_L_law_703, r_L_law_704, r_L_law_705, r_L_law_706, r_L_law_707, r_L_law_708, r_L_law_711, r_L_law_712, r_L_law_713, r_L_law_714, r_L_law_715, r_L_law_716, r_L_law_717, r_L_law_718, r_L_law_719, r_L_law_720, r_L_law_721, r_L_law_722, r_L_law_723, r_L_law_724, r_L_law_725, r_L_law_726, r_L_law_727, r_L_law_730, r_L_law_731, ↓reduceIte, Option.isSome_some, Option.getD_some, rL_v, rL_n, cH_s, List.cons_append, List.nil_append, cat_i, cat_r, cat_n, ofN, nI_add, rc.ro, rm1.ro, c1, c2, gI_nI c0 (by omega) (show i + 1 < L by omega), gI_nI c01 (by omega) (show i + 1 < L by omega), gI_nI c0 (by omega) (show i + 2 < L by omega), gI_nI c01 (by omega) (show i + 2 < L by omega), gI_nI c0 (by omega) (show i + 3 < L by omega), gI_nI c01 (by omega) (show i + 3 < L by omega), lg_self]
theorem law_isIt {L : Nat} {xs : Nat → Int32} {i : Nat} (hi : i + 5 ≤ L) (hL : L ≤ 320) : LGo L xs i 736 := by
  rintro h ⟨S, hI, rc, rm, c0, n1, n2⟩
  have w : OpW M_X8_isIt M_X9_isIt [.int (xs (i + 1)), .int (xs (i + 2)), .int (xs (i + 3)), .int (xs (i + 4))] S := (op_isIt hI _ _ _ _).w
  obtain ⟨r, S', h1, h2, iS, c1, c2, rc1, rc2, rm2, f1, f2⟩ := w h rc rm
  obtain ⟨v, rfl⟩ := kJ noI_isIt c1
  have c01 : h1.2.2 0 = some (iA L xs) := (f1.1 0 (Or.inl rfl)).trans c0
  have rm1 : RepM h1 S := rm.fr (fun y hy => f1.1 y (Or.inr hy))
  refine ⟨h2, ⟨S', iS, rc2, rm2, (f2.1 0 (by decide)).trans c01, by rw [f2.2.1, f1.2.1]; exact n1, by rw [f2.2.2, f1.2.2]; exact n2⟩, ?_⟩
  simp only [r_L_law_736, r_L_law_737, r_L_law_738, r_L_law_739, r_L_law_740, r_L_law_741, r_L_law_742, r_L_law_743, r_L_law_744, r_L_law_745, r_L_law_746, r_L_law_747, r_L_law_748, r_L_law_749, r_L_law_750, r_L_law_751, r_L_law_752, r_L_law_753, r_L_law_754, r_L_law_755, r_L_law_756, r_L_law_757, r_L_law_760, r_L_law_761, r_L_law_762, r_L_law_763, r_L_law_764, r_L_law_765, r_L_law_766, r_L_law_767, r_L_law_768, r_L_law_769, r_L_law_770, r_L_law_771, r_L_law_772, r_L_law_773, r_L_law_774, r_L_law_775, r_L_law_776, r_L_law_777, r_L_law_778, r_L_law_779, r_L_law_780, r_L_law_781, r_L_law_784, r_L_law_785, ↓reduceIte, Option.isSome_some, Option.getD_some, rL_v, rL_n, cH_s, List.cons_append, List.nil_append, cat_i, cat_r, cat_n, ofN, nI_add, rc.ro, rm1.ro, c1, c2, gI_nI c0 (by omega) (show i + 1 < L by omega), gI_nI c01 (by omega) (show i + 1 < L by omega), gI_nI c0 (by omega) (show i + 2 < L by omega), gI_nI c01 (by omega) (show i + 2 < L by omega), gI_nI c0 (by omega) (show i + 3 < L by omega), gI_nI c01 (by omega) (show i + 3 < L by omega), gI_nI c0 (by omega) (show i + 4 < L by omega), gI_nI c01 (by omega) (show i + 4 < L by omega), lg_self]
theorem law_go {L : Nat} {xs : Nat → Int32} {i : Nat} (hi : i + 5 ≤ L) (hL : L ≤ 320) : LGo L xs i 790 := by
  rintro h ⟨S, hI, rc, rm, c0, n1, n2⟩
  have w : OpW M_X8_go M_X9_go [.int (xs (i + 1)), .int (xs (i + 2))] S := (op_go hI _ _).w
  obtain ⟨r, S', h1, h2, iS, c1, c2, rc1, rc2, rm2, f1, f2⟩ := w h rc rm
  obtain ⟨v, rfl⟩ := kJ noI_go c1
  have c01 : h1.2.2 0 = some (iA L xs) := (f1.1 0 (Or.inl rfl)).trans c0
  have rm1 : RepM h1 S := rm.fr (fun y hy => f1.1 y (Or.inr hy))
  refine ⟨h2, ⟨S', iS, rc2, rm2, (f2.1 0 (by decide)).trans c01, by rw [f2.2.1, f1.2.1]; exact n1, by rw [f2.2.2, f1.2.2]; exact n2⟩, ?_⟩
  simp only [r_L_law_790, r_L_law_791, r_L_law_792, r_L_law_793, r_L_law_794, r_L_law_795, r_L_law_796, r_L_law_797, r_L_law_798, r_L_law_799, r_L_law_800, r_L_law_801, r_L_law_804, r_L_law_805, r_L_law_806, r_L_law_807, r_L_law_808, r_L_law_809, r_L_law_810, r_L_law_811, r_L_law_812, r_L_law_813, r_L_law_814, r_L_law_815, r_L_law_818, r_L_law_819, ↓reduceIte, Option.isSome_some, Option.getD_some, rL_v, rL_n, cH_s, List.cons_append, List.nil_append, cat_i, cat_r, cat_n, ofN, nI_add, rc.ro, rm1.ro, c1, c2, gI_nI c0 (by omega) (show i + 1 < L by omega), gI_nI c01 (by omega) (show i + 1 < L by omega), gI_nI c0 (by omega) (show i + 2 < L by omega), gI_nI c01 (by omega) (show i + 2 < L by omega), lg_self]
theorem law_bestGo {L : Nat} {xs : Nat → Int32} {i : Nat} (hi : i + 5 ≤ L) (hL : L ≤ 320) : LGo L xs i 824 := by
  rintro h ⟨S, hI, rc, rm, c0, n1, n2⟩
  have w : OpW M_X8_bestGo M_X9_bestGo [] S := (op_bestGo hI).w
  obtain ⟨r, S', h1, h2, iS, c1, c2, rc1, rc2, rm2, f1, f2⟩ := w h rc rm
  obtain ⟨v, rfl⟩ := kI rfl c1
  have c01 : h1.2.2 0 = some (iA L xs) := (f1.1 0 (Or.inl rfl)).trans c0
  have rm1 : RepM h1 S := rm.fr (fun y hy => f1.1 y (Or.inr hy))
  refine ⟨h2, ⟨S', iS, rc2, rm2, (f2.1 0 (by decide)).trans c01, by rw [f2.2.1, f1.2.1]; exact n1, by rw [f2.2.2, f1.2.2]; exact n2⟩, ?_⟩
  simp only [r_L_law_824, r_L_law_825, r_L_law_828, r_L_law_829, r_L_law_832, ↓reduceIte, Option.isSome_some, Option.getD_some, rL_v, rL_n, cH_s, List.cons_append, List.nil_append, cat_i, cat_r, cat_n, ofN, nI_add, rc.ro, rm1.ro, c1, c2]
theorem law_lift {L : Nat} {xs : Nat → Int32} {i : Nat} (hi : i + 5 ≤ L) (hL : L ≤ 320) : LGo L xs i 837 := by
  rintro h ⟨S, hI, rc, rm, c0, n1, n2⟩
  have w : OpW M_X8_lift M_X9_lift [.int (xs (i + 1)), .int (xs (i + 2)), .int (xs (i + 3))] S := (op_lift hI _ _ _).w
  obtain ⟨r, S', h1, h2, iS, c1, c2, rc1, rc2, rm2, f1, f2⟩ := w h rc rm
  obtain ⟨v, rfl⟩ := kJ noI_lift c1
  have c01 : h1.2.2 0 = some (iA L xs) := (f1.1 0 (Or.inl rfl)).trans c0
  have rm1 : RepM h1 S := rm.fr (fun y hy => f1.1 y (Or.inr hy))
  refine ⟨h2, ⟨S', iS, rc2, rm2, (f2.1 0 (by decide)).trans c01, by rw [f2.2.1, f1.2.1]; exact n1, by rw [f2.2.2, f1.2.2]; exact n2⟩, ?_⟩
  simp only [r_L_law_837, r_L_law_838, r_L_law_839, r_L_law_840, r_L_law_841, r_L_law_842, r_L_law_843, r_L_law_844, r_L_law_845, r_L_law_846, r_L_law_847, r_L_law_848, r_L_law_849, r_L_law_850, r_L_law_851, r_L_law_852, r_L_law_853, r_L_law_856, r_L_law_857, r_L_law_858, r_L_law_859, r_L_law_860, r_L_law_861, r_L_law_862, r_L_law_863, r_L_law_864, r_L_law_865, r_L_law_866, r_L_law_867, r_L_law_868, r_L_law_869, r_L_law_870, r_L_law_871, r_L_law_872, r_L_law_875, r_L_law_876, ↓reduceIte, Option.isSome_some, Option.getD_some, rL_v, rL_n, cH_s, List.cons_append, List.nil_append, cat_i, cat_r, cat_n, ofN, nI_add, rc.ro, rm1.ro, c1, c2, gI_nI c0 (by omega) (show i + 1 < L by omega), gI_nI c01 (by omega) (show i + 1 < L by omega), gI_nI c0 (by omega) (show i + 2 < L by omega), gI_nI c01 (by omega) (show i + 2 < L by omega), gI_nI c0 (by omega) (show i + 3 < L by omega), gI_nI c01 (by omega) (show i + 3 < L by omega), lg_self]
theorem law_bestLift {L : Nat} {xs : Nat → Int32} {i : Nat} (hi : i + 5 ≤ L) (hL : L ≤ 320) : LGo L xs i 881 := by
  rintro h ⟨S, hI, rc, rm, c0, n1, n2⟩
  have w : OpW M_X8_bestLift M_X9_bestLift [.int (xs (i + 1))] S := (op_bestLift hI _).w
  obtain ⟨r, S', h1, h2, iS, c1, c2, rc1, rc2, rm2, f1, f2⟩ := w h rc rm
  obtain ⟨v, rfl⟩ := kI rfl c1
  have c01 : h1.2.2 0 = some (iA L xs) := (f1.1 0 (Or.inl rfl)).trans c0
  have rm1 : RepM h1 S := rm.fr (fun y hy => f1.1 y (Or.inr hy))
  refine ⟨h2, ⟨S', iS, rc2, rm2, (f2.1 0 (by decide)).trans c01, by rw [f2.2.1, f1.2.1]; exact n1, by rw [f2.2.2, f1.2.2]; exact n2⟩, ?_⟩
  simp only [r_L_law_881, r_L_law_882, r_L_law_883, r_L_law_884, r_L_law_885, r_L_law_886, r_L_law_887, r_L_law_890, r_L_law_891, r_L_law_892, r_L_law_893, r_L_law_894, r_L_law_895, r_L_law_896, r_L_law_899, ↓reduceIte, Option.isSome_some, Option.getD_some, rL_v, rL_n, cH_s, List.cons_append, List.nil_append, cat_i, cat_r, cat_n, ofN, nI_add, rc.ro, rm1.ro, c1, c2, gI_nI c0 (by omega) (show i + 1 < L by omega), gI_nI c01 (by omega) (show i + 1 < L by omega)]
theorem law_saved {L : Nat} {xs : Nat → Int32} {i : Nat} (hi : i + 5 ≤ L) (hL : L ≤ 320) : LGo L xs i 904 := by
  rintro h ⟨S, hI, rc, rm, c0, n1, n2⟩
  have w : OpW M_X8_saved M_X9_saved [.int (xs (i + 1)), .int (xs (i + 2))] S := (op_saved hI _ _).w
  obtain ⟨r, S', h1, h2, iS, c1, c2, rc1, rc2, rm2, f1, f2⟩ := w h rc rm
  obtain ⟨v, rfl⟩ := kJ noI_saved c1
  have c01 : h1.2.2 0 = some (iA L xs) := (f1.1 0 (Or.inl rfl)).trans c0
  have rm1 : RepM h1 S := rm.fr (fun y hy => f1.1 y (Or.inr hy))
  refine ⟨h2, ⟨S', iS, rc2, rm2, (f2.1 0 (by decide)).trans c01, by rw [f2.2.1, f1.2.1]; exact n1, by rw [f2.2.2, f1.2.2]; exact n2⟩, ?_⟩
  simp only [r_L_law_904, r_L_law_905, r_L_law_906, r_L_law_907, r_L_law_908, r_L_law_909, r_L_law_910, r_L_law_911, r_L_law_912, r_L_law_913, r_L_law_914, r_L_law_915, r_L_law_918, r_L_law_919, r_L_law_920, r_L_law_921, r_L_law_922, r_L_law_923, r_L_law_924, r_L_law_925, r_L_law_926, r_L_law_927, r_L_law_928, r_L_law_929, r_L_law_932, r_L_law_933, ↓reduceIte, Option.isSome_some, Option.getD_some, rL_v, rL_n, cH_s, List.cons_append, List.nil_append, cat_i, cat_r, cat_n, ofN, nI_add, rc.ro, rm1.ro, c1, c2, gI_nI c0 (by omega) (show i + 1 < L by omega), gI_nI c01 (by omega) (show i + 1 < L by omega), gI_nI c0 (by omega) (show i + 2 < L by omega), gI_nI c01 (by omega) (show i + 2 < L by omega), lg_self]
theorem law_apart {L : Nat} {xs : Nat → Int32} {i : Nat} (hi : i + 5 ≤ L) (hL : L ≤ 320) : LGo L xs i 938 := by
  rintro h ⟨S, hI, rc, rm, c0, n1, n2⟩
  have w : OpW M_X8_apart M_X9_apart [] S := (op_apart hI).w
  obtain ⟨r, S', h1, h2, iS, c1, c2, rc1, rc2, rm2, f1, f2⟩ := w h rc rm
  obtain ⟨v, rfl⟩ := kI rfl c1
  have c01 : h1.2.2 0 = some (iA L xs) := (f1.1 0 (Or.inl rfl)).trans c0
  have rm1 : RepM h1 S := rm.fr (fun y hy => f1.1 y (Or.inr hy))
  refine ⟨h2, ⟨S', iS, rc2, rm2, (f2.1 0 (by decide)).trans c01, by rw [f2.2.1, f1.2.1]; exact n1, by rw [f2.2.2, f1.2.2]; exact n2⟩, ?_⟩
  simp only [r_L_law_938, r_L_law_939, r_L_law_942, r_L_law_943, r_L_law_946, ↓reduceIte, Option.isSome_some, Option.getD_some, rL_v, rL_n, cH_s, List.cons_append, List.nil_append, cat_i, cat_r, cat_n, ofN, nI_add, rc.ro, rm1.ro, c1, c2]
theorem law_bestWay {L : Nat} {xs : Nat → Int32} {i : Nat} (hi : i + 5 ≤ L) (hL : L ≤ 320) : LGo L xs i 951 := by
  rintro h ⟨S, hI, rc, rm, c0, n1, n2⟩
  have w : OpW M_X8_bestWay M_X9_bestWay [.int (xs (i + 1))] S := (op_bestWay hI _).w
  obtain ⟨r, S', h1, h2, iS, c1, c2, rc1, rc2, rm2, f1, f2⟩ := w h rc rm
  obtain ⟨v, rfl⟩ := kI rfl c1
  have c01 : h1.2.2 0 = some (iA L xs) := (f1.1 0 (Or.inl rfl)).trans c0
  have rm1 : RepM h1 S := rm.fr (fun y hy => f1.1 y (Or.inr hy))
  refine ⟨h2, ⟨S', iS, rc2, rm2, (f2.1 0 (by decide)).trans c01, by rw [f2.2.1, f1.2.1]; exact n1, by rw [f2.2.2, f1.2.2]; exact n2⟩, ?_⟩
  simp only [r_L_law_951, r_L_law_952, r_L_law_953, r_L_law_954, r_L_law_955, r_L_law_956, r_L_law_957, r_L_law_960, r_L_law_961, r_L_law_962, r_L_law_963, r_L_law_964, r_L_law_965, r_L_law_966, r_L_law_969, ↓reduceIte, Option.isSome_some, Option.getD_some, rL_v, rL_n, cH_s, List.cons_append, List.nil_append, cat_i, cat_r, cat_n, ofN, nI_add, rc.ro, rm1.ro, c1, c2, gI_nI c0 (by omega) (show i + 1 < L by omega), gI_nI c01 (by omega) (show i + 1 < L by omega)]
theorem law_lookers {L : Nat} {xs : Nat → Int32} {i : Nat} (hi : i + 5 ≤ L) (hL : L ≤ 320) : LGo L xs i 974 := by
  rintro h ⟨S, hI, rc, rm, c0, n1, n2⟩
  have w : OpW M_X8_lookers M_X9_lookers [.int (xs (i + 1)), .int (xs (i + 2))] S := (op_lookers hI _ _).w
  obtain ⟨r, S', h1, h2, iS, c1, c2, rc1, rc2, rm2, f1, f2⟩ := w h rc rm
  obtain ⟨v, rfl⟩ := kI rfl c1
  have c01 : h1.2.2 0 = some (iA L xs) := (f1.1 0 (Or.inl rfl)).trans c0
  have rm1 : RepM h1 S := rm.fr (fun y hy => f1.1 y (Or.inr hy))
  refine ⟨h2, ⟨S', iS, rc2, rm2, (f2.1 0 (by decide)).trans c01, by rw [f2.2.1, f1.2.1]; exact n1, by rw [f2.2.2, f1.2.2]; exact n2⟩, ?_⟩
  simp only [r_L_law_974, r_L_law_975, r_L_law_976, r_L_law_977, r_L_law_978, r_L_law_979, r_L_law_980, r_L_law_981, r_L_law_982, r_L_law_983, r_L_law_984, r_L_law_985, r_L_law_988, r_L_law_989, r_L_law_990, r_L_law_991, r_L_law_992, r_L_law_993, r_L_law_994, r_L_law_995, r_L_law_996, r_L_law_997, r_L_law_998, r_L_law_999, r_L_law_1002, ↓reduceIte, Option.isSome_some, Option.getD_some, rL_v, rL_n, cH_s, List.cons_append, List.nil_append, cat_i, cat_r, cat_n, ofN, nI_add, rc.ro, rm1.ro, c1, c2, gI_nI c0 (by omega) (show i + 1 < L by omega), gI_nI c01 (by omega) (show i + 1 < L by omega), gI_nI c0 (by omega) (show i + 2 < L by omega), gI_nI c01 (by omega) (show i + 2 < L by omega)]
theorem law_claps {L : Nat} {xs : Nat → Int32} {i : Nat} (hi : i + 5 ≤ L) (hL : L ≤ 320) : LGo L xs i 1007 := by
  rintro h ⟨S, hI, rc, rm, c0, n1, n2⟩
  have w : OpW M_X8_claps M_X9_claps [.int (xs (i + 1)), .int (xs (i + 2))] S := (op_claps hI _ _).w
  obtain ⟨r, S', h1, h2, iS, c1, c2, rc1, rc2, rm2, f1, f2⟩ := w h rc rm
  obtain ⟨v, rfl⟩ := kJ noI_claps c1
  have c01 : h1.2.2 0 = some (iA L xs) := (f1.1 0 (Or.inl rfl)).trans c0
  have rm1 : RepM h1 S := rm.fr (fun y hy => f1.1 y (Or.inr hy))
  refine ⟨h2, ⟨S', iS, rc2, rm2, (f2.1 0 (by decide)).trans c01, by rw [f2.2.1, f1.2.1]; exact n1, by rw [f2.2.2, f1.2.2]; exact n2⟩, ?_⟩
  simp only [r_L_law_1007, r_L_law_1008, r_L_law_1009, r_L_law_1010, r_L_law_1011, r_L_law_1012, r_L_law_1013, r_L_law_1014, r_L_law_1015, r_L_law_1016, r_L_law_1017, r_L_law_1018, r_L_law_1021, r_L_law_1022, r_L_law_1023, r_L_law_1024, r_L_law_1025, r_L_law_1026, r_L_law_1027, r_L_law_1028, r_L_law_1029, r_L_law_1030, r_L_law_1031, r_L_law_1032, r_L_law_1035, r_L_law_1036, ↓reduceIte, Option.isSome_some, Option.getD_some, rL_v, rL_n, cH_s, List.cons_append, List.nil_append, cat_i, cat_r, cat_n, ofN, nI_add, rc.ro, rm1.ro, c1, c2, gI_nI c0 (by omega) (show i + 1 < L by omega), gI_nI c01 (by omega) (show i + 1 < L by omega), gI_nI c0 (by omega) (show i + 2 < L by omega), gI_nI c01 (by omega) (show i + 2 < L by omega), lg_self]
theorem law_lost {L : Nat} {xs : Nat → Int32} {i : Nat} (hi : i + 5 ≤ L) (hL : L ≤ 320) : LGo L xs i 1041 := by
  rintro h ⟨S, hI, rc, rm, c0, n1, n2⟩
  have w : OpW M_X8_lost M_X9_lost [.int (xs (i + 1)), .int (xs (i + 2))] S := (op_lost hI _ _).w
  obtain ⟨r, S', h1, h2, iS, c1, c2, rc1, rc2, rm2, f1, f2⟩ := w h rc rm
  obtain ⟨v, rfl⟩ := kI rfl c1
  have c01 : h1.2.2 0 = some (iA L xs) := (f1.1 0 (Or.inl rfl)).trans c0
  have rm1 : RepM h1 S := rm.fr (fun y hy => f1.1 y (Or.inr hy))
  refine ⟨h2, ⟨S', iS, rc2, rm2, (f2.1 0 (by decide)).trans c01, by rw [f2.2.1, f1.2.1]; exact n1, by rw [f2.2.2, f1.2.2]; exact n2⟩, ?_⟩
  simp only [r_L_law_1041, r_L_law_1042, r_L_law_1043, r_L_law_1044, r_L_law_1045, r_L_law_1046, r_L_law_1047, r_L_law_1048, r_L_law_1049, r_L_law_1050, r_L_law_1051, r_L_law_1052, r_L_law_1055, r_L_law_1056, r_L_law_1057, r_L_law_1058, r_L_law_1059, r_L_law_1060, r_L_law_1061, r_L_law_1062, r_L_law_1063, r_L_law_1064, r_L_law_1065, r_L_law_1066, r_L_law_1069, ↓reduceIte, Option.isSome_some, Option.getD_some, rL_v, rL_n, cH_s, List.cons_append, List.nil_append, cat_i, cat_r, cat_n, ofN, nI_add, rc.ro, rm1.ro, c1, c2, gI_nI c0 (by omega) (show i + 1 < L by omega), gI_nI c01 (by omega) (show i + 1 < L by omega), gI_nI c0 (by omega) (show i + 2 < L by omega), gI_nI c01 (by omega) (show i + 2 < L by omega)]
theorem law_help {L : Nat} {xs : Nat → Int32} {i : Nat} (hi : i + 5 ≤ L) (hL : L ≤ 320) : LGo L xs i 1074 := by
  rintro h ⟨S, hI, rc, rm, c0, n1, n2⟩
  have w : OpW M_X8_help M_X9_help [.int (xs (i + 1)), .int (xs (i + 2))] S := (op_help hI _ _).w
  obtain ⟨r, S', h1, h2, iS, c1, c2, rc1, rc2, rm2, f1, f2⟩ := w h rc rm
  obtain ⟨v, rfl⟩ := kI rfl c1
  have c01 : h1.2.2 0 = some (iA L xs) := (f1.1 0 (Or.inl rfl)).trans c0
  have rm1 : RepM h1 S := rm.fr (fun y hy => f1.1 y (Or.inr hy))
  refine ⟨h2, ⟨S', iS, rc2, rm2, (f2.1 0 (by decide)).trans c01, by rw [f2.2.1, f1.2.1]; exact n1, by rw [f2.2.2, f1.2.2]; exact n2⟩, ?_⟩
  simp only [r_L_law_1074, r_L_law_1075, r_L_law_1076, r_L_law_1077, r_L_law_1078, r_L_law_1079, r_L_law_1080, r_L_law_1081, r_L_law_1082, r_L_law_1083, r_L_law_1084, r_L_law_1085, r_L_law_1088, r_L_law_1089, r_L_law_1090, r_L_law_1091, r_L_law_1092, r_L_law_1093, r_L_law_1094, r_L_law_1095, r_L_law_1096, r_L_law_1097, r_L_law_1098, r_L_law_1099, r_L_law_1102, ↓reduceIte, Option.isSome_some, Option.getD_some, rL_v, rL_n, cH_s, List.cons_append, List.nil_append, cat_i, cat_r, cat_n, ofN, nI_add, rc.ro, rm1.ro, c1, c2, gI_nI c0 (by omega) (show i + 1 < L by omega), gI_nI c01 (by omega) (show i + 1 < L by omega), gI_nI c0 (by omega) (show i + 2 < L by omega), gI_nI c01 (by omega) (show i + 2 < L by omega)]
theorem law_out {L : Nat} {xs : Nat → Int32} {i : Nat} (hi : i + 5 ≤ L) (hL : L ≤ 320) : LGo L xs i 1107 := by
  rintro h ⟨S, hI, rc, rm, c0, n1, n2⟩
  have w : OpW M_X8_out M_X9_out [.int (xs (i + 1)), .int (xs (i + 2))] S := (op_out hI _ _).w
  obtain ⟨r, S', h1, h2, iS, c1, c2, rc1, rc2, rm2, f1, f2⟩ := w h rc rm
  obtain ⟨v, rfl⟩ := kI rfl c1
  have c01 : h1.2.2 0 = some (iA L xs) := (f1.1 0 (Or.inl rfl)).trans c0
  have rm1 : RepM h1 S := rm.fr (fun y hy => f1.1 y (Or.inr hy))
  refine ⟨h2, ⟨S', iS, rc2, rm2, (f2.1 0 (by decide)).trans c01, by rw [f2.2.1, f1.2.1]; exact n1, by rw [f2.2.2, f1.2.2]; exact n2⟩, ?_⟩
  simp only [r_L_law_1107, r_L_law_1108, r_L_law_1109, r_L_law_1110, r_L_law_1111, r_L_law_1112, r_L_law_1113, r_L_law_1114, r_L_law_1115, r_L_law_1116, r_L_law_1117, r_L_law_1118, r_L_law_1121, r_L_law_1122, r_L_law_1123, r_L_law_1124, r_L_law_1125, r_L_law_1126, r_L_law_1127, r_L_law_1128, r_L_law_1129, r_L_law_1130, r_L_law_1131, r_L_law_1132, r_L_law_1135, ↓reduceIte, Option.isSome_some, Option.getD_some, rL_v, rL_n, cH_s, List.cons_append, List.nil_append, cat_i, cat_r, cat_n, ofN, nI_add, rc.ro, rm1.ro, c1, c2, gI_nI c0 (by omega) (show i + 1 < L by omega), gI_nI c01 (by omega) (show i + 1 < L by omega), gI_nI c0 (by omega) (show i + 2 < L by omega), gI_nI c01 (by omega) (show i + 2 < L by omega)]
theorem law_enter {L : Nat} {xs : Nat → Int32} {i : Nat} (hi : i + 5 ≤ L) (hL : L ≤ 320) : LGo L xs i 1140 := by
  rintro h ⟨S, hI, rc, rm, c0, n1, n2⟩
  have w : OpW M_X8_enter M_X9_enter [.int (xs (i + 1)), .int (xs (i + 2))] S := (op_enter hI _ _).w
  obtain ⟨r, S', h1, h2, iS, c1, c2, rc1, rc2, rm2, f1, f2⟩ := w h rc rm
  obtain ⟨v, rfl⟩ := kI rfl c1
  have c01 : h1.2.2 0 = some (iA L xs) := (f1.1 0 (Or.inl rfl)).trans c0
  have rm1 : RepM h1 S := rm.fr (fun y hy => f1.1 y (Or.inr hy))
  refine ⟨h2, ⟨S', iS, rc2, rm2, (f2.1 0 (by decide)).trans c01, by rw [f2.2.1, f1.2.1]; exact n1, by rw [f2.2.2, f1.2.2]; exact n2⟩, ?_⟩
  simp only [r_L_law_1140, r_L_law_1141, r_L_law_1142, r_L_law_1143, r_L_law_1144, r_L_law_1145, r_L_law_1146, r_L_law_1147, r_L_law_1148, r_L_law_1149, r_L_law_1150, r_L_law_1151, r_L_law_1154, r_L_law_1155, r_L_law_1156, r_L_law_1157, r_L_law_1158, r_L_law_1159, r_L_law_1160, r_L_law_1161, r_L_law_1162, r_L_law_1163, r_L_law_1164, r_L_law_1165, r_L_law_1168, ↓reduceIte, Option.isSome_some, Option.getD_some, rL_v, rL_n, cH_s, List.cons_append, List.nil_append, cat_i, cat_r, cat_n, ofN, nI_add, rc.ro, rm1.ro, c1, c2, gI_nI c0 (by omega) (show i + 1 < L by omega), gI_nI c01 (by omega) (show i + 1 < L by omega), gI_nI c0 (by omega) (show i + 2 < L by omega), gI_nI c01 (by omega) (show i + 2 < L by omega)]
theorem law_firstIn {L : Nat} {xs : Nat → Int32} {i : Nat} (hi : i + 5 ≤ L) (hL : L ≤ 320) : LGo L xs i 1173 := by
  rintro h ⟨S, hI, rc, rm, c0, n1, n2⟩
  have w : OpW M_X8_firstIn M_X9_firstIn [.int (xs (i + 1))] S := (op_firstIn hI _).w
  obtain ⟨r, S', h1, h2, iS, c1, c2, rc1, rc2, rm2, f1, f2⟩ := w h rc rm
  obtain ⟨v, rfl⟩ := kI rfl c1
  have c01 : h1.2.2 0 = some (iA L xs) := (f1.1 0 (Or.inl rfl)).trans c0
  have rm1 : RepM h1 S := rm.fr (fun y hy => f1.1 y (Or.inr hy))
  refine ⟨h2, ⟨S', iS, rc2, rm2, (f2.1 0 (by decide)).trans c01, by rw [f2.2.1, f1.2.1]; exact n1, by rw [f2.2.2, f1.2.2]; exact n2⟩, ?_⟩
  simp only [r_L_law_1173, r_L_law_1174, r_L_law_1175, r_L_law_1176, r_L_law_1177, r_L_law_1178, r_L_law_1179, r_L_law_1182, r_L_law_1183, r_L_law_1184, r_L_law_1185, r_L_law_1186, r_L_law_1187, r_L_law_1188, r_L_law_1191, ↓reduceIte, Option.isSome_some, Option.getD_some, rL_v, rL_n, cH_s, List.cons_append, List.nil_append, cat_i, cat_r, cat_n, ofN, nI_add, rc.ro, rm1.ro, c1, c2, gI_nI c0 (by omega) (show i + 1 < L by omega), gI_nI c01 (by omega) (show i + 1 < L by omega)]
theorem law_ahead {L : Nat} {xs : Nat → Int32} {i : Nat} (hi : i + 5 ≤ L) (hL : L ≤ 320) : LGo L xs i 1196 := by
  rintro h ⟨S, hI, rc, rm, c0, n1, n2⟩
  have w : OpW M_X8_ahead M_X9_ahead [.int (xs (i + 1))] S := (op_ahead hI _).w
  obtain ⟨r, S', h1, h2, iS, c1, c2, rc1, rc2, rm2, f1, f2⟩ := w h rc rm
  obtain ⟨v, rfl⟩ := kI rfl c1
  have c01 : h1.2.2 0 = some (iA L xs) := (f1.1 0 (Or.inl rfl)).trans c0
  have rm1 : RepM h1 S := rm.fr (fun y hy => f1.1 y (Or.inr hy))
  refine ⟨h2, ⟨S', iS, rc2, rm2, (f2.1 0 (by decide)).trans c01, by rw [f2.2.1, f1.2.1]; exact n1, by rw [f2.2.2, f1.2.2]; exact n2⟩, ?_⟩
  simp only [r_L_law_1196, r_L_law_1197, r_L_law_1198, r_L_law_1199, r_L_law_1200, r_L_law_1201, r_L_law_1202, r_L_law_1205, r_L_law_1206, r_L_law_1207, r_L_law_1208, r_L_law_1209, r_L_law_1210, r_L_law_1211, r_L_law_1214, ↓reduceIte, Option.isSome_some, Option.getD_some, rL_v, rL_n, cH_s, List.cons_append, List.nil_append, cat_i, cat_r, cat_n, ofN, nI_add, rc.ro, rm1.ro, c1, c2, gI_nI c0 (by omega) (show i + 1 < L by omega), gI_nI c01 (by omega) (show i + 1 < L by omega)]
theorem law_write {L : Nat} {xs : Nat → Int32} {i : Nat} (hi : i + 5 ≤ L) (hL : L ≤ 320) : LGo L xs i 1219 := by
  rintro h ⟨S, hI, rc, rm, c0, n1, n2⟩
  have w : OpW M_X8_write M_X9_write [.int (xs (i + 1)), .int (xs (i + 2))] S := (op_write hI _ _).w
  obtain ⟨r, S', h1, h2, iS, c1, c2, rc1, rc2, rm2, f1, f2⟩ := w h rc rm
  obtain ⟨v, rfl⟩ := kI rfl c1
  have c01 : h1.2.2 0 = some (iA L xs) := (f1.1 0 (Or.inl rfl)).trans c0
  have rm1 : RepM h1 S := rm.fr (fun y hy => f1.1 y (Or.inr hy))
  refine ⟨h2, ⟨S', iS, rc2, rm2, (f2.1 0 (by decide)).trans c01, by rw [f2.2.1, f1.2.1]; exact n1, by rw [f2.2.2, f1.2.2]; exact n2⟩, ?_⟩
  simp only [r_L_law_1219, r_L_law_1220, r_L_law_1221, r_L_law_1222, r_L_law_1223, r_L_law_1224, r_L_law_1225, r_L_law_1226, r_L_law_1227, r_L_law_1228, r_L_law_1229, r_L_law_1230, r_L_law_1233, r_L_law_1234, r_L_law_1235, r_L_law_1236, r_L_law_1237, r_L_law_1238, r_L_law_1239, r_L_law_1240, r_L_law_1241, r_L_law_1242, r_L_law_1243, r_L_law_1244, r_L_law_1247, ↓reduceIte, Option.isSome_some, Option.getD_some, rL_v, rL_n, cH_s, List.cons_append, List.nil_append, cat_i, cat_r, cat_n, ofN, nI_add, rc.ro, rm1.ro, c1, c2, gI_nI c0 (by omega) (show i + 1 < L by omega), gI_nI c01 (by omega) (show i + 1 < L by omega), gI_nI c0 (by omega) (show i + 2 < L by omega), gI_nI c01 (by omega) (show i + 2 < L by omega)]
theorem law_judge {L : Nat} {xs : Nat → Int32} {i : Nat} (hi : i + 5 ≤ L) (hL : L ≤ 320) : LGo L xs i 1252 := by
  rintro h ⟨S, hI, rc, rm, c0, n1, n2⟩
  have w : OpW M_X8_judge M_X9_judge [] S := (op_judge hI).w
  obtain ⟨r, S', h1, h2, iS, c1, c2, rc1, rc2, rm2, f1, f2⟩ := w h rc rm
  obtain ⟨v, rfl⟩ := kI rfl c1
  have c01 : h1.2.2 0 = some (iA L xs) := (f1.1 0 (Or.inl rfl)).trans c0
  have rm1 : RepM h1 S := rm.fr (fun y hy => f1.1 y (Or.inr hy))
  refine ⟨h2, ⟨S', iS, rc2, rm2, (f2.1 0 (by decide)).trans c01, by rw [f2.2.1, f1.2.1]; exact n1, by rw [f2.2.2, f1.2.2]; exact n2⟩, ?_⟩
  simp only [r_L_law_1252, r_L_law_1253, r_L_law_1256, r_L_law_1257, r_L_law_1260, ↓reduceIte, Option.isSome_some, Option.getD_some, rL_v, rL_n, cH_s, List.cons_append, List.nil_append, cat_i, cat_r, cat_n, ofN, nI_add, rc.ro, rm1.ro, c1, c2]
theorem law_tear {L : Nat} {xs : Nat → Int32} {i : Nat} (hi : i + 5 ≤ L) (hL : L ≤ 320) : LGo L xs i 1265 := by
  rintro h ⟨S, hI, rc, rm, c0, n1, n2⟩
  have w : OpW M_X8_tear M_X9_tear [] S := (op_tear hI).w
  obtain ⟨r, S', h1, h2, iS, c1, c2, rc1, rc2, rm2, f1, f2⟩ := w h rc rm
  obtain ⟨v, rfl⟩ := kI rfl c1
  have c01 : h1.2.2 0 = some (iA L xs) := (f1.1 0 (Or.inl rfl)).trans c0
  have rm1 : RepM h1 S := rm.fr (fun y hy => f1.1 y (Or.inr hy))
  refine ⟨h2, ⟨S', iS, rc2, rm2, (f2.1 0 (by decide)).trans c01, by rw [f2.2.1, f1.2.1]; exact n1, by rw [f2.2.2, f1.2.2]; exact n2⟩, ?_⟩
  simp only [r_L_law_1265, r_L_law_1266, r_L_law_1269, r_L_law_1270, r_L_law_1273, ↓reduceIte, Option.isSome_some, Option.getD_some, rL_v, rL_n, cH_s, List.cons_append, List.nil_append, cat_i, cat_r, cat_n, ofN, nI_add, rc.ro, rm1.ro, c1, c2]
theorem law_seed {L : Nat} {xs : Nat → Int32} {i : Nat} (hi : i + 5 ≤ L) (hL : L ≤ 320) : LGo L xs i 1278 := by
  rintro h ⟨S, hI, rc, rm, c0, n1, n2⟩
  have w : OpW M_X8_seed M_X9_seed [.int (xs (i + 1))] S := (op_seed hI _).w
  obtain ⟨r, S', h1, h2, iS, c1, c2, rc1, rc2, rm2, f1, f2⟩ := w h rc rm
  obtain ⟨v, rfl⟩ := kI rfl c1
  have c01 : h1.2.2 0 = some (iA L xs) := (f1.1 0 (Or.inl rfl)).trans c0
  have rm1 : RepM h1 S := rm.fr (fun y hy => f1.1 y (Or.inr hy))
  refine ⟨h2, ⟨S', iS, rc2, rm2, (f2.1 0 (by decide)).trans c01, by rw [f2.2.1, f1.2.1]; exact n1, by rw [f2.2.2, f1.2.2]; exact n2⟩, ?_⟩
  simp only [r_L_law_1278, r_L_law_1279, r_L_law_1280, r_L_law_1281, r_L_law_1282, r_L_law_1283, r_L_law_1284, r_L_law_1287, r_L_law_1288, r_L_law_1289, r_L_law_1290, r_L_law_1291, r_L_law_1292, r_L_law_1293, r_L_law_1296, ↓reduceIte, Option.isSome_some, Option.getD_some, rL_v, rL_n, cH_s, List.cons_append, List.nil_append, cat_i, cat_r, cat_n, ofN, nI_add, rc.ro, rm1.ro, c1, c2, gI_nI c0 (by omega) (show i + 1 < L by omega), gI_nI c01 (by omega) (show i + 1 < L by omega)]
theorem law_keep {L : Nat} {xs : Nat → Int32} {i : Nat} (hi : i + 5 ≤ L) (hL : L ≤ 320) : LGo L xs i 1301 := by
  rintro h ⟨S, hI, rc, rm, c0, n1, n2⟩
  have w : OpW M_X8_keep M_X9_keep [.int (xs (i + 1))] S := (op_keep hI _).w
  obtain ⟨r, S', h1, h2, iS, c1, c2, rc1, rc2, rm2, f1, f2⟩ := w h rc rm
  obtain ⟨v, rfl⟩ := kI rfl c1
  have c01 : h1.2.2 0 = some (iA L xs) := (f1.1 0 (Or.inl rfl)).trans c0
  have rm1 : RepM h1 S := rm.fr (fun y hy => f1.1 y (Or.inr hy))
  refine ⟨h2, ⟨S', iS, rc2, rm2, (f2.1 0 (by decide)).trans c01, by rw [f2.2.1, f1.2.1]; exact n1, by rw [f2.2.2, f1.2.2]; exact n2⟩, ?_⟩
  simp only [r_L_law_1301, r_L_law_1302, r_L_law_1303, r_L_law_1304, r_L_law_1305, r_L_law_1306, r_L_law_1307, r_L_law_1310, r_L_law_1311, r_L_law_1312, r_L_law_1313, r_L_law_1314, r_L_law_1315, r_L_law_1316, r_L_law_1319, ↓reduceIte, Option.isSome_some, Option.getD_some, rL_v, rL_n, cH_s, List.cons_append, List.nil_append, cat_i, cat_r, cat_n, ofN, nI_add, rc.ro, rm1.ro, c1, c2, gI_nI c0 (by omega) (show i + 1 < L by omega), gI_nI c01 (by omega) (show i + 1 < L by omega)]
theorem law_goBack {L : Nat} {xs : Nat → Int32} {i : Nat} (hi : i + 5 ≤ L) (hL : L ≤ 320) : LGo L xs i 1324 := by
  rintro h ⟨S, hI, rc, rm, c0, n1, n2⟩
  have w : OpW M_X8_goBack M_X9_goBack [.int (xs (i + 1))] S := (op_goBack hI _).w
  obtain ⟨r, S', h1, h2, iS, c1, c2, rc1, rc2, rm2, f1, f2⟩ := w h rc rm
  obtain ⟨v, rfl⟩ := kI rfl c1
  have c01 : h1.2.2 0 = some (iA L xs) := (f1.1 0 (Or.inl rfl)).trans c0
  have rm1 : RepM h1 S := rm.fr (fun y hy => f1.1 y (Or.inr hy))
  refine ⟨h2, ⟨S', iS, rc2, rm2, (f2.1 0 (by decide)).trans c01, by rw [f2.2.1, f1.2.1]; exact n1, by rw [f2.2.2, f1.2.2]; exact n2⟩, ?_⟩
  simp only [r_L_law_1324, r_L_law_1325, r_L_law_1326, r_L_law_1327, r_L_law_1328, r_L_law_1329, r_L_law_1330, r_L_law_1333, r_L_law_1334, r_L_law_1335, r_L_law_1336, r_L_law_1337, r_L_law_1338, r_L_law_1339, r_L_law_1342, ↓reduceIte, Option.isSome_some, Option.getD_some, rL_v, rL_n, cH_s, List.cons_append, List.nil_append, cat_i, cat_r, cat_n, ofN, nI_add, rc.ro, rm1.ro, c1, c2, gI_nI c0 (by omega) (show i + 1 < L by omega), gI_nI c01 (by omega) (show i + 1 < L by omega)]
