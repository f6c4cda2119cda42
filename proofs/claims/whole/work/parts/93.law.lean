/-! the law's cases -/
section LWC
variable {L : Nat} {a : Nat → Nat → Int32} {b : Bool} {I : Int32} {Q : Option Value → am_H → Prop}
set_option maxRecDepth 100000 in
theorem law_mid {d fC fM : Nat} {args : List Value} {W : Option Value → am_H → Prop} (hk : KEEP L fC fM args) (hJ : J a b) (hW : ∀ x t a1 r1, a1 0 = a 0 → CALL 59 fM (.ref (127 : Nat) :: args) (CT L ++ t, a1, r1) (PO L (some (.int x))) → W (some (.int x)) (CT L ++ t, a1, r1)) : CALL 59 fC (.ref (12 : Nat) :: args) (CT L, a, RR b) W := by
  refine CALL.mono (CALL.fr (hk a b hJ) (Nat.le_of_ble_eq_true rfl)) ?_
  rintro r ⟨c, a1, r1⟩ ⟨hc, h1, t, h2⟩
  obtain ⟨r', h', -, ⟨x, rfl⟩, -⟩ := CALL.ex hc
  cases h2
  exact hW x t a1 r1 (h1 0 (by decide)) hc
theorem PO.go {x : Int32} {c : List (Nat × Nat)} {a1 : Nat → Nat → Int32} {r1 : Nat → Nat → Option Nat} {fM : Nat} {args : List Value} {W : Option Value → am_H → Prop} (h : CALL 59 fM (.ref (127 : Nat) :: args) (c, a1, r1) (PO L (some (.int x)))) (hW : ∀ a' b', J a' b' → W (some (.int x)) (CT L, a', RR b')) : CALL 59 fM (.ref (127 : Nat) :: args) (c, a1, r1) W := by
  refine CALL.mono h ?_
  rintro r' h' ⟨rfl, -, a', b', rfl, hJ⟩
  exact hW a' b' hJ
set_option maxRecDepth 100000 in
theorem tgx_0 {t : List (Nat × Nat)} : am_tag (CT L ++ t) 0 = 20 := rfl
set_option maxRecDepth 100000 in
theorem tgx_127 {t : List (Nat × Nat)} : am_tag (CT L ++ t) 127 = 10 := rfl
set_option maxRecDepth 100000 in
theorem inx {t : List (Nat × Nat)} {i : Int32} (h : inb i (am_len (CT L) 0)) : inb i (am_len (CT L ++ t) 0) := h
def LOC (I : Int32) : List (Option Value) := [some (.ref (0 : Nat)), some (.ref (12 : Nat)), some (.ref (127 : Nat)), some (.int I)]

set_option maxRecDepth 100000 in
set_option maxHeartbeats 4000000 in
theorem lw_person (hJ : J a b) (hn : ∀ a' b', J a' b' → AW (59 + 1) 0 1579 (LOC I) [] (CT L, a', RR b') Q) (h1 : inb (I + 1) (am_len (CT L) 0)) (h2 : inb (I + 2) (am_len (CT L) 0)) (h3 : inb (I + 3) (am_len (CT L) 0)) (h4 : inb (I + 4) (am_len (CT L) 0)) (h5 : inb (I + 5) (am_len (CT L) 0)) : AW (59 + 1) 0 196 (LOC I) [] (CT L, a, RR b) Q := by
  unfold LOC at *
  simp (disch := (first | assumption | exact tg_0 | exact tg_12 | exact tgx_0 | exact tgx_127 | exact inx (by assumption) | exact Nat.le_of_ble_eq_true rfl)) only [st_L_law_196, st_L_law_197, st_L_law_198, st_L_law_199, st_L_law_200, st_L_law_201, st_L_law_202, st_L_law_203, st_L_law_204, st_L_law_205, st_L_law_206, st_L_law_207, st_L_law_208, st_L_law_209, st_L_law_210, st_L_law_211, st_L_law_212, st_L_law_213, st_L_law_214, st_L_law_215, st_L_law_216, st_L_law_217, st_L_law_218, st_L_law_219, st_L_law_220, st_L_law_221, st_L_law_222, Option.toList_some, Option.toList_none, List.cons_append, List.nil_append, am_nlI, am_nlR, am_nlN, if_true, if_false, ↓reduceIte]
  refine law_mid (d := 0) keep_person hJ ?_
  intro x t a1 r1 e0 hM
  simp (disch := (first | assumption | exact tg_0 | exact tg_12 | exact tgx_0 | exact tgx_127 | exact inx (by assumption) | exact Nat.le_of_ble_eq_true rfl)) only [st_L_law_225, st_L_law_226, st_L_law_227, st_L_law_228, st_L_law_229, st_L_law_230, st_L_law_231, st_L_law_232, st_L_law_233, st_L_law_234, st_L_law_235, st_L_law_236, st_L_law_237, st_L_law_238, st_L_law_239, st_L_law_240, st_L_law_241, st_L_law_242, st_L_law_243, st_L_law_244, st_L_law_245, st_L_law_246, st_L_law_247, st_L_law_248, st_L_law_249, st_L_law_250, st_L_law_251, Option.toList_some, Option.toList_none, List.cons_append, List.nil_append, am_nlI, am_nlR, am_nlN, if_true, if_false, ↓reduceIte, e0]
  refine PO.go hM ?_
  intro a' b' hJ'
  simp (disch := (first | assumption | exact tg_0 | exact tg_12 | exact tgx_0 | exact tgx_127 | exact inx (by assumption) | exact Nat.le_of_ble_eq_true rfl)) only [st_L_law_254, Option.toList_some, Option.toList_none, List.cons_append, List.nil_append, am_nlI, am_nlR, am_nlN, if_true, if_false, ↓reduceIte]
  exact hn a' b' hJ'
set_option maxRecDepth 100000 in
set_option maxHeartbeats 4000000 in
theorem lw_set (hJ : J a b) (hn : ∀ a' b', J a' b' → AW (59 + 1) 0 1579 (LOC I) [] (CT L, a', RR b') Q) (h1 : inb (I + 1) (am_len (CT L) 0)) (h2 : inb (I + 2) (am_len (CT L) 0)) (h3 : inb (I + 3) (am_len (CT L) 0)) (h4 : inb (I + 4) (am_len (CT L) 0)) (h5 : inb (I + 5) (am_len (CT L) 0)) : AW (59 + 1) 0 259 (LOC I) [] (CT L, a, RR b) Q := by
  unfold LOC at *
  simp (disch := (first | assumption | exact tg_0 | exact tg_12 | exact tgx_0 | exact tgx_127 | exact inx (by assumption) | exact Nat.le_of_ble_eq_true rfl)) only [st_L_law_259, st_L_law_260, st_L_law_261, st_L_law_262, st_L_law_263, st_L_law_264, st_L_law_265, st_L_law_266, st_L_law_267, st_L_law_268, st_L_law_269, st_L_law_270, st_L_law_271, st_L_law_272, st_L_law_273, st_L_law_274, st_L_law_275, Option.toList_some, Option.toList_none, List.cons_append, List.nil_append, am_nlI, am_nlR, am_nlN, if_true, if_false, ↓reduceIte]
  refine law_mid (d := 0) keep_set hJ ?_
  intro x t a1 r1 e0 hM
  simp (disch := (first | assumption | exact tg_0 | exact tg_12 | exact tgx_0 | exact tgx_127 | exact inx (by assumption) | exact Nat.le_of_ble_eq_true rfl)) only [st_L_law_278, st_L_law_279, st_L_law_280, st_L_law_281, st_L_law_282, st_L_law_283, st_L_law_284, st_L_law_285, st_L_law_286, st_L_law_287, st_L_law_288, st_L_law_289, st_L_law_290, st_L_law_291, st_L_law_292, st_L_law_293, st_L_law_294, Option.toList_some, Option.toList_none, List.cons_append, List.nil_append, am_nlI, am_nlR, am_nlN, if_true, if_false, ↓reduceIte, e0]
  refine PO.go hM ?_
  intro a' b' hJ'
  simp (disch := (first | assumption | exact tg_0 | exact tg_12 | exact tgx_0 | exact tgx_127 | exact inx (by assumption) | exact Nat.le_of_ble_eq_true rfl)) only [st_L_law_297, Option.toList_some, Option.toList_none, List.cons_append, List.nil_append, am_nlI, am_nlR, am_nlN, if_true, if_false, ↓reduceIte]
  exact hn a' b' hJ'
set_option maxRecDepth 100000 in
set_option maxHeartbeats 4000000 in
theorem lw_where (hJ : J a b) (hn : ∀ a' b', J a' b' → AW (59 + 1) 0 1579 (LOC I) [] (CT L, a', RR b') Q) (h1 : inb (I + 1) (am_len (CT L) 0)) (h2 : inb (I + 2) (am_len (CT L) 0)) (h3 : inb (I + 3) (am_len (CT L) 0)) (h4 : inb (I + 4) (am_len (CT L) 0)) (h5 : inb (I + 5) (am_len (CT L) 0)) : AW (59 + 1) 0 302 (LOC I) [] (CT L, a, RR b) Q := by
  unfold LOC at *
  simp (disch := (first | assumption | exact tg_0 | exact tg_12 | exact tgx_0 | exact tgx_127 | exact inx (by assumption) | exact Nat.le_of_ble_eq_true rfl)) only [st_L_law_302, st_L_law_303, st_L_law_304, st_L_law_305, st_L_law_306, st_L_law_307, st_L_law_308, st_L_law_309, st_L_law_310, st_L_law_311, st_L_law_312, st_L_law_313, Option.toList_some, Option.toList_none, List.cons_append, List.nil_append, am_nlI, am_nlR, am_nlN, if_true, if_false, ↓reduceIte]
  refine law_mid (d := 0) keep_where hJ ?_
  intro x t a1 r1 e0 hM
  simp (disch := (first | assumption | exact tg_0 | exact tg_12 | exact tgx_0 | exact tgx_127 | exact inx (by assumption) | exact Nat.le_of_ble_eq_true rfl)) only [st_L_law_316, st_L_law_317, st_L_law_318, st_L_law_319, st_L_law_320, st_L_law_321, st_L_law_322, st_L_law_323, st_L_law_324, st_L_law_325, st_L_law_326, st_L_law_327, Option.toList_some, Option.toList_none, List.cons_append, List.nil_append, am_nlI, am_nlR, am_nlN, if_true, if_false, ↓reduceIte, e0]
  refine PO.go hM ?_
  intro a' b' hJ'
  simp (disch := (first | assumption | exact tg_0 | exact tg_12 | exact tgx_0 | exact tgx_127 | exact inx (by assumption) | exact Nat.le_of_ble_eq_true rfl)) only [st_L_law_330, Option.toList_some, Option.toList_none, List.cons_append, List.nil_append, am_nlI, am_nlR, am_nlN, if_true, if_false, ↓reduceIte]
  exact hn a' b' hJ'
set_option maxRecDepth 100000 in
set_option maxHeartbeats 4000000 in
theorem lw_plain (hJ : J a b) (hn : ∀ a' b', J a' b' → AW (59 + 1) 0 1579 (LOC I) [] (CT L, a', RR b') Q) (h1 : inb (I + 1) (am_len (CT L) 0)) (h2 : inb (I + 2) (am_len (CT L) 0)) (h3 : inb (I + 3) (am_len (CT L) 0)) (h4 : inb (I + 4) (am_len (CT L) 0)) (h5 : inb (I + 5) (am_len (CT L) 0)) : AW (59 + 1) 0 335 (LOC I) [] (CT L, a, RR b) Q := by
  unfold LOC at *
  simp (disch := (first | assumption | exact tg_0 | exact tg_12 | exact tgx_0 | exact tgx_127 | exact inx (by assumption) | exact Nat.le_of_ble_eq_true rfl)) only [st_L_law_335, st_L_law_336, st_L_law_337, st_L_law_338, st_L_law_339, st_L_law_340, st_L_law_341, st_L_law_342, st_L_law_343, st_L_law_344, st_L_law_345, st_L_law_346, st_L_law_347, st_L_law_348, st_L_law_349, st_L_law_350, st_L_law_351, st_L_law_352, st_L_law_353, st_L_law_354, st_L_law_355, st_L_law_356, Option.toList_some, Option.toList_none, List.cons_append, List.nil_append, am_nlI, am_nlR, am_nlN, if_true, if_false, ↓reduceIte]
  refine law_mid (d := 0) keep_plain hJ ?_
  intro x t a1 r1 e0 hM
  simp (disch := (first | assumption | exact tg_0 | exact tg_12 | exact tgx_0 | exact tgx_127 | exact inx (by assumption) | exact Nat.le_of_ble_eq_true rfl)) only [st_L_law_359, st_L_law_360, st_L_law_361, st_L_law_362, st_L_law_363, st_L_law_364, st_L_law_365, st_L_law_366, st_L_law_367, st_L_law_368, st_L_law_369, st_L_law_370, st_L_law_371, st_L_law_372, st_L_law_373, st_L_law_374, st_L_law_375, st_L_law_376, st_L_law_377, st_L_law_378, st_L_law_379, st_L_law_380, Option.toList_some, Option.toList_none, List.cons_append, List.nil_append, am_nlI, am_nlR, am_nlN, if_true, if_false, ↓reduceIte, e0]
  refine PO.go hM ?_
  intro a' b' hJ'
  simp (disch := (first | assumption | exact tg_0 | exact tg_12 | exact tgx_0 | exact tgx_127 | exact inx (by assumption) | exact Nat.le_of_ble_eq_true rfl)) only [st_L_law_383, Option.toList_some, Option.toList_none, List.cons_append, List.nil_append, am_nlI, am_nlR, am_nlN, if_true, if_false, ↓reduceIte]
  exact hn a' b' hJ'
set_option maxRecDepth 100000 in
set_option maxHeartbeats 4000000 in
theorem lw_changed (hJ : J a b) (hn : ∀ a' b', J a' b' → AW (59 + 1) 0 1579 (LOC I) [] (CT L, a', RR b') Q) (h1 : inb (I + 1) (am_len (CT L) 0)) (h2 : inb (I + 2) (am_len (CT L) 0)) (h3 : inb (I + 3) (am_len (CT L) 0)) (h4 : inb (I + 4) (am_len (CT L) 0)) (h5 : inb (I + 5) (am_len (CT L) 0)) : AW (59 + 1) 0 388 (LOC I) [] (CT L, a, RR b) Q := by
  unfold LOC at *
  simp (disch := (first | assumption | exact tg_0 | exact tg_12 | exact tgx_0 | exact tgx_127 | exact inx (by assumption) | exact Nat.le_of_ble_eq_true rfl)) only [st_L_law_388, st_L_law_389, st_L_law_390, st_L_law_391, st_L_law_392, st_L_law_393, st_L_law_394, st_L_law_395, st_L_law_396, st_L_law_397, st_L_law_398, st_L_law_399, st_L_law_400, st_L_law_401, st_L_law_402, st_L_law_403, st_L_law_404, Option.toList_some, Option.toList_none, List.cons_append, List.nil_append, am_nlI, am_nlR, am_nlN, if_true, if_false, ↓reduceIte]
  refine law_mid (d := 0) keep_changed hJ ?_
  intro x t a1 r1 e0 hM
  simp (disch := (first | assumption | exact tg_0 | exact tg_12 | exact tgx_0 | exact tgx_127 | exact inx (by assumption) | exact Nat.le_of_ble_eq_true rfl)) only [st_L_law_407, st_L_law_408, st_L_law_409, st_L_law_410, st_L_law_411, st_L_law_412, st_L_law_413, st_L_law_414, st_L_law_415, st_L_law_416, st_L_law_417, st_L_law_418, st_L_law_419, st_L_law_420, st_L_law_421, st_L_law_422, st_L_law_423, Option.toList_some, Option.toList_none, List.cons_append, List.nil_append, am_nlI, am_nlR, am_nlN, if_true, if_false, ↓reduceIte, e0]
  refine PO.go hM ?_
  intro a' b' hJ'
  simp (disch := (first | assumption | exact tg_0 | exact tg_12 | exact tgx_0 | exact tgx_127 | exact inx (by assumption) | exact Nat.le_of_ble_eq_true rfl)) only [st_L_law_426, Option.toList_some, Option.toList_none, List.cons_append, List.nil_append, am_nlI, am_nlR, am_nlN, if_true, if_false, ↓reduceIte]
  exact hn a' b' hJ'
set_option maxRecDepth 100000 in
set_option maxHeartbeats 4000000 in
theorem lw_planted (hJ : J a b) (hn : ∀ a' b', J a' b' → AW (59 + 1) 0 1579 (LOC I) [] (CT L, a', RR b') Q) (h1 : inb (I + 1) (am_len (CT L) 0)) (h2 : inb (I + 2) (am_len (CT L) 0)) (h3 : inb (I + 3) (am_len (CT L) 0)) (h4 : inb (I + 4) (am_len (CT L) 0)) (h5 : inb (I + 5) (am_len (CT L) 0)) : AW (59 + 1) 0 431 (LOC I) [] (CT L, a, RR b) Q := by
  unfold LOC at *
  simp (disch := (first | assumption | exact tg_0 | exact tg_12 | exact tgx_0 | exact tgx_127 | exact inx (by assumption) | exact Nat.le_of_ble_eq_true rfl)) only [st_L_law_431, st_L_law_432, st_L_law_433, st_L_law_434, st_L_law_435, st_L_law_436, st_L_law_437, st_L_law_438, st_L_law_439, st_L_law_440, st_L_law_441, st_L_law_442, Option.toList_some, Option.toList_none, List.cons_append, List.nil_append, am_nlI, am_nlR, am_nlN, if_true, if_false, ↓reduceIte]
  refine law_mid (d := 0) keep_planted hJ ?_
  intro x t a1 r1 e0 hM
  simp (disch := (first | assumption | exact tg_0 | exact tg_12 | exact tgx_0 | exact tgx_127 | exact inx (by assumption) | exact Nat.le_of_ble_eq_true rfl)) only [st_L_law_445, st_L_law_446, st_L_law_447, st_L_law_448, st_L_law_449, st_L_law_450, st_L_law_451, st_L_law_452, st_L_law_453, st_L_law_454, st_L_law_455, st_L_law_456, Option.toList_some, Option.toList_none, List.cons_append, List.nil_append, am_nlI, am_nlR, am_nlN, if_true, if_false, ↓reduceIte, e0]
  refine PO.go hM ?_
  intro a' b' hJ'
  simp (disch := (first | assumption | exact tg_0 | exact tg_12 | exact tgx_0 | exact tgx_127 | exact inx (by assumption) | exact Nat.le_of_ble_eq_true rfl)) only [st_L_law_459, Option.toList_some, Option.toList_none, List.cons_append, List.nil_append, am_nlI, am_nlR, am_nlN, if_true, if_false, ↓reduceIte]
  exact hn a' b' hJ'
set_option maxRecDepth 100000 in
set_option maxHeartbeats 4000000 in
theorem lw_real (hJ : J a b) (hn : ∀ a' b', J a' b' → AW (59 + 1) 0 1579 (LOC I) [] (CT L, a', RR b') Q) (h1 : inb (I + 1) (am_len (CT L) 0)) (h2 : inb (I + 2) (am_len (CT L) 0)) (h3 : inb (I + 3) (am_len (CT L) 0)) (h4 : inb (I + 4) (am_len (CT L) 0)) (h5 : inb (I + 5) (am_len (CT L) 0)) : AW (59 + 1) 0 464 (LOC I) [] (CT L, a, RR b) Q := by
  unfold LOC at *
  by_cases c : a 0 (I + 5).toNatClampNeg = 0
  · have c1 := eq_true c
    simp (disch := (first | assumption | exact tg_0 | exact tg_12 | exact tgx_0 | exact tgx_127 | exact inx (by assumption) | exact Nat.le_of_ble_eq_true rfl)) only [st_L_law_464, st_L_law_465, st_L_law_466, st_L_law_467, st_L_law_468, st_L_law_469, st_L_law_470, st_L_law_471, st_L_law_472, st_L_law_473, st_L_law_474, st_L_law_475, st_L_law_476, st_L_law_477, st_L_law_478, st_L_law_479, st_L_law_480, st_L_law_481, st_L_law_482, st_L_law_483, st_L_law_484, st_L_law_485, st_L_law_486, st_L_law_487, st_L_law_488, st_L_law_489, st_L_law_490, st_L_law_493, st_L_law_494, st_L_law_497, st_L_law_498, Option.toList_some, Option.toList_none, List.cons_append, List.nil_append, am_nlI, am_nlR, am_nlN, if_true, if_false, ↓reduceIte, c1]
    refine law_mid (d := 0) (keep_real (yy := false)) hJ ?_
    intro x t a1 r1 e0 hM
    simp (disch := (first | assumption | exact tg_0 | exact tg_12 | exact tgx_0 | exact tgx_127 | exact inx (by assumption) | exact Nat.le_of_ble_eq_true rfl)) only [st_L_law_501, st_L_law_502, st_L_law_503, st_L_law_504, st_L_law_505, st_L_law_506, st_L_law_507, st_L_law_508, st_L_law_509, st_L_law_510, st_L_law_511, st_L_law_512, st_L_law_513, st_L_law_514, st_L_law_515, st_L_law_516, st_L_law_517, st_L_law_518, st_L_law_519, st_L_law_520, st_L_law_521, st_L_law_522, st_L_law_523, st_L_law_524, st_L_law_525, st_L_law_526, st_L_law_527, st_L_law_530, st_L_law_531, st_L_law_534, st_L_law_535, Option.toList_some, Option.toList_none, List.cons_append, List.nil_append, am_nlI, am_nlR, am_nlN, if_true, if_false, ↓reduceIte, e0, c1]
    refine PO.go hM ?_
    intro a' b' hJ'
    simp (disch := (first | assumption | exact tg_0 | exact tg_12 | exact tgx_0 | exact tgx_127 | exact inx (by assumption) | exact Nat.le_of_ble_eq_true rfl)) only [st_L_law_538, Option.toList_some, Option.toList_none, List.cons_append, List.nil_append, am_nlI, am_nlR, am_nlN, if_true, if_false, ↓reduceIte]
    exact hn a' b' hJ'
  · have c1 := eq_false c
    simp (disch := (first | assumption | exact tg_0 | exact tg_12 | exact tgx_0 | exact tgx_127 | exact inx (by assumption) | exact Nat.le_of_ble_eq_true rfl)) only [st_L_law_464, st_L_law_465, st_L_law_466, st_L_law_467, st_L_law_468, st_L_law_469, st_L_law_470, st_L_law_471, st_L_law_472, st_L_law_473, st_L_law_474, st_L_law_475, st_L_law_476, st_L_law_477, st_L_law_478, st_L_law_479, st_L_law_480, st_L_law_481, st_L_law_482, st_L_law_483, st_L_law_484, st_L_law_485, st_L_law_486, st_L_law_487, st_L_law_488, st_L_law_489, st_L_law_490, st_L_law_493, st_L_law_494, st_L_law_497, st_L_law_498, Option.toList_some, Option.toList_none, List.cons_append, List.nil_append, am_nlI, am_nlR, am_nlN, if_true, if_false, ↓reduceIte, c1]
    refine law_mid (d := 0) (keep_real (yy := true)) hJ ?_
    intro x t a1 r1 e0 hM
    simp (disch := (first | assumption | exact tg_0 | exact tg_12 | exact tgx_0 | exact tgx_127 | exact inx (by assumption) | exact Nat.le_of_ble_eq_true rfl)) only [st_L_law_501, st_L_law_502, st_L_law_503, st_L_law_504, st_L_law_505, st_L_law_506, st_L_law_507, st_L_law_508, st_L_law_509, st_L_law_510, st_L_law_511, st_L_law_512, st_L_law_513, st_L_law_514, st_L_law_515, st_L_law_516, st_L_law_517, st_L_law_518, st_L_law_519, st_L_law_520, st_L_law_521, st_L_law_522, st_L_law_523, st_L_law_524, st_L_law_525, st_L_law_526, st_L_law_527, st_L_law_530, st_L_law_531, st_L_law_534, st_L_law_535, Option.toList_some, Option.toList_none, List.cons_append, List.nil_append, am_nlI, am_nlR, am_nlN, if_true, if_false, ↓reduceIte, e0, c1]
    refine PO.go hM ?_
    intro a' b' hJ'
    simp (disch := (first | assumption | exact tg_0 | exact tg_12 | exact tgx_0 | exact tgx_127 | exact inx (by assumption) | exact Nat.le_of_ble_eq_true rfl)) only [st_L_law_538, Option.toList_some, Option.toList_none, List.cons_append, List.nil_append, am_nlI, am_nlR, am_nlN, if_true, if_false, ↓reduceIte]
    exact hn a' b' hJ'
set_option maxRecDepth 100000 in
set_option maxHeartbeats 4000000 in
theorem lw_told (hJ : J a b) (hn : ∀ a' b', J a' b' → AW (59 + 1) 0 1579 (LOC I) [] (CT L, a', RR b') Q) (h1 : inb (I + 1) (am_len (CT L) 0)) (h2 : inb (I + 2) (am_len (CT L) 0)) (h3 : inb (I + 3) (am_len (CT L) 0)) (h4 : inb (I + 4) (am_len (CT L) 0)) (h5 : inb (I + 5) (am_len (CT L) 0)) : AW (59 + 1) 0 543 (LOC I) [] (CT L, a, RR b) Q := by
  unfold LOC at *
  simp (disch := (first | assumption | exact tg_0 | exact tg_12 | exact tgx_0 | exact tgx_127 | exact inx (by assumption) | exact Nat.le_of_ble_eq_true rfl)) only [st_L_law_543, st_L_law_544, st_L_law_545, st_L_law_546, st_L_law_547, st_L_law_548, st_L_law_549, st_L_law_550, st_L_law_551, st_L_law_552, st_L_law_553, st_L_law_554, Option.toList_some, Option.toList_none, List.cons_append, List.nil_append, am_nlI, am_nlR, am_nlN, if_true, if_false, ↓reduceIte]
  refine law_mid (d := 0) keep_told hJ ?_
  intro x t a1 r1 e0 hM
  simp (disch := (first | assumption | exact tg_0 | exact tg_12 | exact tgx_0 | exact tgx_127 | exact inx (by assumption) | exact Nat.le_of_ble_eq_true rfl)) only [st_L_law_557, st_L_law_558, st_L_law_559, st_L_law_560, st_L_law_561, st_L_law_562, st_L_law_563, st_L_law_564, st_L_law_565, st_L_law_566, st_L_law_567, st_L_law_568, Option.toList_some, Option.toList_none, List.cons_append, List.nil_append, am_nlI, am_nlR, am_nlN, if_true, if_false, ↓reduceIte, e0]
  refine PO.go hM ?_
  intro a' b' hJ'
  simp (disch := (first | assumption | exact tg_0 | exact tg_12 | exact tgx_0 | exact tgx_127 | exact inx (by assumption) | exact Nat.le_of_ble_eq_true rfl)) only [st_L_law_571, Option.toList_some, Option.toList_none, List.cons_append, List.nil_append, am_nlI, am_nlR, am_nlN, if_true, if_false, ↓reduceIte]
  exact hn a' b' hJ'
set_option maxRecDepth 100000 in
set_option maxHeartbeats 4000000 in
theorem lw_weight (hJ : J a b) (hn : ∀ a' b', J a' b' → AW (59 + 1) 0 1579 (LOC I) [] (CT L, a', RR b') Q) (h1 : inb (I + 1) (am_len (CT L) 0)) (h2 : inb (I + 2) (am_len (CT L) 0)) (h3 : inb (I + 3) (am_len (CT L) 0)) (h4 : inb (I + 4) (am_len (CT L) 0)) (h5 : inb (I + 5) (am_len (CT L) 0)) : AW (59 + 1) 0 576 (LOC I) [] (CT L, a, RR b) Q := by
  unfold LOC at *
  simp (disch := (first | assumption | exact tg_0 | exact tg_12 | exact tgx_0 | exact tgx_127 | exact inx (by assumption) | exact Nat.le_of_ble_eq_true rfl)) only [st_L_law_576, st_L_law_577, st_L_law_578, st_L_law_579, st_L_law_580, st_L_law_581, st_L_law_582, st_L_law_583, st_L_law_584, st_L_law_585, st_L_law_586, st_L_law_587, Option.toList_some, Option.toList_none, List.cons_append, List.nil_append, am_nlI, am_nlR, am_nlN, if_true, if_false, ↓reduceIte]
  refine law_mid (d := 0) keep_weight hJ ?_
  intro x t a1 r1 e0 hM
  simp (disch := (first | assumption | exact tg_0 | exact tg_12 | exact tgx_0 | exact tgx_127 | exact inx (by assumption) | exact Nat.le_of_ble_eq_true rfl)) only [st_L_law_590, st_L_law_591, st_L_law_592, st_L_law_593, st_L_law_594, st_L_law_595, st_L_law_596, st_L_law_597, st_L_law_598, st_L_law_599, st_L_law_600, st_L_law_601, Option.toList_some, Option.toList_none, List.cons_append, List.nil_append, am_nlI, am_nlR, am_nlN, if_true, if_false, ↓reduceIte, e0]
  refine PO.go hM ?_
  intro a' b' hJ'
  simp (disch := (first | assumption | exact tg_0 | exact tg_12 | exact tgx_0 | exact tgx_127 | exact inx (by assumption) | exact Nat.le_of_ble_eq_true rfl)) only [st_L_law_604, Option.toList_some, Option.toList_none, List.cons_append, List.nil_append, am_nlI, am_nlR, am_nlN, if_true, if_false, ↓reduceIte]
  exact hn a' b' hJ'
set_option maxRecDepth 100000 in
set_option maxHeartbeats 4000000 in
theorem lw_begin (hJ : J a b) (hn : ∀ a' b', J a' b' → AW (59 + 1) 0 1579 (LOC I) [] (CT L, a', RR b') Q) (h1 : inb (I + 1) (am_len (CT L) 0)) (h2 : inb (I + 2) (am_len (CT L) 0)) (h3 : inb (I + 3) (am_len (CT L) 0)) (h4 : inb (I + 4) (am_len (CT L) 0)) (h5 : inb (I + 5) (am_len (CT L) 0)) : AW (59 + 1) 0 609 (LOC I) [] (CT L, a, RR b) Q := by
  unfold LOC at *
  simp (disch := (first | assumption | exact tg_0 | exact tg_12 | exact tgx_0 | exact tgx_127 | exact inx (by assumption) | exact Nat.le_of_ble_eq_true rfl)) only [st_L_law_609, st_L_law_610, st_L_law_611, st_L_law_612, st_L_law_613, st_L_law_614, st_L_law_615, st_L_law_616, st_L_law_617, st_L_law_618, st_L_law_619, st_L_law_620, Option.toList_some, Option.toList_none, List.cons_append, List.nil_append, am_nlI, am_nlR, am_nlN, if_true, if_false, ↓reduceIte]
  refine law_mid (d := 0) keep_begin hJ ?_
  intro x t a1 r1 e0 hM
  simp (disch := (first | assumption | exact tg_0 | exact tg_12 | exact tgx_0 | exact tgx_127 | exact inx (by assumption) | exact Nat.le_of_ble_eq_true rfl)) only [st_L_law_623, st_L_law_624, st_L_law_625, st_L_law_626, st_L_law_627, st_L_law_628, st_L_law_629, st_L_law_630, st_L_law_631, st_L_law_632, st_L_law_633, st_L_law_634, Option.toList_some, Option.toList_none, List.cons_append, List.nil_append, am_nlI, am_nlR, am_nlN, if_true, if_false, ↓reduceIte, e0]
  refine PO.go hM ?_
  intro a' b' hJ'
  simp (disch := (first | assumption | exact tg_0 | exact tg_12 | exact tgx_0 | exact tgx_127 | exact inx (by assumption) | exact Nat.le_of_ble_eq_true rfl)) only [st_L_law_637, Option.toList_some, Option.toList_none, List.cons_append, List.nil_append, am_nlI, am_nlR, am_nlN, if_true, if_false, ↓reduceIte]
  exact hn a' b' hJ'
set_option maxRecDepth 100000 in
set_option maxHeartbeats 4000000 in
theorem lw_knows (hJ : J a b) (hn : ∀ a' b', J a' b' → AW (59 + 1) 0 1579 (LOC I) [] (CT L, a', RR b') Q) (h1 : inb (I + 1) (am_len (CT L) 0)) (h2 : inb (I + 2) (am_len (CT L) 0)) (h3 : inb (I + 3) (am_len (CT L) 0)) (h4 : inb (I + 4) (am_len (CT L) 0)) (h5 : inb (I + 5) (am_len (CT L) 0)) : AW (59 + 1) 0 642 (LOC I) [] (CT L, a, RR b) Q := by
  unfold LOC at *
  simp (disch := (first | assumption | exact tg_0 | exact tg_12 | exact tgx_0 | exact tgx_127 | exact inx (by assumption) | exact Nat.le_of_ble_eq_true rfl)) only [st_L_law_642, st_L_law_643, st_L_law_644, st_L_law_645, st_L_law_646, st_L_law_647, st_L_law_648, st_L_law_649, st_L_law_650, st_L_law_651, st_L_law_652, st_L_law_653, st_L_law_654, st_L_law_655, st_L_law_656, st_L_law_657, st_L_law_658, Option.toList_some, Option.toList_none, List.cons_append, List.nil_append, am_nlI, am_nlR, am_nlN, if_true, if_false, ↓reduceIte]
  refine law_mid (d := 0) keep_knows hJ ?_
  intro x t a1 r1 e0 hM
  simp (disch := (first | assumption | exact tg_0 | exact tg_12 | exact tgx_0 | exact tgx_127 | exact inx (by assumption) | exact Nat.le_of_ble_eq_true rfl)) only [st_L_law_661, st_L_law_662, st_L_law_663, st_L_law_664, st_L_law_665, st_L_law_666, st_L_law_667, st_L_law_668, st_L_law_669, st_L_law_670, st_L_law_671, st_L_law_672, st_L_law_673, st_L_law_674, st_L_law_675, st_L_law_676, st_L_law_677, Option.toList_some, Option.toList_none, List.cons_append, List.nil_append, am_nlI, am_nlR, am_nlN, if_true, if_false, ↓reduceIte, e0]
  refine PO.go hM ?_
  intro a' b' hJ'
  simp (disch := (first | assumption | exact tg_0 | exact tg_12 | exact tgx_0 | exact tgx_127 | exact inx (by assumption) | exact Nat.le_of_ble_eq_true rfl)) only [st_L_law_680, Option.toList_some, Option.toList_none, List.cons_append, List.nil_append, am_nlI, am_nlR, am_nlN, if_true, if_false, ↓reduceIte]
  exact hn a' b' hJ'
set_option maxRecDepth 100000 in
set_option maxHeartbeats 4000000 in
theorem lw_count (hJ : J a b) (hn : ∀ a' b', J a' b' → AW (59 + 1) 0 1579 (LOC I) [] (CT L, a', RR b') Q) (h1 : inb (I + 1) (am_len (CT L) 0)) (h2 : inb (I + 2) (am_len (CT L) 0)) (h3 : inb (I + 3) (am_len (CT L) 0)) (h4 : inb (I + 4) (am_len (CT L) 0)) (h5 : inb (I + 5) (am_len (CT L) 0)) : AW (59 + 1) 0 685 (LOC I) [] (CT L, a, RR b) Q := by
  unfold LOC at *
  simp (disch := (first | assumption | exact tg_0 | exact tg_12 | exact tgx_0 | exact tgx_127 | exact inx (by assumption) | exact Nat.le_of_ble_eq_true rfl)) only [st_L_law_685, st_L_law_686, st_L_law_687, st_L_law_688, st_L_law_689, st_L_law_690, st_L_law_691, Option.toList_some, Option.toList_none, List.cons_append, List.nil_append, am_nlI, am_nlR, am_nlN, if_true, if_false, ↓reduceIte]
  refine law_mid (d := 0) keep_count hJ ?_
  intro x t a1 r1 e0 hM
  simp (disch := (first | assumption | exact tg_0 | exact tg_12 | exact tgx_0 | exact tgx_127 | exact inx (by assumption) | exact Nat.le_of_ble_eq_true rfl)) only [st_L_law_694, st_L_law_695, st_L_law_696, st_L_law_697, st_L_law_698, st_L_law_699, st_L_law_700, Option.toList_some, Option.toList_none, List.cons_append, List.nil_append, am_nlI, am_nlR, am_nlN, if_true, if_false, ↓reduceIte, e0]
  refine PO.go hM ?_
  intro a' b' hJ'
  simp (disch := (first | assumption | exact tg_0 | exact tg_12 | exact tgx_0 | exact tgx_127 | exact inx (by assumption) | exact Nat.le_of_ble_eq_true rfl)) only [st_L_law_703, Option.toList_some, Option.toList_none, List.cons_append, List.nil_append, am_nlI, am_nlR, am_nlN, if_true, if_false, ↓reduceIte]
  exact hn a' b' hJ'
set_option maxRecDepth 100000 in
set_option maxHeartbeats 4000000 in
theorem lw_hours (hJ : J a b) (hn : ∀ a' b', J a' b' → AW (59 + 1) 0 1579 (LOC I) [] (CT L, a', RR b') Q) (h1 : inb (I + 1) (am_len (CT L) 0)) (h2 : inb (I + 2) (am_len (CT L) 0)) (h3 : inb (I + 3) (am_len (CT L) 0)) (h4 : inb (I + 4) (am_len (CT L) 0)) (h5 : inb (I + 5) (am_len (CT L) 0)) : AW (59 + 1) 0 708 (LOC I) [] (CT L, a, RR b) Q := by
  unfold LOC at *
  simp (disch := (first | assumption | exact tg_0 | exact tg_12 | exact tgx_0 | exact tgx_127 | exact inx (by assumption) | exact Nat.le_of_ble_eq_true rfl)) only [st_L_law_708, st_L_law_709, st_L_law_710, st_L_law_711, st_L_law_712, st_L_law_713, st_L_law_714, Option.toList_some, Option.toList_none, List.cons_append, List.nil_append, am_nlI, am_nlR, am_nlN, if_true, if_false, ↓reduceIte]
  refine law_mid (d := 0) keep_hours hJ ?_
  intro x t a1 r1 e0 hM
  simp (disch := (first | assumption | exact tg_0 | exact tg_12 | exact tgx_0 | exact tgx_127 | exact inx (by assumption) | exact Nat.le_of_ble_eq_true rfl)) only [st_L_law_717, st_L_law_718, st_L_law_719, st_L_law_720, st_L_law_721, st_L_law_722, st_L_law_723, Option.toList_some, Option.toList_none, List.cons_append, List.nil_append, am_nlI, am_nlR, am_nlN, if_true, if_false, ↓reduceIte, e0]
  refine PO.go hM ?_
  intro a' b' hJ'
  simp (disch := (first | assumption | exact tg_0 | exact tg_12 | exact tgx_0 | exact tgx_127 | exact inx (by assumption) | exact Nat.le_of_ble_eq_true rfl)) only [st_L_law_726, Option.toList_some, Option.toList_none, List.cons_append, List.nil_append, am_nlI, am_nlR, am_nlN, if_true, if_false, ↓reduceIte]
  exact hn a' b' hJ'
set_option maxRecDepth 100000 in
set_option maxHeartbeats 4000000 in
theorem lw_reach (hJ : J a b) (hn : ∀ a' b', J a' b' → AW (59 + 1) 0 1579 (LOC I) [] (CT L, a', RR b') Q) (h1 : inb (I + 1) (am_len (CT L) 0)) (h2 : inb (I + 2) (am_len (CT L) 0)) (h3 : inb (I + 3) (am_len (CT L) 0)) (h4 : inb (I + 4) (am_len (CT L) 0)) (h5 : inb (I + 5) (am_len (CT L) 0)) : AW (59 + 1) 0 731 (LOC I) [] (CT L, a, RR b) Q := by
  unfold LOC at *
  simp (disch := (first | assumption | exact tg_0 | exact tg_12 | exact tgx_0 | exact tgx_127 | exact inx (by assumption) | exact Nat.le_of_ble_eq_true rfl)) only [st_L_law_731, st_L_law_732, st_L_law_733, st_L_law_734, st_L_law_735, st_L_law_736, st_L_law_737, st_L_law_738, st_L_law_739, st_L_law_740, st_L_law_741, st_L_law_742, Option.toList_some, Option.toList_none, List.cons_append, List.nil_append, am_nlI, am_nlR, am_nlN, if_true, if_false, ↓reduceIte]
  refine law_mid (d := 0) keep_reach hJ ?_
  intro x t a1 r1 e0 hM
  simp (disch := (first | assumption | exact tg_0 | exact tg_12 | exact tgx_0 | exact tgx_127 | exact inx (by assumption) | exact Nat.le_of_ble_eq_true rfl)) only [st_L_law_745, st_L_law_746, st_L_law_747, st_L_law_748, st_L_law_749, st_L_law_750, st_L_law_751, st_L_law_752, st_L_law_753, st_L_law_754, st_L_law_755, st_L_law_756, Option.toList_some, Option.toList_none, List.cons_append, List.nil_append, am_nlI, am_nlR, am_nlN, if_true, if_false, ↓reduceIte, e0]
  refine PO.go hM ?_
  intro a' b' hJ'
  simp (disch := (first | assumption | exact tg_0 | exact tg_12 | exact tgx_0 | exact tgx_127 | exact inx (by assumption) | exact Nat.le_of_ble_eq_true rfl)) only [st_L_law_759, Option.toList_some, Option.toList_none, List.cons_append, List.nil_append, am_nlI, am_nlR, am_nlN, if_true, if_false, ↓reduceIte]
  exact hn a' b' hJ'
set_option maxRecDepth 100000 in
set_option maxHeartbeats 4000000 in
theorem lw_harm (hJ : J a b) (hn : ∀ a' b', J a' b' → AW (59 + 1) 0 1579 (LOC I) [] (CT L, a', RR b') Q) (h1 : inb (I + 1) (am_len (CT L) 0)) (h2 : inb (I + 2) (am_len (CT L) 0)) (h3 : inb (I + 3) (am_len (CT L) 0)) (h4 : inb (I + 4) (am_len (CT L) 0)) (h5 : inb (I + 5) (am_len (CT L) 0)) : AW (59 + 1) 0 764 (LOC I) [] (CT L, a, RR b) Q := by
  unfold LOC at *
  simp (disch := (first | assumption | exact tg_0 | exact tg_12 | exact tgx_0 | exact tgx_127 | exact inx (by assumption) | exact Nat.le_of_ble_eq_true rfl)) only [st_L_law_764, st_L_law_765, st_L_law_766, st_L_law_767, st_L_law_768, st_L_law_769, st_L_law_770, Option.toList_some, Option.toList_none, List.cons_append, List.nil_append, am_nlI, am_nlR, am_nlN, if_true, if_false, ↓reduceIte]
  refine law_mid (d := 0) keep_harm hJ ?_
  intro x t a1 r1 e0 hM
  simp (disch := (first | assumption | exact tg_0 | exact tg_12 | exact tgx_0 | exact tgx_127 | exact inx (by assumption) | exact Nat.le_of_ble_eq_true rfl)) only [st_L_law_773, st_L_law_774, st_L_law_775, st_L_law_776, st_L_law_777, st_L_law_778, st_L_law_779, Option.toList_some, Option.toList_none, List.cons_append, List.nil_append, am_nlI, am_nlR, am_nlN, if_true, if_false, ↓reduceIte, e0]
  refine PO.go hM ?_
  intro a' b' hJ'
  simp (disch := (first | assumption | exact tg_0 | exact tg_12 | exact tgx_0 | exact tgx_127 | exact inx (by assumption) | exact Nat.le_of_ble_eq_true rfl)) only [st_L_law_782, Option.toList_some, Option.toList_none, List.cons_append, List.nil_append, am_nlI, am_nlR, am_nlN, if_true, if_false, ↓reduceIte]
  exact hn a' b' hJ'
set_option maxRecDepth 100000 in
set_option maxHeartbeats 4000000 in
theorem lw_deny (hJ : J a b) (hn : ∀ a' b', J a' b' → AW (59 + 1) 0 1579 (LOC I) [] (CT L, a', RR b') Q) (h1 : inb (I + 1) (am_len (CT L) 0)) (h2 : inb (I + 2) (am_len (CT L) 0)) (h3 : inb (I + 3) (am_len (CT L) 0)) (h4 : inb (I + 4) (am_len (CT L) 0)) (h5 : inb (I + 5) (am_len (CT L) 0)) : AW (59 + 1) 0 787 (LOC I) [] (CT L, a, RR b) Q := by
  unfold LOC at *
  simp (disch := (first | assumption | exact tg_0 | exact tg_12 | exact tgx_0 | exact tgx_127 | exact inx (by assumption) | exact Nat.le_of_ble_eq_true rfl)) only [st_L_law_787, st_L_law_788, st_L_law_789, st_L_law_790, st_L_law_791, st_L_law_792, st_L_law_793, st_L_law_794, st_L_law_795, st_L_law_796, st_L_law_797, st_L_law_798, Option.toList_some, Option.toList_none, List.cons_append, List.nil_append, am_nlI, am_nlR, am_nlN, if_true, if_false, ↓reduceIte]
  refine law_mid (d := 0) keep_deny hJ ?_
  intro x t a1 r1 e0 hM
  simp (disch := (first | assumption | exact tg_0 | exact tg_12 | exact tgx_0 | exact tgx_127 | exact inx (by assumption) | exact Nat.le_of_ble_eq_true rfl)) only [st_L_law_801, st_L_law_802, st_L_law_803, st_L_law_804, st_L_law_805, st_L_law_806, st_L_law_807, st_L_law_808, st_L_law_809, st_L_law_810, st_L_law_811, st_L_law_812, Option.toList_some, Option.toList_none, List.cons_append, List.nil_append, am_nlI, am_nlR, am_nlN, if_true, if_false, ↓reduceIte, e0]
  refine PO.go hM ?_
  intro a' b' hJ'
  simp (disch := (first | assumption | exact tg_0 | exact tg_12 | exact tgx_0 | exact tgx_127 | exact inx (by assumption) | exact Nat.le_of_ble_eq_true rfl)) only [st_L_law_815, Option.toList_some, Option.toList_none, List.cons_append, List.nil_append, am_nlI, am_nlR, am_nlN, if_true, if_false, ↓reduceIte]
  exact hn a' b' hJ'
set_option maxRecDepth 100000 in
set_option maxHeartbeats 4000000 in
theorem lw_found (hJ : J a b) (hn : ∀ a' b', J a' b' → AW (59 + 1) 0 1579 (LOC I) [] (CT L, a', RR b') Q) (h1 : inb (I + 1) (am_len (CT L) 0)) (h2 : inb (I + 2) (am_len (CT L) 0)) (h3 : inb (I + 3) (am_len (CT L) 0)) (h4 : inb (I + 4) (am_len (CT L) 0)) (h5 : inb (I + 5) (am_len (CT L) 0)) : AW (59 + 1) 0 820 (LOC I) [] (CT L, a, RR b) Q := by
  unfold LOC at *
  simp (disch := (first | assumption | exact tg_0 | exact tg_12 | exact tgx_0 | exact tgx_127 | exact inx (by assumption) | exact Nat.le_of_ble_eq_true rfl)) only [st_L_law_820, st_L_law_821, st_L_law_822, st_L_law_823, st_L_law_824, st_L_law_825, st_L_law_826, Option.toList_some, Option.toList_none, List.cons_append, List.nil_append, am_nlI, am_nlR, am_nlN, if_true, if_false, ↓reduceIte]
  refine law_mid (d := 0) keep_found hJ ?_
  intro x t a1 r1 e0 hM
  simp (disch := (first | assumption | exact tg_0 | exact tg_12 | exact tgx_0 | exact tgx_127 | exact inx (by assumption) | exact Nat.le_of_ble_eq_true rfl)) only [st_L_law_829, st_L_law_830, st_L_law_831, st_L_law_832, st_L_law_833, st_L_law_834, st_L_law_835, Option.toList_some, Option.toList_none, List.cons_append, List.nil_append, am_nlI, am_nlR, am_nlN, if_true, if_false, ↓reduceIte, e0]
  refine PO.go hM ?_
  intro a' b' hJ'
  simp (disch := (first | assumption | exact tg_0 | exact tg_12 | exact tgx_0 | exact tgx_127 | exact inx (by assumption) | exact Nat.le_of_ble_eq_true rfl)) only [st_L_law_838, Option.toList_some, Option.toList_none, List.cons_append, List.nil_append, am_nlI, am_nlR, am_nlN, if_true, if_false, ↓reduceIte]
  exact hn a' b' hJ'
set_option maxRecDepth 100000 in
set_option maxHeartbeats 4000000 in
theorem lw_foretold (hJ : J a b) (hn : ∀ a' b', J a' b' → AW (59 + 1) 0 1579 (LOC I) [] (CT L, a', RR b') Q) (h1 : inb (I + 1) (am_len (CT L) 0)) (h2 : inb (I + 2) (am_len (CT L) 0)) (h3 : inb (I + 3) (am_len (CT L) 0)) (h4 : inb (I + 4) (am_len (CT L) 0)) (h5 : inb (I + 5) (am_len (CT L) 0)) : AW (59 + 1) 0 843 (LOC I) [] (CT L, a, RR b) Q := by
  unfold LOC at *
  simp (disch := (first | assumption | exact tg_0 | exact tg_12 | exact tgx_0 | exact tgx_127 | exact inx (by assumption) | exact Nat.le_of_ble_eq_true rfl)) only [st_L_law_843, st_L_law_844, st_L_law_845, st_L_law_846, st_L_law_847, st_L_law_848, st_L_law_849, Option.toList_some, Option.toList_none, List.cons_append, List.nil_append, am_nlI, am_nlR, am_nlN, if_true, if_false, ↓reduceIte]
  refine law_mid (d := 0) keep_foretold hJ ?_
  intro x t a1 r1 e0 hM
  simp (disch := (first | assumption | exact tg_0 | exact tg_12 | exact tgx_0 | exact tgx_127 | exact inx (by assumption) | exact Nat.le_of_ble_eq_true rfl)) only [st_L_law_852, st_L_law_853, st_L_law_854, st_L_law_855, st_L_law_856, st_L_law_857, st_L_law_858, Option.toList_some, Option.toList_none, List.cons_append, List.nil_append, am_nlI, am_nlR, am_nlN, if_true, if_false, ↓reduceIte, e0]
  refine PO.go hM ?_
  intro a' b' hJ'
  simp (disch := (first | assumption | exact tg_0 | exact tg_12 | exact tgx_0 | exact tgx_127 | exact inx (by assumption) | exact Nat.le_of_ble_eq_true rfl)) only [st_L_law_861, Option.toList_some, Option.toList_none, List.cons_append, List.nil_append, am_nlI, am_nlR, am_nlN, if_true, if_false, ↓reduceIte]
  exact hn a' b' hJ'
set_option maxRecDepth 100000 in
set_option maxHeartbeats 4000000 in
theorem lw_wording (hJ : J a b) (hn : ∀ a' b', J a' b' → AW (59 + 1) 0 1579 (LOC I) [] (CT L, a', RR b') Q) (h1 : inb (I + 1) (am_len (CT L) 0)) (h2 : inb (I + 2) (am_len (CT L) 0)) (h3 : inb (I + 3) (am_len (CT L) 0)) (h4 : inb (I + 4) (am_len (CT L) 0)) (h5 : inb (I + 5) (am_len (CT L) 0)) : AW (59 + 1) 0 866 (LOC I) [] (CT L, a, RR b) Q := by
  unfold LOC at *
  simp (disch := (first | assumption | exact tg_0 | exact tg_12 | exact tgx_0 | exact tgx_127 | exact inx (by assumption) | exact Nat.le_of_ble_eq_true rfl)) only [st_L_law_866, st_L_law_867, st_L_law_868, st_L_law_869, st_L_law_870, st_L_law_871, st_L_law_872, st_L_law_873, st_L_law_874, st_L_law_875, st_L_law_876, st_L_law_877, Option.toList_some, Option.toList_none, List.cons_append, List.nil_append, am_nlI, am_nlR, am_nlN, if_true, if_false, ↓reduceIte]
  refine law_mid (d := 0) keep_wording hJ ?_
  intro x t a1 r1 e0 hM
  simp (disch := (first | assumption | exact tg_0 | exact tg_12 | exact tgx_0 | exact tgx_127 | exact inx (by assumption) | exact Nat.le_of_ble_eq_true rfl)) only [st_L_law_880, st_L_law_881, st_L_law_882, st_L_law_883, st_L_law_884, st_L_law_885, st_L_law_886, st_L_law_887, st_L_law_888, st_L_law_889, st_L_law_890, st_L_law_891, Option.toList_some, Option.toList_none, List.cons_append, List.nil_append, am_nlI, am_nlR, am_nlN, if_true, if_false, ↓reduceIte, e0]
  refine PO.go hM ?_
  intro a' b' hJ'
  simp (disch := (first | assumption | exact tg_0 | exact tg_12 | exact tgx_0 | exact tgx_127 | exact inx (by assumption) | exact Nat.le_of_ble_eq_true rfl)) only [st_L_law_894, Option.toList_some, Option.toList_none, List.cons_append, List.nil_append, am_nlI, am_nlR, am_nlN, if_true, if_false, ↓reduceIte]
  exact hn a' b' hJ'
set_option maxRecDepth 100000 in
set_option maxHeartbeats 4000000 in
theorem lw_plan (hJ : J a b) (hn : ∀ a' b', J a' b' → AW (59 + 1) 0 1579 (LOC I) [] (CT L, a', RR b') Q) (h1 : inb (I + 1) (am_len (CT L) 0)) (h2 : inb (I + 2) (am_len (CT L) 0)) (h3 : inb (I + 3) (am_len (CT L) 0)) (h4 : inb (I + 4) (am_len (CT L) 0)) (h5 : inb (I + 5) (am_len (CT L) 0)) : AW (59 + 1) 0 899 (LOC I) [] (CT L, a, RR b) Q := by
  unfold LOC at *
  simp (disch := (first | assumption | exact tg_0 | exact tg_12 | exact tgx_0 | exact tgx_127 | exact inx (by assumption) | exact Nat.le_of_ble_eq_true rfl)) only [st_L_law_899, st_L_law_900, st_L_law_901, st_L_law_902, st_L_law_903, st_L_law_904, st_L_law_905, st_L_law_906, st_L_law_907, st_L_law_908, st_L_law_909, st_L_law_910, Option.toList_some, Option.toList_none, List.cons_append, List.nil_append, am_nlI, am_nlR, am_nlN, if_true, if_false, ↓reduceIte]
  refine law_mid (d := 0) keep_plan hJ ?_
  intro x t a1 r1 e0 hM
  simp (disch := (first | assumption | exact tg_0 | exact tg_12 | exact tgx_0 | exact tgx_127 | exact inx (by assumption) | exact Nat.le_of_ble_eq_true rfl)) only [st_L_law_913, st_L_law_914, st_L_law_915, st_L_law_916, st_L_law_917, st_L_law_918, st_L_law_919, st_L_law_920, st_L_law_921, st_L_law_922, st_L_law_923, st_L_law_924, Option.toList_some, Option.toList_none, List.cons_append, List.nil_append, am_nlI, am_nlR, am_nlN, if_true, if_false, ↓reduceIte, e0]
  refine PO.go hM ?_
  intro a' b' hJ'
  simp (disch := (first | assumption | exact tg_0 | exact tg_12 | exact tgx_0 | exact tgx_127 | exact inx (by assumption) | exact Nat.le_of_ble_eq_true rfl)) only [st_L_law_927, Option.toList_some, Option.toList_none, List.cons_append, List.nil_append, am_nlI, am_nlR, am_nlN, if_true, if_false, ↓reduceIte]
  exact hn a' b' hJ'
set_option maxRecDepth 100000 in
set_option maxHeartbeats 4000000 in
theorem lw_type (hJ : J a b) (hn : ∀ a' b', J a' b' → AW (59 + 1) 0 1579 (LOC I) [] (CT L, a', RR b') Q) (h1 : inb (I + 1) (am_len (CT L) 0)) (h2 : inb (I + 2) (am_len (CT L) 0)) (h3 : inb (I + 3) (am_len (CT L) 0)) (h4 : inb (I + 4) (am_len (CT L) 0)) (h5 : inb (I + 5) (am_len (CT L) 0)) : AW (59 + 1) 0 932 (LOC I) [] (CT L, a, RR b) Q := by
  unfold LOC at *
  simp (disch := (first | assumption | exact tg_0 | exact tg_12 | exact tgx_0 | exact tgx_127 | exact inx (by assumption) | exact Nat.le_of_ble_eq_true rfl)) only [st_L_law_932, st_L_law_933, st_L_law_934, st_L_law_935, st_L_law_936, st_L_law_937, st_L_law_938, st_L_law_939, st_L_law_941, st_L_law_942, st_L_law_943, st_L_law_944, st_L_law_945, st_L_law_946, st_L_law_947, st_L_law_948, st_L_law_951, st_L_law_952, st_L_law_953, st_L_law_954, st_L_law_955, st_L_law_956, st_L_law_957, st_L_law_958, Option.toList_some, Option.toList_none, List.cons_append, List.nil_append, am_nlI, am_nlR, am_nlN, if_true, if_false, ↓reduceIte]
  refine law_mid (d := 0) keep_type hJ ?_
  intro x t a1 r1 e0 hM
  simp (disch := (first | assumption | exact tg_0 | exact tg_12 | exact tgx_0 | exact tgx_127 | exact inx (by assumption) | exact Nat.le_of_ble_eq_true rfl)) only [st_L_law_961, st_L_law_962, st_L_law_963, st_L_law_964, st_L_law_965, st_L_law_966, st_L_law_967, st_L_law_968, st_L_law_970, st_L_law_971, st_L_law_972, st_L_law_973, st_L_law_974, st_L_law_975, st_L_law_976, st_L_law_977, st_L_law_980, st_L_law_981, st_L_law_982, st_L_law_983, st_L_law_984, st_L_law_985, st_L_law_986, st_L_law_987, Option.toList_some, Option.toList_none, List.cons_append, List.nil_append, am_nlI, am_nlR, am_nlN, if_true, if_false, ↓reduceIte, e0]
  refine PO.go hM ?_
  intro a' b' hJ'
  simp (disch := (first | assumption | exact tg_0 | exact tg_12 | exact tgx_0 | exact tgx_127 | exact inx (by assumption) | exact Nat.le_of_ble_eq_true rfl)) only [st_L_law_990, Option.toList_some, Option.toList_none, List.cons_append, List.nil_append, am_nlI, am_nlR, am_nlN, if_true, if_false, ↓reduceIte]
  exact hn a' b' hJ'
set_option maxRecDepth 100000 in
set_option maxHeartbeats 4000000 in
theorem lw_guide (hJ : J a b) (hn : ∀ a' b', J a' b' → AW (59 + 1) 0 1579 (LOC I) [] (CT L, a', RR b') Q) (h1 : inb (I + 1) (am_len (CT L) 0)) (h2 : inb (I + 2) (am_len (CT L) 0)) (h3 : inb (I + 3) (am_len (CT L) 0)) (h4 : inb (I + 4) (am_len (CT L) 0)) (h5 : inb (I + 5) (am_len (CT L) 0)) : AW (59 + 1) 0 995 (LOC I) [] (CT L, a, RR b) Q := by
  unfold LOC at *
  simp (disch := (first | assumption | exact tg_0 | exact tg_12 | exact tgx_0 | exact tgx_127 | exact inx (by assumption) | exact Nat.le_of_ble_eq_true rfl)) only [st_L_law_995, st_L_law_996, Option.toList_some, Option.toList_none, List.cons_append, List.nil_append, am_nlI, am_nlR, am_nlN, if_true, if_false, ↓reduceIte]
  refine law_mid (d := 0) keep_guide hJ ?_
  intro x t a1 r1 e0 hM
  simp (disch := (first | assumption | exact tg_0 | exact tg_12 | exact tgx_0 | exact tgx_127 | exact inx (by assumption) | exact Nat.le_of_ble_eq_true rfl)) only [st_L_law_999, st_L_law_1000, Option.toList_some, Option.toList_none, List.cons_append, List.nil_append, am_nlI, am_nlR, am_nlN, if_true, if_false, ↓reduceIte, e0]
  refine PO.go hM ?_
  intro a' b' hJ'
  simp (disch := (first | assumption | exact tg_0 | exact tg_12 | exact tgx_0 | exact tgx_127 | exact inx (by assumption) | exact Nat.le_of_ble_eq_true rfl)) only [st_L_law_1003, Option.toList_some, Option.toList_none, List.cons_append, List.nil_append, am_nlI, am_nlR, am_nlN, if_true, if_false, ↓reduceIte]
  exact hn a' b' hJ'
set_option maxRecDepth 100000 in
set_option maxHeartbeats 4000000 in
theorem lw_why (hJ : J a b) (hn : ∀ a' b', J a' b' → AW (59 + 1) 0 1579 (LOC I) [] (CT L, a', RR b') Q) (h1 : inb (I + 1) (am_len (CT L) 0)) (h2 : inb (I + 2) (am_len (CT L) 0)) (h3 : inb (I + 3) (am_len (CT L) 0)) (h4 : inb (I + 4) (am_len (CT L) 0)) (h5 : inb (I + 5) (am_len (CT L) 0)) : AW (59 + 1) 0 1008 (LOC I) [] (CT L, a, RR b) Q := by
  unfold LOC at *
  simp (disch := (first | assumption | exact tg_0 | exact tg_12 | exact tgx_0 | exact tgx_127 | exact inx (by assumption) | exact Nat.le_of_ble_eq_true rfl)) only [st_L_law_1008, st_L_law_1009, st_L_law_1010, st_L_law_1011, st_L_law_1012, st_L_law_1013, st_L_law_1014, st_L_law_1015, st_L_law_1016, st_L_law_1017, st_L_law_1018, st_L_law_1019, Option.toList_some, Option.toList_none, List.cons_append, List.nil_append, am_nlI, am_nlR, am_nlN, if_true, if_false, ↓reduceIte]
  refine law_mid (d := 0) keep_why hJ ?_
  intro x t a1 r1 e0 hM
  simp (disch := (first | assumption | exact tg_0 | exact tg_12 | exact tgx_0 | exact tgx_127 | exact inx (by assumption) | exact Nat.le_of_ble_eq_true rfl)) only [st_L_law_1022, st_L_law_1023, st_L_law_1024, st_L_law_1025, st_L_law_1026, st_L_law_1027, st_L_law_1028, st_L_law_1029, st_L_law_1030, st_L_law_1031, st_L_law_1032, st_L_law_1033, Option.toList_some, Option.toList_none, List.cons_append, List.nil_append, am_nlI, am_nlR, am_nlN, if_true, if_false, ↓reduceIte, e0]
  refine PO.go hM ?_
  intro a' b' hJ'
  simp (disch := (first | assumption | exact tg_0 | exact tg_12 | exact tgx_0 | exact tgx_127 | exact inx (by assumption) | exact Nat.le_of_ble_eq_true rfl)) only [st_L_law_1036, Option.toList_some, Option.toList_none, List.cons_append, List.nil_append, am_nlI, am_nlR, am_nlN, if_true, if_false, ↓reduceIte]
  exact hn a' b' hJ'
set_option maxRecDepth 100000 in
set_option maxHeartbeats 4000000 in
theorem lw_versions (hJ : J a b) (hn : ∀ a' b', J a' b' → AW (59 + 1) 0 1579 (LOC I) [] (CT L, a', RR b') Q) (h1 : inb (I + 1) (am_len (CT L) 0)) (h2 : inb (I + 2) (am_len (CT L) 0)) (h3 : inb (I + 3) (am_len (CT L) 0)) (h4 : inb (I + 4) (am_len (CT L) 0)) (h5 : inb (I + 5) (am_len (CT L) 0)) : AW (59 + 1) 0 1041 (LOC I) [] (CT L, a, RR b) Q := by
  unfold LOC at *
  simp (disch := (first | assumption | exact tg_0 | exact tg_12 | exact tgx_0 | exact tgx_127 | exact inx (by assumption) | exact Nat.le_of_ble_eq_true rfl)) only [st_L_law_1041, st_L_law_1042, st_L_law_1043, st_L_law_1044, st_L_law_1045, st_L_law_1046, st_L_law_1047, Option.toList_some, Option.toList_none, List.cons_append, List.nil_append, am_nlI, am_nlR, am_nlN, if_true, if_false, ↓reduceIte]
  refine law_mid (d := 0) keep_versions hJ ?_
  intro x t a1 r1 e0 hM
  simp (disch := (first | assumption | exact tg_0 | exact tg_12 | exact tgx_0 | exact tgx_127 | exact inx (by assumption) | exact Nat.le_of_ble_eq_true rfl)) only [st_L_law_1050, st_L_law_1051, st_L_law_1052, st_L_law_1053, st_L_law_1054, st_L_law_1055, st_L_law_1056, Option.toList_some, Option.toList_none, List.cons_append, List.nil_append, am_nlI, am_nlR, am_nlN, if_true, if_false, ↓reduceIte, e0]
  refine PO.go hM ?_
  intro a' b' hJ'
  simp (disch := (first | assumption | exact tg_0 | exact tg_12 | exact tgx_0 | exact tgx_127 | exact inx (by assumption) | exact Nat.le_of_ble_eq_true rfl)) only [st_L_law_1059, Option.toList_some, Option.toList_none, List.cons_append, List.nil_append, am_nlI, am_nlR, am_nlN, if_true, if_false, ↓reduceIte]
  exact hn a' b' hJ'
set_option maxRecDepth 100000 in
set_option maxHeartbeats 4000000 in
theorem lw_version (hJ : J a b) (hn : ∀ a' b', J a' b' → AW (59 + 1) 0 1579 (LOC I) [] (CT L, a', RR b') Q) (h1 : inb (I + 1) (am_len (CT L) 0)) (h2 : inb (I + 2) (am_len (CT L) 0)) (h3 : inb (I + 3) (am_len (CT L) 0)) (h4 : inb (I + 4) (am_len (CT L) 0)) (h5 : inb (I + 5) (am_len (CT L) 0)) : AW (59 + 1) 0 1064 (LOC I) [] (CT L, a, RR b) Q := by
  unfold LOC at *
  simp (disch := (first | assumption | exact tg_0 | exact tg_12 | exact tgx_0 | exact tgx_127 | exact inx (by assumption) | exact Nat.le_of_ble_eq_true rfl)) only [st_L_law_1064, st_L_law_1065, st_L_law_1066, st_L_law_1067, st_L_law_1068, st_L_law_1069, st_L_law_1070, st_L_law_1071, st_L_law_1072, st_L_law_1073, st_L_law_1074, st_L_law_1075, st_L_law_1076, st_L_law_1077, st_L_law_1078, st_L_law_1079, st_L_law_1080, Option.toList_some, Option.toList_none, List.cons_append, List.nil_append, am_nlI, am_nlR, am_nlN, if_true, if_false, ↓reduceIte]
  refine law_mid (d := 0) keep_version hJ ?_
  intro x t a1 r1 e0 hM
  simp (disch := (first | assumption | exact tg_0 | exact tg_12 | exact tgx_0 | exact tgx_127 | exact inx (by assumption) | exact Nat.le_of_ble_eq_true rfl)) only [st_L_law_1083, st_L_law_1084, st_L_law_1085, st_L_law_1086, st_L_law_1087, st_L_law_1088, st_L_law_1089, st_L_law_1090, st_L_law_1091, st_L_law_1092, st_L_law_1093, st_L_law_1094, st_L_law_1095, st_L_law_1096, st_L_law_1097, st_L_law_1098, st_L_law_1099, Option.toList_some, Option.toList_none, List.cons_append, List.nil_append, am_nlI, am_nlR, am_nlN, if_true, if_false, ↓reduceIte, e0]
  refine PO.go hM ?_
  intro a' b' hJ'
  simp (disch := (first | assumption | exact tg_0 | exact tg_12 | exact tgx_0 | exact tgx_127 | exact inx (by assumption) | exact Nat.le_of_ble_eq_true rfl)) only [st_L_law_1102, Option.toList_some, Option.toList_none, List.cons_append, List.nil_append, am_nlI, am_nlR, am_nlN, if_true, if_false, ↓reduceIte]
  exact hn a' b' hJ'
set_option maxRecDepth 100000 in
set_option maxHeartbeats 4000000 in
theorem lw_kin (hJ : J a b) (hn : ∀ a' b', J a' b' → AW (59 + 1) 0 1579 (LOC I) [] (CT L, a', RR b') Q) (h1 : inb (I + 1) (am_len (CT L) 0)) (h2 : inb (I + 2) (am_len (CT L) 0)) (h3 : inb (I + 3) (am_len (CT L) 0)) (h4 : inb (I + 4) (am_len (CT L) 0)) (h5 : inb (I + 5) (am_len (CT L) 0)) : AW (59 + 1) 0 1107 (LOC I) [] (CT L, a, RR b) Q := by
  unfold LOC at *
  simp (disch := (first | assumption | exact tg_0 | exact tg_12 | exact tgx_0 | exact tgx_127 | exact inx (by assumption) | exact Nat.le_of_ble_eq_true rfl)) only [st_L_law_1107, st_L_law_1108, st_L_law_1109, st_L_law_1110, st_L_law_1111, st_L_law_1112, st_L_law_1113, Option.toList_some, Option.toList_none, List.cons_append, List.nil_append, am_nlI, am_nlR, am_nlN, if_true, if_false, ↓reduceIte]
  refine law_mid (d := 0) keep_kin hJ ?_
  intro x t a1 r1 e0 hM
  simp (disch := (first | assumption | exact tg_0 | exact tg_12 | exact tgx_0 | exact tgx_127 | exact inx (by assumption) | exact Nat.le_of_ble_eq_true rfl)) only [st_L_law_1116, st_L_law_1117, st_L_law_1118, st_L_law_1119, st_L_law_1120, st_L_law_1121, st_L_law_1122, Option.toList_some, Option.toList_none, List.cons_append, List.nil_append, am_nlI, am_nlR, am_nlN, if_true, if_false, ↓reduceIte, e0]
  refine PO.go hM ?_
  intro a' b' hJ'
  simp (disch := (first | assumption | exact tg_0 | exact tg_12 | exact tgx_0 | exact tgx_127 | exact inx (by assumption) | exact Nat.le_of_ble_eq_true rfl)) only [st_L_law_1125, Option.toList_some, Option.toList_none, List.cons_append, List.nil_append, am_nlI, am_nlR, am_nlN, if_true, if_false, ↓reduceIte]
  exact hn a' b' hJ'
set_option maxRecDepth 100000 in
set_option maxHeartbeats 4000000 in
theorem lw_report (hJ : J a b) (hn : ∀ a' b', J a' b' → AW (59 + 1) 0 1579 (LOC I) [] (CT L, a', RR b') Q) (h1 : inb (I + 1) (am_len (CT L) 0)) (h2 : inb (I + 2) (am_len (CT L) 0)) (h3 : inb (I + 3) (am_len (CT L) 0)) (h4 : inb (I + 4) (am_len (CT L) 0)) (h5 : inb (I + 5) (am_len (CT L) 0)) : AW (59 + 1) 0 1130 (LOC I) [] (CT L, a, RR b) Q := by
  unfold LOC at *
  by_cases c : a 0 (I + 3).toNatClampNeg = 0
  · have c1 := eq_true c
    simp (disch := (first | assumption | exact tg_0 | exact tg_12 | exact tgx_0 | exact tgx_127 | exact inx (by assumption) | exact Nat.le_of_ble_eq_true rfl)) only [st_L_law_1130, st_L_law_1131, st_L_law_1132, st_L_law_1133, st_L_law_1134, st_L_law_1135, st_L_law_1136, st_L_law_1137, st_L_law_1138, st_L_law_1139, st_L_law_1140, st_L_law_1141, st_L_law_1142, st_L_law_1143, st_L_law_1144, st_L_law_1145, st_L_law_1146, st_L_law_1149, st_L_law_1150, st_L_law_1153, st_L_law_1154, Option.toList_some, Option.toList_none, List.cons_append, List.nil_append, am_nlI, am_nlR, am_nlN, if_true, if_false, ↓reduceIte, c1]
    refine law_mid (d := 0) (keep_report (zz := false)) hJ ?_
    intro x t a1 r1 e0 hM
    simp (disch := (first | assumption | exact tg_0 | exact tg_12 | exact tgx_0 | exact tgx_127 | exact inx (by assumption) | exact Nat.le_of_ble_eq_true rfl)) only [st_L_law_1157, st_L_law_1158, st_L_law_1159, st_L_law_1160, st_L_law_1161, st_L_law_1162, st_L_law_1163, st_L_law_1164, st_L_law_1165, st_L_law_1166, st_L_law_1167, st_L_law_1168, st_L_law_1169, st_L_law_1170, st_L_law_1171, st_L_law_1172, st_L_law_1173, st_L_law_1176, st_L_law_1177, st_L_law_1180, st_L_law_1181, Option.toList_some, Option.toList_none, List.cons_append, List.nil_append, am_nlI, am_nlR, am_nlN, if_true, if_false, ↓reduceIte, e0, c1]
    refine PO.go hM ?_
    intro a' b' hJ'
    simp (disch := (first | assumption | exact tg_0 | exact tg_12 | exact tgx_0 | exact tgx_127 | exact inx (by assumption) | exact Nat.le_of_ble_eq_true rfl)) only [st_L_law_1184, Option.toList_some, Option.toList_none, List.cons_append, List.nil_append, am_nlI, am_nlR, am_nlN, if_true, if_false, ↓reduceIte]
    exact hn a' b' hJ'
  · have c1 := eq_false c
    simp (disch := (first | assumption | exact tg_0 | exact tg_12 | exact tgx_0 | exact tgx_127 | exact inx (by assumption) | exact Nat.le_of_ble_eq_true rfl)) only [st_L_law_1130, st_L_law_1131, st_L_law_1132, st_L_law_1133, st_L_law_1134, st_L_law_1135, st_L_law_1136, st_L_law_1137, st_L_law_1138, st_L_law_1139, st_L_law_1140, st_L_law_1141, st_L_law_1142, st_L_law_1143, st_L_law_1144, st_L_law_1145, st_L_law_1146, st_L_law_1149, st_L_law_1150, st_L_law_1153, st_L_law_1154, Option.toList_some, Option.toList_none, List.cons_append, List.nil_append, am_nlI, am_nlR, am_nlN, if_true, if_false, ↓reduceIte, c1]
    refine law_mid (d := 0) (keep_report (zz := true)) hJ ?_
    intro x t a1 r1 e0 hM
    simp (disch := (first | assumption | exact tg_0 | exact tg_12 | exact tgx_0 | exact tgx_127 | exact inx (by assumption) | exact Nat.le_of_ble_eq_true rfl)) only [st_L_law_1157, st_L_law_1158, st_L_law_1159, st_L_law_1160, st_L_law_1161, st_L_law_1162, st_L_law_1163, st_L_law_1164, st_L_law_1165, st_L_law_1166, st_L_law_1167, st_L_law_1168, st_L_law_1169, st_L_law_1170, st_L_law_1171, st_L_law_1172, st_L_law_1173, st_L_law_1176, st_L_law_1177, st_L_law_1180, st_L_law_1181, Option.toList_some, Option.toList_none, List.cons_append, List.nil_append, am_nlI, am_nlR, am_nlN, if_true, if_false, ↓reduceIte, e0, c1]
    refine PO.go hM ?_
    intro a' b' hJ'
    simp (disch := (first | assumption | exact tg_0 | exact tg_12 | exact tgx_0 | exact tgx_127 | exact inx (by assumption) | exact Nat.le_of_ble_eq_true rfl)) only [st_L_law_1184, Option.toList_some, Option.toList_none, List.cons_append, List.nil_append, am_nlI, am_nlR, am_nlN, if_true, if_false, ↓reduceIte]
    exact hn a' b' hJ'
set_option maxRecDepth 100000 in
set_option maxHeartbeats 4000000 in
theorem lw_clear (hJ : J a b) (hn : ∀ a' b', J a' b' → AW (59 + 1) 0 1579 (LOC I) [] (CT L, a', RR b') Q) (h1 : inb (I + 1) (am_len (CT L) 0)) (h2 : inb (I + 2) (am_len (CT L) 0)) (h3 : inb (I + 3) (am_len (CT L) 0)) (h4 : inb (I + 4) (am_len (CT L) 0)) (h5 : inb (I + 5) (am_len (CT L) 0)) : AW (59 + 1) 0 1189 (LOC I) [] (CT L, a, RR b) Q := by
  unfold LOC at *
  simp (disch := (first | assumption | exact tg_0 | exact tg_12 | exact tgx_0 | exact tgx_127 | exact inx (by assumption) | exact Nat.le_of_ble_eq_true rfl)) only [st_L_law_1189, st_L_law_1190, Option.toList_some, Option.toList_none, List.cons_append, List.nil_append, am_nlI, am_nlR, am_nlN, if_true, if_false, ↓reduceIte]
  refine law_mid (d := 0) keep_clear hJ ?_
  intro x t a1 r1 e0 hM
  simp (disch := (first | assumption | exact tg_0 | exact tg_12 | exact tgx_0 | exact tgx_127 | exact inx (by assumption) | exact Nat.le_of_ble_eq_true rfl)) only [st_L_law_1193, st_L_law_1194, Option.toList_some, Option.toList_none, List.cons_append, List.nil_append, am_nlI, am_nlR, am_nlN, if_true, if_false, ↓reduceIte, e0]
  refine PO.go hM ?_
  intro a' b' hJ'
  simp (disch := (first | assumption | exact tg_0 | exact tg_12 | exact tgx_0 | exact tgx_127 | exact inx (by assumption) | exact Nat.le_of_ble_eq_true rfl)) only [st_L_law_1197, Option.toList_some, Option.toList_none, List.cons_append, List.nil_append, am_nlI, am_nlR, am_nlN, if_true, if_false, ↓reduceIte]
  exact hn a' b' hJ'
set_option maxRecDepth 100000 in
set_option maxHeartbeats 4000000 in
theorem lw_could (hJ : J a b) (hn : ∀ a' b', J a' b' → AW (59 + 1) 0 1579 (LOC I) [] (CT L, a', RR b') Q) (h1 : inb (I + 1) (am_len (CT L) 0)) (h2 : inb (I + 2) (am_len (CT L) 0)) (h3 : inb (I + 3) (am_len (CT L) 0)) (h4 : inb (I + 4) (am_len (CT L) 0)) (h5 : inb (I + 5) (am_len (CT L) 0)) : AW (59 + 1) 0 1202 (LOC I) [] (CT L, a, RR b) Q := by
  unfold LOC at *
  simp (disch := (first | assumption | exact tg_0 | exact tg_12 | exact tgx_0 | exact tgx_127 | exact inx (by assumption) | exact Nat.le_of_ble_eq_true rfl)) only [st_L_law_1202, st_L_law_1203, st_L_law_1204, st_L_law_1205, st_L_law_1206, st_L_law_1207, st_L_law_1208, st_L_law_1209, st_L_law_1210, st_L_law_1211, st_L_law_1212, st_L_law_1213, st_L_law_1214, st_L_law_1215, st_L_law_1216, st_L_law_1217, st_L_law_1218, Option.toList_some, Option.toList_none, List.cons_append, List.nil_append, am_nlI, am_nlR, am_nlN, if_true, if_false, ↓reduceIte]
  refine law_mid (d := 0) keep_could hJ ?_
  intro x t a1 r1 e0 hM
  simp (disch := (first | assumption | exact tg_0 | exact tg_12 | exact tgx_0 | exact tgx_127 | exact inx (by assumption) | exact Nat.le_of_ble_eq_true rfl)) only [st_L_law_1221, st_L_law_1222, st_L_law_1223, st_L_law_1224, st_L_law_1225, st_L_law_1226, st_L_law_1227, st_L_law_1228, st_L_law_1229, st_L_law_1230, st_L_law_1231, st_L_law_1232, st_L_law_1233, st_L_law_1234, st_L_law_1235, st_L_law_1236, st_L_law_1237, Option.toList_some, Option.toList_none, List.cons_append, List.nil_append, am_nlI, am_nlR, am_nlN, if_true, if_false, ↓reduceIte, e0]
  refine PO.go hM ?_
  intro a' b' hJ'
  simp (disch := (first | assumption | exact tg_0 | exact tg_12 | exact tgx_0 | exact tgx_127 | exact inx (by assumption) | exact Nat.le_of_ble_eq_true rfl)) only [st_L_law_1240, Option.toList_some, Option.toList_none, List.cons_append, List.nil_append, am_nlI, am_nlR, am_nlN, if_true, if_false, ↓reduceIte]
  exact hn a' b' hJ'
set_option maxRecDepth 100000 in
set_option maxHeartbeats 4000000 in
theorem lw_first (hJ : J a b) (hn : ∀ a' b', J a' b' → AW (59 + 1) 0 1579 (LOC I) [] (CT L, a', RR b') Q) (h1 : inb (I + 1) (am_len (CT L) 0)) (h2 : inb (I + 2) (am_len (CT L) 0)) (h3 : inb (I + 3) (am_len (CT L) 0)) (h4 : inb (I + 4) (am_len (CT L) 0)) (h5 : inb (I + 5) (am_len (CT L) 0)) : AW (59 + 1) 0 1245 (LOC I) [] (CT L, a, RR b) Q := by
  unfold LOC at *
  simp (disch := (first | assumption | exact tg_0 | exact tg_12 | exact tgx_0 | exact tgx_127 | exact inx (by assumption) | exact Nat.le_of_ble_eq_true rfl)) only [st_L_law_1245, st_L_law_1246, st_L_law_1247, st_L_law_1248, st_L_law_1249, st_L_law_1250, st_L_law_1251, Option.toList_some, Option.toList_none, List.cons_append, List.nil_append, am_nlI, am_nlR, am_nlN, if_true, if_false, ↓reduceIte]
  refine law_mid (d := 0) keep_first hJ ?_
  intro x t a1 r1 e0 hM
  simp (disch := (first | assumption | exact tg_0 | exact tg_12 | exact tgx_0 | exact tgx_127 | exact inx (by assumption) | exact Nat.le_of_ble_eq_true rfl)) only [st_L_law_1254, st_L_law_1255, st_L_law_1256, st_L_law_1257, st_L_law_1258, st_L_law_1259, st_L_law_1260, Option.toList_some, Option.toList_none, List.cons_append, List.nil_append, am_nlI, am_nlR, am_nlN, if_true, if_false, ↓reduceIte, e0]
  refine PO.go hM ?_
  intro a' b' hJ'
  simp (disch := (first | assumption | exact tg_0 | exact tg_12 | exact tgx_0 | exact tgx_127 | exact inx (by assumption) | exact Nat.le_of_ble_eq_true rfl)) only [st_L_law_1263, Option.toList_some, Option.toList_none, List.cons_append, List.nil_append, am_nlI, am_nlR, am_nlN, if_true, if_false, ↓reduceIte]
  exact hn a' b' hJ'
set_option maxRecDepth 100000 in
set_option maxHeartbeats 4000000 in
theorem lw_posts (hJ : J a b) (hn : ∀ a' b', J a' b' → AW (59 + 1) 0 1579 (LOC I) [] (CT L, a', RR b') Q) (h1 : inb (I + 1) (am_len (CT L) 0)) (h2 : inb (I + 2) (am_len (CT L) 0)) (h3 : inb (I + 3) (am_len (CT L) 0)) (h4 : inb (I + 4) (am_len (CT L) 0)) (h5 : inb (I + 5) (am_len (CT L) 0)) : AW (59 + 1) 0 1268 (LOC I) [] (CT L, a, RR b) Q := by
  unfold LOC at *
  simp (disch := (first | assumption | exact tg_0 | exact tg_12 | exact tgx_0 | exact tgx_127 | exact inx (by assumption) | exact Nat.le_of_ble_eq_true rfl)) only [st_L_law_1268, st_L_law_1269, st_L_law_1270, st_L_law_1271, st_L_law_1272, st_L_law_1273, st_L_law_1274, st_L_law_1275, st_L_law_1276, st_L_law_1277, st_L_law_1278, st_L_law_1279, Option.toList_some, Option.toList_none, List.cons_append, List.nil_append, am_nlI, am_nlR, am_nlN, if_true, if_false, ↓reduceIte]
  refine law_mid (d := 0) keep_posts hJ ?_
  intro x t a1 r1 e0 hM
  simp (disch := (first | assumption | exact tg_0 | exact tg_12 | exact tgx_0 | exact tgx_127 | exact inx (by assumption) | exact Nat.le_of_ble_eq_true rfl)) only [st_L_law_1282, st_L_law_1283, st_L_law_1284, st_L_law_1285, st_L_law_1286, st_L_law_1287, st_L_law_1288, st_L_law_1289, st_L_law_1290, st_L_law_1291, st_L_law_1292, st_L_law_1293, Option.toList_some, Option.toList_none, List.cons_append, List.nil_append, am_nlI, am_nlR, am_nlN, if_true, if_false, ↓reduceIte, e0]
  refine PO.go hM ?_
  intro a' b' hJ'
  simp (disch := (first | assumption | exact tg_0 | exact tg_12 | exact tgx_0 | exact tgx_127 | exact inx (by assumption) | exact Nat.le_of_ble_eq_true rfl)) only [st_L_law_1296, Option.toList_some, Option.toList_none, List.cons_append, List.nil_append, am_nlI, am_nlR, am_nlN, if_true, if_false, ↓reduceIte]
  exact hn a' b' hJ'
set_option maxRecDepth 100000 in
set_option maxHeartbeats 4000000 in
theorem lw_check (hJ : J a b) (hn : ∀ a' b', J a' b' → AW (59 + 1) 0 1579 (LOC I) [] (CT L, a', RR b') Q) (h1 : inb (I + 1) (am_len (CT L) 0)) (h2 : inb (I + 2) (am_len (CT L) 0)) (h3 : inb (I + 3) (am_len (CT L) 0)) (h4 : inb (I + 4) (am_len (CT L) 0)) (h5 : inb (I + 5) (am_len (CT L) 0)) : AW (59 + 1) 0 1301 (LOC I) [] (CT L, a, RR b) Q := by
  unfold LOC at *
  simp (disch := (first | assumption | exact tg_0 | exact tg_12 | exact tgx_0 | exact tgx_127 | exact inx (by assumption) | exact Nat.le_of_ble_eq_true rfl)) only [st_L_law_1301, st_L_law_1302, st_L_law_1303, st_L_law_1304, st_L_law_1305, st_L_law_1306, st_L_law_1307, st_L_law_1308, st_L_law_1309, st_L_law_1310, st_L_law_1311, st_L_law_1312, st_L_law_1313, st_L_law_1314, st_L_law_1315, st_L_law_1316, st_L_law_1317, st_L_law_1318, st_L_law_1319, st_L_law_1320, st_L_law_1321, st_L_law_1322, st_L_law_1323, st_L_law_1324, st_L_law_1325, st_L_law_1326, st_L_law_1327, Option.toList_some, Option.toList_none, List.cons_append, List.nil_append, am_nlI, am_nlR, am_nlN, if_true, if_false, ↓reduceIte]
  refine law_mid (d := 0) keep_check hJ ?_
  intro x t a1 r1 e0 hM
  simp (disch := (first | assumption | exact tg_0 | exact tg_12 | exact tgx_0 | exact tgx_127 | exact inx (by assumption) | exact Nat.le_of_ble_eq_true rfl)) only [st_L_law_1330, st_L_law_1331, st_L_law_1332, st_L_law_1333, st_L_law_1334, st_L_law_1335, st_L_law_1336, st_L_law_1337, st_L_law_1338, st_L_law_1339, st_L_law_1340, st_L_law_1341, st_L_law_1342, st_L_law_1343, st_L_law_1344, st_L_law_1345, st_L_law_1346, st_L_law_1347, st_L_law_1348, st_L_law_1349, st_L_law_1350, st_L_law_1351, st_L_law_1352, st_L_law_1353, st_L_law_1354, st_L_law_1355, st_L_law_1356, Option.toList_some, Option.toList_none, List.cons_append, List.nil_append, am_nlI, am_nlR, am_nlN, if_true, if_false, ↓reduceIte, e0]
  refine PO.go hM ?_
  intro a' b' hJ'
  simp (disch := (first | assumption | exact tg_0 | exact tg_12 | exact tgx_0 | exact tgx_127 | exact inx (by assumption) | exact Nat.le_of_ble_eq_true rfl)) only [st_L_law_1359, Option.toList_some, Option.toList_none, List.cons_append, List.nil_append, am_nlI, am_nlR, am_nlN, if_true, if_false, ↓reduceIte]
  exact hn a' b' hJ'
set_option maxRecDepth 100000 in
set_option maxHeartbeats 4000000 in
theorem lw_sheet (hJ : J a b) (hn : ∀ a' b', J a' b' → AW (59 + 1) 0 1579 (LOC I) [] (CT L, a', RR b') Q) (h1 : inb (I + 1) (am_len (CT L) 0)) (h2 : inb (I + 2) (am_len (CT L) 0)) (h3 : inb (I + 3) (am_len (CT L) 0)) (h4 : inb (I + 4) (am_len (CT L) 0)) (h5 : inb (I + 5) (am_len (CT L) 0)) : AW (59 + 1) 0 1364 (LOC I) [] (CT L, a, RR b) Q := by
  unfold LOC at *
  simp (disch := (first | assumption | exact tg_0 | exact tg_12 | exact tgx_0 | exact tgx_127 | exact inx (by assumption) | exact Nat.le_of_ble_eq_true rfl)) only [st_L_law_1364, st_L_law_1365, st_L_law_1366, st_L_law_1367, st_L_law_1368, st_L_law_1369, st_L_law_1370, st_L_law_1371, st_L_law_1372, st_L_law_1373, st_L_law_1374, st_L_law_1375, st_L_law_1376, st_L_law_1377, st_L_law_1378, st_L_law_1379, st_L_law_1380, Option.toList_some, Option.toList_none, List.cons_append, List.nil_append, am_nlI, am_nlR, am_nlN, if_true, if_false, ↓reduceIte]
  refine law_mid (d := 0) keep_sheet hJ ?_
  intro x t a1 r1 e0 hM
  simp (disch := (first | assumption | exact tg_0 | exact tg_12 | exact tgx_0 | exact tgx_127 | exact inx (by assumption) | exact Nat.le_of_ble_eq_true rfl)) only [st_L_law_1383, st_L_law_1384, st_L_law_1385, st_L_law_1386, st_L_law_1387, st_L_law_1388, st_L_law_1389, st_L_law_1390, st_L_law_1391, st_L_law_1392, st_L_law_1393, st_L_law_1394, st_L_law_1395, st_L_law_1396, st_L_law_1397, st_L_law_1398, st_L_law_1399, Option.toList_some, Option.toList_none, List.cons_append, List.nil_append, am_nlI, am_nlR, am_nlN, if_true, if_false, ↓reduceIte, e0]
  refine PO.go hM ?_
  intro a' b' hJ'
  simp (disch := (first | assumption | exact tg_0 | exact tg_12 | exact tgx_0 | exact tgx_127 | exact inx (by assumption) | exact Nat.le_of_ble_eq_true rfl)) only [st_L_law_1402, Option.toList_some, Option.toList_none, List.cons_append, List.nil_append, am_nlI, am_nlR, am_nlN, if_true, if_false, ↓reduceIte]
  exact hn a' b' hJ'
set_option maxRecDepth 100000 in
set_option maxHeartbeats 4000000 in
theorem lw_drop (hJ : J a b) (hn : ∀ a' b', J a' b' → AW (59 + 1) 0 1579 (LOC I) [] (CT L, a', RR b') Q) (h1 : inb (I + 1) (am_len (CT L) 0)) (h2 : inb (I + 2) (am_len (CT L) 0)) (h3 : inb (I + 3) (am_len (CT L) 0)) (h4 : inb (I + 4) (am_len (CT L) 0)) (h5 : inb (I + 5) (am_len (CT L) 0)) : AW (59 + 1) 0 1407 (LOC I) [] (CT L, a, RR b) Q := by
  unfold LOC at *
  simp (disch := (first | assumption | exact tg_0 | exact tg_12 | exact tgx_0 | exact tgx_127 | exact inx (by assumption) | exact Nat.le_of_ble_eq_true rfl)) only [st_L_law_1407, st_L_law_1408, st_L_law_1409, st_L_law_1410, st_L_law_1411, st_L_law_1412, st_L_law_1413, Option.toList_some, Option.toList_none, List.cons_append, List.nil_append, am_nlI, am_nlR, am_nlN, if_true, if_false, ↓reduceIte]
  refine law_mid (d := 0) keep_drop hJ ?_
  intro x t a1 r1 e0 hM
  simp (disch := (first | assumption | exact tg_0 | exact tg_12 | exact tgx_0 | exact tgx_127 | exact inx (by assumption) | exact Nat.le_of_ble_eq_true rfl)) only [st_L_law_1416, st_L_law_1417, st_L_law_1418, st_L_law_1419, st_L_law_1420, st_L_law_1421, st_L_law_1422, Option.toList_some, Option.toList_none, List.cons_append, List.nil_append, am_nlI, am_nlR, am_nlN, if_true, if_false, ↓reduceIte, e0]
  refine PO.go hM ?_
  intro a' b' hJ'
  simp (disch := (first | assumption | exact tg_0 | exact tg_12 | exact tgx_0 | exact tgx_127 | exact inx (by assumption) | exact Nat.le_of_ble_eq_true rfl)) only [st_L_law_1425, Option.toList_some, Option.toList_none, List.cons_append, List.nil_append, am_nlI, am_nlR, am_nlN, if_true, if_false, ↓reduceIte]
  exact hn a' b' hJ'
set_option maxRecDepth 100000 in
set_option maxHeartbeats 4000000 in
theorem lw_item (hJ : J a b) (hn : ∀ a' b', J a' b' → AW (59 + 1) 0 1579 (LOC I) [] (CT L, a', RR b') Q) (h1 : inb (I + 1) (am_len (CT L) 0)) (h2 : inb (I + 2) (am_len (CT L) 0)) (h3 : inb (I + 3) (am_len (CT L) 0)) (h4 : inb (I + 4) (am_len (CT L) 0)) (h5 : inb (I + 5) (am_len (CT L) 0)) : AW (59 + 1) 0 1430 (LOC I) [] (CT L, a, RR b) Q := by
  unfold LOC at *
  simp (disch := (first | assumption | exact tg_0 | exact tg_12 | exact tgx_0 | exact tgx_127 | exact inx (by assumption) | exact Nat.le_of_ble_eq_true rfl)) only [st_L_law_1430, st_L_law_1431, st_L_law_1432, st_L_law_1433, st_L_law_1434, st_L_law_1435, st_L_law_1436, st_L_law_1437, st_L_law_1438, st_L_law_1439, st_L_law_1440, st_L_law_1441, st_L_law_1442, st_L_law_1443, st_L_law_1444, st_L_law_1445, st_L_law_1446, st_L_law_1447, st_L_law_1448, st_L_law_1449, st_L_law_1450, st_L_law_1451, Option.toList_some, Option.toList_none, List.cons_append, List.nil_append, am_nlI, am_nlR, am_nlN, if_true, if_false, ↓reduceIte]
  refine law_mid (d := 0) keep_item hJ ?_
  intro x t a1 r1 e0 hM
  simp (disch := (first | assumption | exact tg_0 | exact tg_12 | exact tgx_0 | exact tgx_127 | exact inx (by assumption) | exact Nat.le_of_ble_eq_true rfl)) only [st_L_law_1454, st_L_law_1455, st_L_law_1456, st_L_law_1457, st_L_law_1458, st_L_law_1459, st_L_law_1460, st_L_law_1461, st_L_law_1462, st_L_law_1463, st_L_law_1464, st_L_law_1465, st_L_law_1466, st_L_law_1467, st_L_law_1468, st_L_law_1469, st_L_law_1470, st_L_law_1471, st_L_law_1472, st_L_law_1473, st_L_law_1474, st_L_law_1475, Option.toList_some, Option.toList_none, List.cons_append, List.nil_append, am_nlI, am_nlR, am_nlN, if_true, if_false, ↓reduceIte, e0]
  refine PO.go hM ?_
  intro a' b' hJ'
  simp (disch := (first | assumption | exact tg_0 | exact tg_12 | exact tgx_0 | exact tgx_127 | exact inx (by assumption) | exact Nat.le_of_ble_eq_true rfl)) only [st_L_law_1478, Option.toList_some, Option.toList_none, List.cons_append, List.nil_append, am_nlI, am_nlR, am_nlN, if_true, if_false, ↓reduceIte]
  exact hn a' b' hJ'
set_option maxRecDepth 100000 in
set_option maxHeartbeats 4000000 in
theorem lw_copy (hJ : J a b) (hn : ∀ a' b', J a' b' → AW (59 + 1) 0 1579 (LOC I) [] (CT L, a', RR b') Q) (h1 : inb (I + 1) (am_len (CT L) 0)) (h2 : inb (I + 2) (am_len (CT L) 0)) (h3 : inb (I + 3) (am_len (CT L) 0)) (h4 : inb (I + 4) (am_len (CT L) 0)) (h5 : inb (I + 5) (am_len (CT L) 0)) : AW (59 + 1) 0 1483 (LOC I) [] (CT L, a, RR b) Q := by
  unfold LOC at *
  simp (disch := (first | assumption | exact tg_0 | exact tg_12 | exact tgx_0 | exact tgx_127 | exact inx (by assumption) | exact Nat.le_of_ble_eq_true rfl)) only [st_L_law_1483, st_L_law_1484, st_L_law_1485, st_L_law_1486, st_L_law_1487, st_L_law_1488, st_L_law_1489, st_L_law_1490, st_L_law_1491, st_L_law_1492, st_L_law_1493, st_L_law_1494, st_L_law_1495, st_L_law_1496, st_L_law_1497, st_L_law_1498, st_L_law_1499, st_L_law_1500, st_L_law_1501, st_L_law_1502, st_L_law_1503, st_L_law_1504, st_L_law_1505, st_L_law_1506, st_L_law_1507, st_L_law_1508, st_L_law_1509, Option.toList_some, Option.toList_none, List.cons_append, List.nil_append, am_nlI, am_nlR, am_nlN, if_true, if_false, ↓reduceIte]
  refine law_mid (d := 0) keep_copy hJ ?_
  intro x t a1 r1 e0 hM
  simp (disch := (first | assumption | exact tg_0 | exact tg_12 | exact tgx_0 | exact tgx_127 | exact inx (by assumption) | exact Nat.le_of_ble_eq_true rfl)) only [st_L_law_1512, st_L_law_1513, st_L_law_1514, st_L_law_1515, st_L_law_1516, st_L_law_1517, st_L_law_1518, st_L_law_1519, st_L_law_1520, st_L_law_1521, st_L_law_1522, st_L_law_1523, st_L_law_1524, st_L_law_1525, st_L_law_1526, st_L_law_1527, st_L_law_1528, st_L_law_1529, st_L_law_1530, st_L_law_1531, st_L_law_1532, st_L_law_1533, st_L_law_1534, st_L_law_1535, st_L_law_1536, st_L_law_1537, st_L_law_1538, Option.toList_some, Option.toList_none, List.cons_append, List.nil_append, am_nlI, am_nlR, am_nlN, if_true, if_false, ↓reduceIte, e0]
  refine PO.go hM ?_
  intro a' b' hJ'
  simp (disch := (first | assumption | exact tg_0 | exact tg_12 | exact tgx_0 | exact tgx_127 | exact inx (by assumption) | exact Nat.le_of_ble_eq_true rfl)) only [st_L_law_1541, Option.toList_some, Option.toList_none, List.cons_append, List.nil_append, am_nlI, am_nlR, am_nlN, if_true, if_false, ↓reduceIte]
  exact hn a' b' hJ'
set_option maxRecDepth 100000 in
set_option maxHeartbeats 4000000 in
theorem lw_reads (hJ : J a b) (hn : ∀ a' b', J a' b' → AW (59 + 1) 0 1579 (LOC I) [] (CT L, a', RR b') Q) (h1 : inb (I + 1) (am_len (CT L) 0)) (h2 : inb (I + 2) (am_len (CT L) 0)) (h3 : inb (I + 3) (am_len (CT L) 0)) (h4 : inb (I + 4) (am_len (CT L) 0)) (h5 : inb (I + 5) (am_len (CT L) 0)) : AW (59 + 1) 0 1546 (LOC I) [] (CT L, a, RR b) Q := by
  unfold LOC at *
  simp (disch := (first | assumption | exact tg_0 | exact tg_12 | exact tgx_0 | exact tgx_127 | exact inx (by assumption) | exact Nat.le_of_ble_eq_true rfl)) only [st_L_law_1546, st_L_law_1547, st_L_law_1548, st_L_law_1549, st_L_law_1550, st_L_law_1551, st_L_law_1552, st_L_law_1553, st_L_law_1554, st_L_law_1555, st_L_law_1556, st_L_law_1557, Option.toList_some, Option.toList_none, List.cons_append, List.nil_append, am_nlI, am_nlR, am_nlN, if_true, if_false, ↓reduceIte]
  refine law_mid (d := 0) keep_reads hJ ?_
  intro x t a1 r1 e0 hM
  simp (disch := (first | assumption | exact tg_0 | exact tg_12 | exact tgx_0 | exact tgx_127 | exact inx (by assumption) | exact Nat.le_of_ble_eq_true rfl)) only [st_L_law_1560, st_L_law_1561, st_L_law_1562, st_L_law_1563, st_L_law_1564, st_L_law_1565, st_L_law_1566, st_L_law_1567, st_L_law_1568, st_L_law_1569, st_L_law_1570, st_L_law_1571, Option.toList_some, Option.toList_none, List.cons_append, List.nil_append, am_nlI, am_nlR, am_nlN, if_true, if_false, ↓reduceIte, e0]
  refine PO.go hM ?_
  intro a' b' hJ'
  simp (disch := (first | assumption | exact tg_0 | exact tg_12 | exact tgx_0 | exact tgx_127 | exact inx (by assumption) | exact Nat.le_of_ble_eq_true rfl)) only [st_L_law_1574, Option.toList_some, Option.toList_none, List.cons_append, List.nil_append, am_nlI, am_nlR, am_nlN, if_true, if_false, ↓reduceIte]
  exact hn a' b' hJ'
end LWC
