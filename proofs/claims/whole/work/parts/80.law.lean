/-! ===== the law: its cases ===== -/
--need 79.parkd
def lw_out (X : ix_X) (e pc i : Nat) (μ : fm_M) (τ : List fm_D) : Prop := ∃ (μ' : fm_M) (τ' : List fm_D) (S' : Nat → Int32) (N' : Nat → Nat) (C' : Nat → List Nat) (Q' : Nat → Nat), ix_sem X (e + 41) 236 pc [some (.retAddr 0), some (.ref 0), some (.ref 67), some (.int (nI i))] [] (fm_W μ τ) = ix_sem X (e + 41) 236 1555 [some (.retAddr 0), some (.ref 0), some (.ref 67), some (.int (nI i))] [] (fm_W μ' τ') ∧ QI μ' τ' S' N' C' Q' ∧ (τ' = τ ∨ ∃ k t, k ≤ 6 ∧ τ' = τ ++ tde k t (76 + τ.length))
theorem lw_c0 (v : Int64) : lg_cmp v v = 0 := by simp [lg_cmp]
theorem lw_at' {X : ix_X} {i k : Nat} (hX : X.1 ≤ 2560) (hi : i + 5 ≤ X.1) (hk : k < 5) : (0 ≤ nI (i + k) ∧ (nI (i + k)).toNatClampNeg < X.1) ∧ (nI (i + k)).toNatClampNeg = i + k := by
  have h1 : i + k < 2 ^ 31 := by omega
  have h2 := nI_clamp h1
  exact ⟨⟨nI_pos' h1, by rw [h2]; omega⟩, h2⟩
section LW
variable {X : ix_X} {e i : Nat} {τ : List fm_D} {μ : fm_M} {S : Nat → Int32} {N : Nat → Nat} {C : Nat → List Nat} {Q : Nat → Nat}
theorem lw_k0 (hX : X.1 ≤ 2560) (hi : i + 5 ≤ X.1) (h : QI μ τ S N C Q) : lw_out X e 228 i μ τ := by
  obtain ⟨p1, n1⟩ := lw_at' (k := 1) hX hi (by decide)
  have ag : agt X (e + 40) τ S N C Q 64 133 [.int (X.2 (i + 1))] := agt_of (agm_feed (X := X) (d := e + 34))
  obtain ⟨v, μ1, μ2, τ', S', N', C', Q', a1, a2, q, r⟩ := ag μ h
  refine ⟨μ2, τ', S', N', C', Q', ?_, q, r⟩
  simp (disch := first | assumption | omega | decide) only [i236_228, i236_229, i236_230, i236_231, i236_232, i236_233, i236_234, i236_237, i236_238, i236_239, i236_240, i236_241, i236_242, i236_243, i236_246, i236_249, i236_250, ix_pv_s, ix_pi_s, zpn, ix_po_s, ix_po_n, ix_ph_s, ix_bk_v, ix_bk_n, zcv, zcv_ne, ↓reduceIte, Nat.reduceEqDiff, zn_add, t0_c, mo_c, n1, a1, a2, eq_self]
theorem lw_k1 (hX : X.1 ≤ 2560) (hi : i + 5 ≤ X.1) (h : QI μ τ S N C Q) : lw_out X e 251 i μ τ := by
  have ag : agt X (e + 40) τ S N C Q 66 135 [] := agt_of (agm_park (X := X) (e := e + 14))
  obtain ⟨v, μ1, μ2, τ', S', N', C', Q', a1, a2, q, r⟩ := ag μ h
  refine ⟨μ2, τ', S', N', C', Q', ?_, q, r⟩
  simp (disch := first | assumption | omega | decide) only [i236_251, i236_252, i236_255, i236_256, i236_259, i236_262, i236_263, ix_pv_s, ix_pi_s, zpn, ix_po_s, ix_po_n, ix_ph_s, ix_bk_v, ix_bk_n, zcv, zcv_ne, ↓reduceIte, Nat.reduceEqDiff, zn_add, t0_c, mo_c, a1, a2, eq_self]
theorem lw_k2 (hX : X.1 ≤ 2560) (hi : i + 5 ≤ X.1) (hτ : τ.length ≤ 100000) (h : QI μ τ S N C Q) : lw_out X e 264 i μ τ := by
  obtain ⟨p1, n1⟩ := lw_at' (k := 1) hX hi (by decide)
  obtain ⟨p2, n2⟩ := lw_at' (k := 2) hX hi (by decide)
  obtain ⟨p3, n3⟩ := lw_at' (k := 3) hX hi (by decide)
  obtain ⟨p4, n4⟩ := lw_at' (k := 4) hX hi (by decide)
  have ag : agt X (e + 40) τ S N C Q 71 149 [.int (X.2 (i + 1)), .int (X.2 (i + 2)), .int (X.2 (i + 3)), .int (X.2 (i + 4))] := agt_tree (X := X) (d := e + 34) hτ
  obtain ⟨v, μ1, μ2, τ', S', N', C', Q', a1, a2, q, r⟩ := ag μ h
  refine ⟨μ2, τ', S', N', C', Q', ?_, q, r⟩
  simp (disch := first | assumption | omega | decide) only [i236_264, i236_265, i236_266, i236_267, i236_268, i236_269, i236_270, i236_271, i236_272, i236_273, i236_274, i236_275, i236_276, i236_277, i236_278, i236_279, i236_280, i236_281, i236_282, i236_283, i236_284, i236_285, i236_288, i236_289, i236_290, i236_291, i236_292, i236_293, i236_294, i236_295, i236_296, i236_297, i236_298, i236_299, i236_300, i236_301, i236_302, i236_303, i236_304, i236_305, i236_306, i236_307, i236_308, i236_309, i236_312, i236_315, i236_316, ix_pv_s, ix_pi_s, zpn, ix_po_s, ix_po_n, ix_ph_s, ix_bk_v, ix_bk_n, zcv, zcv_ne, ↓reduceIte, Nat.reduceEqDiff, zn_add, t0_c, mo_c, n1, n2, n3, n4, a1, a2, eq_self]
theorem lw_k3 (hX : X.1 ≤ 2560) (hi : i + 5 ≤ X.1) (h : QI μ τ S N C Q) : lw_out X e 317 i μ τ := by
  obtain ⟨p1, n1⟩ := lw_at' (k := 1) hX hi (by decide)
  obtain ⟨p2, n2⟩ := lw_at' (k := 2) hX hi (by decide)
  have ag : agt X (e + 40) τ S N C Q 73 150 [.int (X.2 (i + 1)), .int (X.2 (i + 2))] := agt_of (agm_of (agr_of (X := X) (d := e + 34)))
  obtain ⟨v, μ1, μ2, τ', S', N', C', Q', a1, a2, q, r⟩ := ag μ h
  refine ⟨μ2, τ', S', N', C', Q', ?_, q, r⟩
  simp (disch := first | assumption | omega | decide) only [i236_317, i236_318, i236_319, i236_320, i236_321, i236_322, i236_323, i236_324, i236_325, i236_326, i236_327, i236_328, i236_331, i236_332, i236_333, i236_334, i236_335, i236_336, i236_337, i236_338, i236_339, i236_340, i236_341, i236_342, i236_345, i236_348, i236_349, ix_pv_s, ix_pi_s, zpn, ix_po_s, ix_po_n, ix_ph_s, ix_bk_v, ix_bk_n, zcv, zcv_ne, ↓reduceIte, Nat.reduceEqDiff, zn_add, t0_c, mo_c, n1, n2, a1, a2, eq_self]
theorem lw_k4 (hX : X.1 ≤ 2560) (hi : i + 5 ≤ X.1) (h : QI μ τ S N C Q) : lw_out X e 350 i μ τ := by
  obtain ⟨p1, n1⟩ := lw_at' (k := 1) hX hi (by decide)
  obtain ⟨p2, n2⟩ := lw_at' (k := 2) hX hi (by decide)
  have ag : agt X (e + 40) τ S N C Q 76 161 [.int (X.2 (i + 1)), .int (X.2 (i + 2))] := agt_of (agm_hold (X := X) (d := e + 34))
  obtain ⟨v, μ1, μ2, τ', S', N', C', Q', a1, a2, q, r⟩ := ag μ h
  refine ⟨μ2, τ', S', N', C', Q', ?_, q, r⟩
  simp (disch := first | assumption | omega | decide) only [i236_350, i236_351, i236_352, i236_353, i236_354, i236_355, i236_356, i236_357, i236_358, i236_359, i236_360, i236_361, i236_364, i236_365, i236_366, i236_367, i236_368, i236_369, i236_370, i236_371, i236_372, i236_373, i236_374, i236_375, i236_378, i236_381, i236_382, ix_pv_s, ix_pi_s, zpn, ix_po_s, ix_po_n, ix_ph_s, ix_bk_v, ix_bk_n, zcv, zcv_ne, ↓reduceIte, Nat.reduceEqDiff, zn_add, t0_c, mo_c, n1, n2, a1, a2, eq_self]
theorem lw_k5 (hX : X.1 ≤ 2560) (hi : i + 5 ≤ X.1) (h : QI μ τ S N C Q) : lw_out X e 383 i μ τ := by
  obtain ⟨p1, n1⟩ := lw_at' (k := 1) hX hi (by decide)
  obtain ⟨p2, n2⟩ := lw_at' (k := 2) hX hi (by decide)
  obtain ⟨p3, n3⟩ := lw_at' (k := 3) hX hi (by decide)
  have ag : agt X (e + 40) τ S N C Q 77 162 [.int (X.2 (i + 1)), .int (X.2 (i + 2)), .int (X.2 (i + 3))] := agt_of (agm_row (X := X) (d := e + 34))
  obtain ⟨v, μ1, μ2, τ', S', N', C', Q', a1, a2, q, r⟩ := ag μ h
  refine ⟨μ2, τ', S', N', C', Q', ?_, q, r⟩
  simp (disch := first | assumption | omega | decide) only [i236_383, i236_384, i236_385, i236_386, i236_387, i236_388, i236_389, i236_390, i236_391, i236_392, i236_393, i236_394, i236_395, i236_396, i236_397, i236_398, i236_399, i236_402, i236_403, i236_404, i236_405, i236_406, i236_407, i236_408, i236_409, i236_410, i236_411, i236_412, i236_413, i236_414, i236_415, i236_416, i236_417, i236_418, i236_421, i236_424, i236_425, ix_pv_s, ix_pi_s, zpn, ix_po_s, ix_po_n, ix_ph_s, ix_bk_v, ix_bk_n, zcv, zcv_ne, ↓reduceIte, Nat.reduceEqDiff, zn_add, t0_c, mo_c, n1, n2, n3, a1, a2, eq_self]
theorem lw_k6 (hX : X.1 ≤ 2560) (hi : i + 5 ≤ X.1) (h : QI μ τ S N C Q) : lw_out X e 426 i μ τ := by
  obtain ⟨p1, n1⟩ := lw_at' (k := 1) hX hi (by decide)
  obtain ⟨p2, n2⟩ := lw_at' (k := 2) hX hi (by decide)
  have ag : agt X (e + 40) τ S N C Q 78 163 [.int (X.2 (i + 1)), .int (X.2 (i + 2))] := agt_of (agm_walker (X := X) (d := e + 34))
  obtain ⟨v, μ1, μ2, τ', S', N', C', Q', a1, a2, q, r⟩ := ag μ h
  refine ⟨μ2, τ', S', N', C', Q', ?_, q, r⟩
  simp (disch := first | assumption | omega | decide) only [i236_426, i236_427, i236_428, i236_429, i236_430, i236_431, i236_432, i236_433, i236_434, i236_435, i236_436, i236_437, i236_440, i236_441, i236_442, i236_443, i236_444, i236_445, i236_446, i236_447, i236_448, i236_449, i236_450, i236_451, i236_454, i236_457, i236_458, ix_pv_s, ix_pi_s, zpn, ix_po_s, ix_po_n, ix_ph_s, ix_bk_v, ix_bk_n, zcv, zcv_ne, ↓reduceIte, Nat.reduceEqDiff, zn_add, t0_c, mo_c, n1, n2, a1, a2, eq_self]
theorem lw_k7 (hX : X.1 ≤ 2560) (hi : i + 5 ≤ X.1) (h : QI μ τ S N C Q) : lw_out X e 459 i μ τ := by
  obtain ⟨p1, n1⟩ := lw_at' (k := 1) hX hi (by decide)
  obtain ⟨p2, n2⟩ := lw_at' (k := 2) hX hi (by decide)
  have ag : agt X (e + 40) τ S N C Q 79 164 [.int (X.2 (i + 1)), .int (X.2 (i + 2))] := agt_of (agm_of (agr_at (X := X) (d := e + 34)))
  obtain ⟨v, μ1, μ2, τ', S', N', C', Q', a1, a2, q, r⟩ := ag μ h
  refine ⟨μ2, τ', S', N', C', Q', ?_, q, r⟩
  simp (disch := first | assumption | omega | decide) only [i236_459, i236_460, i236_461, i236_462, i236_463, i236_464, i236_465, i236_466, i236_467, i236_468, i236_469, i236_470, i236_473, i236_474, i236_475, i236_476, i236_477, i236_478, i236_479, i236_480, i236_481, i236_482, i236_483, i236_484, i236_487, i236_490, i236_491, ix_pv_s, ix_pi_s, zpn, ix_po_s, ix_po_n, ix_ph_s, ix_bk_v, ix_bk_n, zcv, zcv_ne, ↓reduceIte, Nat.reduceEqDiff, zn_add, t0_c, mo_c, n1, n2, a1, a2, eq_self]
theorem lw_k8 (hX : X.1 ≤ 2560) (hi : i + 5 ≤ X.1) (h : QI μ τ S N C Q) : lw_out X e 492 i μ τ := by
  obtain ⟨p1, n1⟩ := lw_at' (k := 1) hX hi (by decide)
  obtain ⟨p2, n2⟩ := lw_at' (k := 2) hX hi (by decide)
  obtain ⟨p3, n3⟩ := lw_at' (k := 3) hX hi (by decide)
  have ag : agt X (e + 40) τ S N C Q 80 166 [.int (X.2 (i + 1)), .int (X.2 (i + 2)), .int (X.2 (i + 3))] := agt_of (agm_gear (X := X) (d := e + 34))
  obtain ⟨v, μ1, μ2, τ', S', N', C', Q', a1, a2, q, r⟩ := ag μ h
  refine ⟨μ2, τ', S', N', C', Q', ?_, q, r⟩
  simp (disch := first | assumption | omega | decide) only [i236_492, i236_493, i236_494, i236_495, i236_496, i236_497, i236_498, i236_499, i236_500, i236_501, i236_502, i236_503, i236_504, i236_505, i236_506, i236_507, i236_508, i236_511, i236_512, i236_513, i236_514, i236_515, i236_516, i236_517, i236_518, i236_519, i236_520, i236_521, i236_522, i236_523, i236_524, i236_525, i236_526, i236_527, i236_530, i236_533, i236_534, ix_pv_s, ix_pi_s, zpn, ix_po_s, ix_po_n, ix_ph_s, ix_bk_v, ix_bk_n, zcv, zcv_ne, ↓reduceIte, Nat.reduceEqDiff, zn_add, t0_c, mo_c, n1, n2, n3, a1, a2, eq_self]
theorem lw_k9 (hX : X.1 ≤ 2560) (hi : i + 5 ≤ X.1) (h : QI μ τ S N C Q) : lw_out X e 535 i μ τ := by
  obtain ⟨p1, n1⟩ := lw_at' (k := 1) hX hi (by decide)
  have ag : agt X (e + 40) τ S N C Q 82 167 [.int (X.2 (i + 1))] := agt_of (agm_home (X := X) (d := e + 34))
  obtain ⟨v, μ1, μ2, τ', S', N', C', Q', a1, a2, q, r⟩ := ag μ h
  refine ⟨μ2, τ', S', N', C', Q', ?_, q, r⟩
  simp (disch := first | assumption | omega | decide) only [i236_535, i236_536, i236_537, i236_538, i236_539, i236_540, i236_541, i236_544, i236_545, i236_546, i236_547, i236_548, i236_549, i236_550, i236_553, i236_556, i236_557, ix_pv_s, ix_pi_s, zpn, ix_po_s, ix_po_n, ix_ph_s, ix_bk_v, ix_bk_n, zcv, zcv_ne, ↓reduceIte, Nat.reduceEqDiff, zn_add, t0_c, mo_c, n1, a1, a2, eq_self]
theorem lw_k10 (hX : X.1 ≤ 2560) (hi : i + 5 ≤ X.1) (h : QI μ τ S N C Q) : lw_out X e 558 i μ τ := by
  obtain ⟨p1, n1⟩ := lw_at' (k := 1) hX hi (by decide)
  have ag : agt X (e + 40) τ S N C Q 83 168 [.int (X.2 (i + 1))] := agt_of (agm_of (agr_told (X := X) (d := e + 34)))
  obtain ⟨v, μ1, μ2, τ', S', N', C', Q', a1, a2, q, r⟩ := ag μ h
  refine ⟨μ2, τ', S', N', C', Q', ?_, q, r⟩
  simp (disch := first | assumption | omega | decide) only [i236_558, i236_559, i236_560, i236_561, i236_562, i236_563, i236_564, i236_567, i236_568, i236_569, i236_570, i236_571, i236_572, i236_573, i236_576, i236_579, i236_580, ix_pv_s, ix_pi_s, zpn, ix_po_s, ix_po_n, ix_ph_s, ix_bk_v, ix_bk_n, zcv, zcv_ne, ↓reduceIte, Nat.reduceEqDiff, zn_add, t0_c, mo_c, n1, a1, a2, eq_self]
theorem lw_k11 (hX : X.1 ≤ 2560) (hi : i + 5 ≤ X.1) (h : QI μ τ S N C Q) : lw_out X e 581 i μ τ := by
  obtain ⟨p1, n1⟩ := lw_at' (k := 1) hX hi (by decide)
  have ag : agt X (e + 40) τ S N C Q 84 169 [.int (X.2 (i + 1))] := agt_of (agm_go (X := X) (d := e + 34))
  obtain ⟨v, μ1, μ2, τ', S', N', C', Q', a1, a2, q, r⟩ := ag μ h
  refine ⟨μ2, τ', S', N', C', Q', ?_, q, r⟩
  simp (disch := first | assumption | omega | decide) only [i236_581, i236_582, i236_583, i236_584, i236_585, i236_586, i236_587, i236_590, i236_591, i236_592, i236_593, i236_594, i236_595, i236_596, i236_599, i236_602, i236_603, ix_pv_s, ix_pi_s, zpn, ix_po_s, ix_po_n, ix_ph_s, ix_bk_v, ix_bk_n, zcv, zcv_ne, ↓reduceIte, Nat.reduceEqDiff, zn_add, t0_c, mo_c, n1, a1, a2, eq_self]
theorem lw_k12 (hX : X.1 ≤ 2560) (hi : i + 5 ≤ X.1) (h : QI μ τ S N C Q) : lw_out X e 604 i μ τ := by
  obtain ⟨p1, n1⟩ := lw_at' (k := 1) hX hi (by decide)
  obtain ⟨p2, n2⟩ := lw_at' (k := 2) hX hi (by decide)
  have ag : agt X (e + 40) τ S N C Q 85 170 [.int (X.2 (i + 1)), .int (X.2 (i + 2))] := agt_of (agm_of (agr_rain (X := X) (d := e + 34)))
  obtain ⟨v, μ1, μ2, τ', S', N', C', Q', a1, a2, q, r⟩ := ag μ h
  refine ⟨μ2, τ', S', N', C', Q', ?_, q, r⟩
  simp (disch := first | assumption | omega | decide) only [i236_604, i236_605, i236_606, i236_607, i236_608, i236_609, i236_610, i236_611, i236_612, i236_613, i236_614, i236_615, i236_618, i236_619, i236_620, i236_621, i236_622, i236_623, i236_624, i236_625, i236_626, i236_627, i236_628, i236_629, i236_632, i236_635, i236_636, ix_pv_s, ix_pi_s, zpn, ix_po_s, ix_po_n, ix_ph_s, ix_bk_v, ix_bk_n, zcv, zcv_ne, ↓reduceIte, Nat.reduceEqDiff, zn_add, t0_c, mo_c, n1, n2, a1, a2, eq_self]
theorem lw_k13 (hX : X.1 ≤ 2560) (hi : i + 5 ≤ X.1) (h : QI μ τ S N C Q) : lw_out X e 637 i μ τ := by
  obtain ⟨p1, n1⟩ := lw_at' (k := 1) hX hi (by decide)
  obtain ⟨p2, n2⟩ := lw_at' (k := 2) hX hi (by decide)
  have ag : agt X (e + 40) τ S N C Q 86 171 [.int (X.2 (i + 1)), .int (X.2 (i + 2))] := agt_of (agm_of (agr_under (X := X) (d := e + 34)))
  obtain ⟨v, μ1, μ2, τ', S', N', C', Q', a1, a2, q, r⟩ := ag μ h
  refine ⟨μ2, τ', S', N', C', Q', ?_, q, r⟩
  simp (disch := first | assumption | omega | decide) only [i236_637, i236_638, i236_639, i236_640, i236_641, i236_642, i236_643, i236_644, i236_645, i236_646, i236_647, i236_648, i236_651, i236_652, i236_653, i236_654, i236_655, i236_656, i236_657, i236_658, i236_659, i236_660, i236_661, i236_662, i236_665, i236_668, i236_669, ix_pv_s, ix_pi_s, zpn, ix_po_s, ix_po_n, ix_ph_s, ix_bk_v, ix_bk_n, zcv, zcv_ne, ↓reduceIte, Nat.reduceEqDiff, zn_add, t0_c, mo_c, n1, n2, a1, a2, eq_self]
theorem lw_k14 (hX : X.1 ≤ 2560) (hi : i + 5 ≤ X.1) (h : QI μ τ S N C Q) : lw_out X e 670 i μ τ := by
  obtain ⟨p1, n1⟩ := lw_at' (k := 1) hX hi (by decide)
  obtain ⟨p2, n2⟩ := lw_at' (k := 2) hX hi (by decide)
  have ag : agt X (e + 40) τ S N C Q 87 172 [.int (X.2 (i + 1)), .int (X.2 (i + 2))] := agt_of (agm_of (agr_straight (X := X) (d := e + 35)))
  obtain ⟨v, μ1, μ2, τ', S', N', C', Q', a1, a2, q, r⟩ := ag μ h
  refine ⟨μ2, τ', S', N', C', Q', ?_, q, r⟩
  simp (disch := first | assumption | omega | decide) only [i236_670, i236_671, i236_672, i236_673, i236_674, i236_675, i236_676, i236_677, i236_678, i236_679, i236_680, i236_681, i236_684, i236_685, i236_686, i236_687, i236_688, i236_689, i236_690, i236_691, i236_692, i236_693, i236_694, i236_695, i236_698, i236_701, i236_702, ix_pv_s, ix_pi_s, zpn, ix_po_s, ix_po_n, ix_ph_s, ix_bk_v, ix_bk_n, zcv, zcv_ne, ↓reduceIte, Nat.reduceEqDiff, zn_add, t0_c, mo_c, n1, n2, a1, a2, eq_self]
theorem lw_k15 (hX : X.1 ≤ 2560) (hi : i + 5 ≤ X.1) (h : QI μ τ S N C Q) : lw_out X e 703 i μ τ := by
  obtain ⟨p1, n1⟩ := lw_at' (k := 1) hX hi (by decide)
  obtain ⟨p2, n2⟩ := lw_at' (k := 2) hX hi (by decide)
  have ag : agt X (e + 40) τ S N C Q 92 180 [.int (X.2 (i + 1)), .int (X.2 (i + 2))] := agt_of (agm_leg (X := X) (d := e + 34))
  obtain ⟨v, μ1, μ2, τ', S', N', C', Q', a1, a2, q, r⟩ := ag μ h
  refine ⟨μ2, τ', S', N', C', Q', ?_, q, r⟩
  simp (disch := first | assumption | omega | decide) only [i236_703, i236_704, i236_705, i236_706, i236_707, i236_708, i236_709, i236_710, i236_711, i236_712, i236_713, i236_714, i236_717, i236_718, i236_719, i236_720, i236_721, i236_722, i236_723, i236_724, i236_725, i236_726, i236_727, i236_728, i236_731, i236_734, i236_735, ix_pv_s, ix_pi_s, zpn, ix_po_s, ix_po_n, ix_ph_s, ix_bk_v, ix_bk_n, zcv, zcv_ne, ↓reduceIte, Nat.reduceEqDiff, zn_add, t0_c, mo_c, n1, n2, a1, a2, eq_self]
theorem lw_k16 (hX : X.1 ≤ 2560) (hi : i + 5 ≤ X.1) (h : QI μ τ S N C Q) : lw_out X e 736 i μ τ := by
  obtain ⟨p1, n1⟩ := lw_at' (k := 1) hX hi (by decide)
  obtain ⟨p2, n2⟩ := lw_at' (k := 2) hX hi (by decide)
  have ag : agt X (e + 40) τ S N C Q 93 181 [.int (X.2 (i + 1)), .int (X.2 (i + 2))] := agt_of (agm_of (agr_way (X := X) (d := e + 32)))
  obtain ⟨v, μ1, μ2, τ', S', N', C', Q', a1, a2, q, r⟩ := ag μ h
  refine ⟨μ2, τ', S', N', C', Q', ?_, q, r⟩
  simp (disch := first | assumption | omega | decide) only [i236_736, i236_737, i236_738, i236_739, i236_740, i236_741, i236_742, i236_743, i236_744, i236_745, i236_746, i236_747, i236_750, i236_751, i236_752, i236_753, i236_754, i236_755, i236_756, i236_757, i236_758, i236_759, i236_760, i236_761, i236_764, i236_767, i236_768, ix_pv_s, ix_pi_s, zpn, ix_po_s, ix_po_n, ix_ph_s, ix_bk_v, ix_bk_n, zcv, zcv_ne, ↓reduceIte, Nat.reduceEqDiff, zn_add, t0_c, mo_c, n1, n2, a1, a2, eq_self]
theorem lw_k17 (hX : X.1 ≤ 2560) (hi : i + 5 ≤ X.1) (h : QI μ τ S N C Q) : lw_out X e 769 i μ τ := by
  obtain ⟨p1, n1⟩ := lw_at' (k := 1) hX hi (by decide)
  obtain ⟨p2, n2⟩ := lw_at' (k := 2) hX hi (by decide)
  have ag : agt X (e + 40) τ S N C Q 94 183 [.int (X.2 (i + 1)), .int (X.2 (i + 2))] := agt_of (agm_of (agr_driest (X := X) (d := e + 31)))
  obtain ⟨v, μ1, μ2, τ', S', N', C', Q', a1, a2, q, r⟩ := ag μ h
  refine ⟨μ2, τ', S', N', C', Q', ?_, q, r⟩
  simp (disch := first | assumption | omega | decide) only [i236_769, i236_770, i236_771, i236_772, i236_773, i236_774, i236_775, i236_776, i236_777, i236_778, i236_779, i236_780, i236_783, i236_784, i236_785, i236_786, i236_787, i236_788, i236_789, i236_790, i236_791, i236_792, i236_793, i236_794, i236_797, i236_800, i236_801, ix_pv_s, ix_pi_s, zpn, ix_po_s, ix_po_n, ix_ph_s, ix_bk_v, ix_bk_n, zcv, zcv_ne, ↓reduceIte, Nat.reduceEqDiff, zn_add, t0_c, mo_c, n1, n2, a1, a2, eq_self]
theorem lw_k18 (hX : X.1 ≤ 2560) (hi : i + 5 ≤ X.1) (h : QI μ τ S N C Q) : lw_out X e 802 i μ τ := by
  obtain ⟨p1, n1⟩ := lw_at' (k := 1) hX hi (by decide)
  obtain ⟨p2, n2⟩ := lw_at' (k := 2) hX hi (by decide)
  have ag : agt X (e + 40) τ S N C Q 100 187 [.int (X.2 (i + 1)), .int (X.2 (i + 2))] := agt_of (agm_of (agr_cheapest (X := X) (d := e + 31)))
  obtain ⟨v, μ1, μ2, τ', S', N', C', Q', a1, a2, q, r⟩ := ag μ h
  refine ⟨μ2, τ', S', N', C', Q', ?_, q, r⟩
  simp (disch := first | assumption | omega | decide) only [i236_802, i236_803, i236_804, i236_805, i236_806, i236_807, i236_808, i236_809, i236_810, i236_811, i236_812, i236_813, i236_816, i236_817, i236_818, i236_819, i236_820, i236_821, i236_822, i236_823, i236_824, i236_825, i236_826, i236_827, i236_830, i236_833, i236_834, ix_pv_s, ix_pi_s, zpn, ix_po_s, ix_po_n, ix_ph_s, ix_bk_v, ix_bk_n, zcv, zcv_ne, ↓reduceIte, Nat.reduceEqDiff, zn_add, t0_c, mo_c, n1, n2, a1, a2, eq_self]
theorem lw_k19 (hX : X.1 ≤ 2560) (hi : i + 5 ≤ X.1) (h : QI μ τ S N C Q) : lw_out X e 835 i μ τ := by
  obtain ⟨p1, n1⟩ := lw_at' (k := 1) hX hi (by decide)
  obtain ⟨p2, n2⟩ := lw_at' (k := 2) hX hi (by decide)
  obtain ⟨p3, n3⟩ := lw_at' (k := 3) hX hi (by decide)
  have ag : agt X (e + 40) τ S N C Q 101 188 [.int (X.2 (i + 1)), .int (X.2 (i + 2)), .int (X.2 (i + 3))] := agt_of (agm_of (agr_stay (X := X) (d := e + 32)))
  obtain ⟨v, μ1, μ2, τ', S', N', C', Q', a1, a2, q, r⟩ := ag μ h
  refine ⟨μ2, τ', S', N', C', Q', ?_, q, r⟩
  simp (disch := first | assumption | omega | decide) only [i236_835, i236_836, i236_837, i236_838, i236_839, i236_840, i236_841, i236_842, i236_843, i236_844, i236_845, i236_846, i236_847, i236_848, i236_849, i236_850, i236_851, i236_854, i236_855, i236_856, i236_857, i236_858, i236_859, i236_860, i236_861, i236_862, i236_863, i236_864, i236_865, i236_866, i236_867, i236_868, i236_869, i236_870, i236_873, i236_876, i236_877, ix_pv_s, ix_pi_s, zpn, ix_po_s, ix_po_n, ix_ph_s, ix_bk_v, ix_bk_n, zcv, zcv_ne, ↓reduceIte, Nat.reduceEqDiff, zn_add, t0_c, mo_c, n1, n2, n3, a1, a2, eq_self]
theorem lw_k20 (hX : X.1 ≤ 2560) (hi : i + 5 ≤ X.1) (h : QI μ τ S N C Q) : lw_out X e 878 i μ τ := by
  obtain ⟨p1, n1⟩ := lw_at' (k := 1) hX hi (by decide)
  have ag : agt X (e + 40) τ S N C Q 103 190 [.int (X.2 (i + 1))] := agt_of (agm_of (agr_soaked (X := X) (d := e + 34)))
  obtain ⟨v, μ1, μ2, τ', S', N', C', Q', a1, a2, q, r⟩ := ag μ h
  refine ⟨μ2, τ', S', N', C', Q', ?_, q, r⟩
  simp (disch := first | assumption | omega | decide) only [i236_878, i236_879, i236_880, i236_881, i236_882, i236_883, i236_884, i236_887, i236_888, i236_889, i236_890, i236_891, i236_892, i236_893, i236_896, i236_899, i236_900, ix_pv_s, ix_pi_s, zpn, ix_po_s, ix_po_n, ix_ph_s, ix_bk_v, ix_bk_n, zcv, zcv_ne, ↓reduceIte, Nat.reduceEqDiff, zn_add, t0_c, mo_c, n1, a1, a2, eq_self]
theorem lw_k21 (hX : X.1 ≤ 2560) (hi : i + 5 ≤ X.1) (h : QI μ τ S N C Q) : lw_out X e 901 i μ τ := by
  obtain ⟨p1, n1⟩ := lw_at' (k := 1) hX hi (by decide)
  have ag : agt X (e + 40) τ S N C Q 104 191 [.int (X.2 (i + 1))] := agt_of (agm_of (agr_dry (X := X) (d := e + 34)))
  obtain ⟨v, μ1, μ2, τ', S', N', C', Q', a1, a2, q, r⟩ := ag μ h
  refine ⟨μ2, τ', S', N', C', Q', ?_, q, r⟩
  simp (disch := first | assumption | omega | decide) only [i236_901, i236_902, i236_903, i236_904, i236_905, i236_906, i236_907, i236_910, i236_911, i236_912, i236_913, i236_914, i236_915, i236_916, i236_919, i236_922, i236_923, ix_pv_s, ix_pi_s, zpn, ix_po_s, ix_po_n, ix_ph_s, ix_bk_v, ix_bk_n, zcv, zcv_ne, ↓reduceIte, Nat.reduceEqDiff, zn_add, t0_c, mo_c, n1, a1, a2, eq_self]
theorem lw_k22 (hX : X.1 ≤ 2560) (hi : i + 5 ≤ X.1) (h : QI μ τ S N C Q) : lw_out X e 924 i μ τ := by
  obtain ⟨p1, n1⟩ := lw_at' (k := 1) hX hi (by decide)
  have ag : agt X (e + 40) τ S N C Q 105 192 [.int (X.2 (i + 1))] := agt_of (agm_of (agr_drips (X := X) (d := e + 34)))
  obtain ⟨v, μ1, μ2, τ', S', N', C', Q', a1, a2, q, r⟩ := ag μ h
  refine ⟨μ2, τ', S', N', C', Q', ?_, q, r⟩
  simp (disch := first | assumption | omega | decide) only [i236_924, i236_925, i236_926, i236_927, i236_928, i236_929, i236_930, i236_933, i236_934, i236_935, i236_936, i236_937, i236_938, i236_939, i236_942, i236_945, i236_946, ix_pv_s, ix_pi_s, zpn, ix_po_s, ix_po_n, ix_ph_s, ix_bk_v, ix_bk_n, zcv, zcv_ne, ↓reduceIte, Nat.reduceEqDiff, zn_add, t0_c, mo_c, n1, a1, a2, eq_self]
theorem lw_k23 (hX : X.1 ≤ 2560) (hi : i + 5 ≤ X.1) (h : QI μ τ S N C Q) : lw_out X e 947 i μ τ := by
  obtain ⟨p1, n1⟩ := lw_at' (k := 1) hX hi (by decide)
  have ag : agt X (e + 40) τ S N C Q 106 193 [.int (X.2 (i + 1))] := agt_of (agm_of (agr_coats (X := X) (d := e + 34)))
  obtain ⟨v, μ1, μ2, τ', S', N', C', Q', a1, a2, q, r⟩ := ag μ h
  refine ⟨μ2, τ', S', N', C', Q', ?_, q, r⟩
  simp (disch := first | assumption | omega | decide) only [i236_947, i236_948, i236_949, i236_950, i236_951, i236_952, i236_953, i236_956, i236_957, i236_958, i236_959, i236_960, i236_961, i236_962, i236_965, i236_968, i236_969, ix_pv_s, ix_pi_s, zpn, ix_po_s, ix_po_n, ix_ph_s, ix_bk_v, ix_bk_n, zcv, zcv_ne, ↓reduceIte, Nat.reduceEqDiff, zn_add, t0_c, mo_c, n1, a1, a2, eq_self]
theorem lw_k24 (hX : X.1 ≤ 2560) (hi : i + 5 ≤ X.1) (h : QI μ τ S N C Q) : lw_out X e 970 i μ τ := by
  obtain ⟨p1, n1⟩ := lw_at' (k := 1) hX hi (by decide)
  obtain ⟨p2, n2⟩ := lw_at' (k := 2) hX hi (by decide)
  have ag : agt X (e + 40) τ S N C Q 108 194 [.int (X.2 (i + 1)), .int (X.2 (i + 2))] := agt_of (agm_of (agr_shared (X := X) (d := e + 34)))
  obtain ⟨v, μ1, μ2, τ', S', N', C', Q', a1, a2, q, r⟩ := ag μ h
  refine ⟨μ2, τ', S', N', C', Q', ?_, q, r⟩
  simp (disch := first | assumption | omega | decide) only [i236_970, i236_971, i236_972, i236_973, i236_974, i236_975, i236_976, i236_977, i236_978, i236_979, i236_980, i236_981, i236_984, i236_985, i236_986, i236_987, i236_988, i236_989, i236_990, i236_991, i236_992, i236_993, i236_994, i236_995, i236_998, i236_1001, i236_1002, ix_pv_s, ix_pi_s, zpn, ix_po_s, ix_po_n, ix_ph_s, ix_bk_v, ix_bk_n, zcv, zcv_ne, ↓reduceIte, Nat.reduceEqDiff, zn_add, t0_c, mo_c, n1, n2, a1, a2, eq_self]
theorem lw_k25 (hX : X.1 ≤ 2560) (hi : i + 5 ≤ X.1) (h : QI μ τ S N C Q) : lw_out X e 1003 i μ τ := by
  obtain ⟨p1, n1⟩ := lw_at' (k := 1) hX hi (by decide)
  have ag : agt X (e + 40) τ S N C Q 109 195 [.int (X.2 (i + 1))] := agt_of (agm_of (agr_run (X := X) (d := e + 34)))
  obtain ⟨v, μ1, μ2, τ', S', N', C', Q', a1, a2, q, r⟩ := ag μ h
  refine ⟨μ2, τ', S', N', C', Q', ?_, q, r⟩
  simp (disch := first | assumption | omega | decide) only [i236_1003, i236_1004, i236_1005, i236_1006, i236_1007, i236_1008, i236_1009, i236_1012, i236_1013, i236_1014, i236_1015, i236_1016, i236_1017, i236_1018, i236_1021, i236_1024, i236_1025, ix_pv_s, ix_pi_s, zpn, ix_po_s, ix_po_n, ix_ph_s, ix_bk_v, ix_bk_n, zcv, zcv_ne, ↓reduceIte, Nat.reduceEqDiff, zn_add, t0_c, mo_c, n1, a1, a2, eq_self]
theorem lw_k26 (hX : X.1 ≤ 2560) (hi : i + 5 ≤ X.1) (h : QI μ τ S N C Q) : lw_out X e 1026 i μ τ := by
  obtain ⟨p1, n1⟩ := lw_at' (k := 1) hX hi (by decide)
  obtain ⟨p2, n2⟩ := lw_at' (k := 2) hX hi (by decide)
  have ag : agt X (e + 40) τ S N C Q 110 196 [.int (X.2 (i + 1)), .int (X.2 (i + 2))] := agt_of (agm_of (agr_begin (X := X) (d := e + 34)))
  obtain ⟨v, μ1, μ2, τ', S', N', C', Q', a1, a2, q, r⟩ := ag μ h
  refine ⟨μ2, τ', S', N', C', Q', ?_, q, r⟩
  simp (disch := first | assumption | omega | decide) only [i236_1026, i236_1027, i236_1028, i236_1029, i236_1030, i236_1031, i236_1032, i236_1033, i236_1034, i236_1035, i236_1036, i236_1037, i236_1040, i236_1041, i236_1042, i236_1043, i236_1044, i236_1045, i236_1046, i236_1047, i236_1048, i236_1049, i236_1050, i236_1051, i236_1054, i236_1057, i236_1058, ix_pv_s, ix_pi_s, zpn, ix_po_s, ix_po_n, ix_ph_s, ix_bk_v, ix_bk_n, zcv, zcv_ne, ↓reduceIte, Nat.reduceEqDiff, zn_add, t0_c, mo_c, n1, n2, a1, a2, eq_self]
theorem lw_k27 (hX : X.1 ≤ 2560) (hi : i + 5 ≤ X.1) (h : QI μ τ S N C Q) : lw_out X e 1059 i μ τ := by
  obtain ⟨p1, n1⟩ := lw_at' (k := 1) hX hi (by decide)
  have ag : agt X (e + 40) τ S N C Q 111 197 [.int (X.2 (i + 1))] := agt_of (agm_of (agr_worth (X := X) (d := e + 30)))
  obtain ⟨v, μ1, μ2, τ', S', N', C', Q', a1, a2, q, r⟩ := ag μ h
  refine ⟨μ2, τ', S', N', C', Q', ?_, q, r⟩
  simp (disch := first | assumption | omega | decide) only [i236_1059, i236_1060, i236_1061, i236_1062, i236_1063, i236_1064, i236_1065, i236_1068, i236_1069, i236_1070, i236_1071, i236_1072, i236_1073, i236_1074, i236_1077, i236_1080, i236_1081, ix_pv_s, ix_pi_s, zpn, ix_po_s, ix_po_n, ix_ph_s, ix_bk_v, ix_bk_n, zcv, zcv_ne, ↓reduceIte, Nat.reduceEqDiff, zn_add, t0_c, mo_c, n1, a1, a2, eq_self]
theorem lw_k28 (hX : X.1 ≤ 2560) (hi : i + 5 ≤ X.1) (h : QI μ τ S N C Q) : lw_out X e 1082 i μ τ := by
  obtain ⟨p1, n1⟩ := lw_at' (k := 1) hX hi (by decide)
  have ag : agt X (e + 40) τ S N C Q 112 198 [.int (X.2 (i + 1))] := agt_of (agm_of (agr_first (X := X) (d := e + 34)))
  obtain ⟨v, μ1, μ2, τ', S', N', C', Q', a1, a2, q, r⟩ := ag μ h
  refine ⟨μ2, τ', S', N', C', Q', ?_, q, r⟩
  simp (disch := first | assumption | omega | decide) only [i236_1082, i236_1083, i236_1084, i236_1085, i236_1086, i236_1087, i236_1088, i236_1091, i236_1092, i236_1093, i236_1094, i236_1095, i236_1096, i236_1097, i236_1100, i236_1103, i236_1104, ix_pv_s, ix_pi_s, zpn, ix_po_s, ix_po_n, ix_ph_s, ix_bk_v, ix_bk_n, zcv, zcv_ne, ↓reduceIte, Nat.reduceEqDiff, zn_add, t0_c, mo_c, n1, a1, a2, eq_self]
theorem lw_k29 (hX : X.1 ≤ 2560) (hi : i + 5 ≤ X.1) (h : QI μ τ S N C Q) : lw_out X e 1105 i μ τ := by
  have ag : agt X (e + 40) τ S N C Q 113 199 [] := agt_of (agm_of (agr_stops (X := X) (d := e + 34)))
  obtain ⟨v, μ1, μ2, τ', S', N', C', Q', a1, a2, q, r⟩ := ag μ h
  refine ⟨μ2, τ', S', N', C', Q', ?_, q, r⟩
  simp (disch := first | assumption | omega | decide) only [i236_1105, i236_1106, i236_1109, i236_1110, i236_1113, i236_1116, i236_1117, ix_pv_s, ix_pi_s, zpn, ix_po_s, ix_po_n, ix_ph_s, ix_bk_v, ix_bk_n, zcv, zcv_ne, ↓reduceIte, Nat.reduceEqDiff, zn_add, t0_c, mo_c, a1, a2, eq_self]
theorem lw_k30 (hX : X.1 ≤ 2560) (hi : i + 5 ≤ X.1) (h : QI μ τ S N C Q) : lw_out X e 1118 i μ τ := by
  obtain ⟨p1, n1⟩ := lw_at' (k := 1) hX hi (by decide)
  have ag : agt X (e + 40) τ S N C Q 114 200 [.int (X.2 (i + 1))] := agt_of (agm_see (X := X) (d := e + 34))
  obtain ⟨v, μ1, μ2, τ', S', N', C', Q', a1, a2, q, r⟩ := ag μ h
  refine ⟨μ2, τ', S', N', C', Q', ?_, q, r⟩
  simp (disch := first | assumption | omega | decide) only [i236_1118, i236_1119, i236_1120, i236_1121, i236_1122, i236_1123, i236_1124, i236_1127, i236_1128, i236_1129, i236_1130, i236_1131, i236_1132, i236_1133, i236_1136, i236_1139, i236_1140, ix_pv_s, ix_pi_s, zpn, ix_po_s, ix_po_n, ix_ph_s, ix_bk_v, ix_bk_n, zcv, zcv_ne, ↓reduceIte, Nat.reduceEqDiff, zn_add, t0_c, mo_c, n1, a1, a2, eq_self]
theorem lw_k31 (hX : X.1 ≤ 2560) (hi : i + 5 ≤ X.1) (h : QI μ τ S N C Q) : lw_out X e 1141 i μ τ := by
  obtain ⟨p1, n1⟩ := lw_at' (k := 1) hX hi (by decide)
  obtain ⟨p2, n2⟩ := lw_at' (k := 2) hX hi (by decide)
  obtain ⟨p3, n3⟩ := lw_at' (k := 3) hX hi (by decide)
  have ag : agt X (e + 40) τ S N C Q 115 201 [.int (X.2 (i + 1)), .int (X.2 (i + 2)), .int (X.2 (i + 3))] := agt_of (agm_of (agr_stood (X := X) (d := e + 32)))
  obtain ⟨v, μ1, μ2, τ', S', N', C', Q', a1, a2, q, r⟩ := ag μ h
  refine ⟨μ2, τ', S', N', C', Q', ?_, q, r⟩
  simp (disch := first | assumption | omega | decide) only [i236_1141, i236_1142, i236_1143, i236_1144, i236_1145, i236_1146, i236_1147, i236_1148, i236_1149, i236_1150, i236_1151, i236_1152, i236_1153, i236_1154, i236_1155, i236_1156, i236_1157, i236_1160, i236_1161, i236_1162, i236_1163, i236_1164, i236_1165, i236_1166, i236_1167, i236_1168, i236_1169, i236_1170, i236_1171, i236_1172, i236_1173, i236_1174, i236_1175, i236_1176, i236_1179, i236_1182, i236_1183, ix_pv_s, ix_pi_s, zpn, ix_po_s, ix_po_n, ix_ph_s, ix_bk_v, ix_bk_n, zcv, zcv_ne, ↓reduceIte, Nat.reduceEqDiff, zn_add, t0_c, mo_c, n1, n2, n3, a1, a2, eq_self]
theorem lw_k32 (hX : X.1 ≤ 2560) (hi : i + 5 ≤ X.1) (h : QI μ τ S N C Q) : lw_out X e 1184 i μ τ := by
  have ag : agt X (e + 40) τ S N C Q 116 202 [] := agt_of (agm_of (agr_who (X := X) (d := e + 34)))
  obtain ⟨v, μ1, μ2, τ', S', N', C', Q', a1, a2, q, r⟩ := ag μ h
  refine ⟨μ2, τ', S', N', C', Q', ?_, q, r⟩
  simp (disch := first | assumption | omega | decide) only [i236_1184, i236_1185, i236_1188, i236_1189, i236_1192, i236_1195, i236_1196, ix_pv_s, ix_pi_s, zpn, ix_po_s, ix_po_n, ix_ph_s, ix_bk_v, ix_bk_n, zcv, zcv_ne, ↓reduceIte, Nat.reduceEqDiff, zn_add, t0_c, mo_c, a1, a2, eq_self]
theorem lw_k33 (hX : X.1 ≤ 2560) (hi : i + 5 ≤ X.1) (h : QI μ τ S N C Q) : lw_out X e 1197 i μ τ := by
  obtain ⟨p1, n1⟩ := lw_at' (k := 1) hX hi (by decide)
  obtain ⟨p2, n2⟩ := lw_at' (k := 2) hX hi (by decide)
  obtain ⟨p3, n3⟩ := lw_at' (k := 3) hX hi (by decide)
  have ag : agrL X (e + 40) τ S N C Q 117 203 [.int (X.2 (i + 1)), .int (X.2 (i + 2)), .int (X.2 (i + 3))] := agr_odds (X := X) (d := e + 34)
  obtain ⟨v, μ1, μ2, a1, a2, q⟩ := ag μ h
  refine ⟨μ2, τ, S, N, C, Q, ?_, q, Or.inl rfl⟩
  simp (disch := first | assumption | omega | decide) only [i236_1197, i236_1198, i236_1199, i236_1200, i236_1201, i236_1202, i236_1203, i236_1204, i236_1205, i236_1206, i236_1207, i236_1208, i236_1209, i236_1210, i236_1211, i236_1212, i236_1213, i236_1216, i236_1217, i236_1218, i236_1219, i236_1220, i236_1221, i236_1222, i236_1223, i236_1224, i236_1225, i236_1226, i236_1227, i236_1228, i236_1229, i236_1230, i236_1231, i236_1232, i236_1235, i236_1236, i236_1239, i236_1240, ix_pv_s, ix_pi_s, zpn, ix_po_s, ix_po_n, ix_ph_s, ix_bk_v, ix_bk_n, zcv, zcv_ne, ↓reduceIte, Nat.reduceEqDiff, zn_add, t0_c, mo_c, n1, n2, n3, a1, a2, eq_self, lw_c0]
theorem lw_k34 (hX : X.1 ≤ 2560) (hi : i + 5 ≤ X.1) (h : QI μ τ S N C Q) : lw_out X e 1241 i μ τ := by
  obtain ⟨p1, n1⟩ := lw_at' (k := 1) hX hi (by decide)
  obtain ⟨p2, n2⟩ := lw_at' (k := 2) hX hi (by decide)
  obtain ⟨p3, n3⟩ := lw_at' (k := 3) hX hi (by decide)
  have ag : agrL X (e + 40) τ S N C Q 119 205 [.int (X.2 (i + 1)), .int (X.2 (i + 2)), .int (X.2 (i + 3))] := agr_mean (X := X) (d := e + 32)
  obtain ⟨v, μ1, μ2, a1, a2, q⟩ := ag μ h
  refine ⟨μ2, τ, S, N, C, Q, ?_, q, Or.inl rfl⟩
  simp (disch := first | assumption | omega | decide) only [i236_1241, i236_1242, i236_1243, i236_1244, i236_1245, i236_1246, i236_1247, i236_1248, i236_1249, i236_1250, i236_1251, i236_1252, i236_1253, i236_1254, i236_1255, i236_1256, i236_1257, i236_1260, i236_1261, i236_1262, i236_1263, i236_1264, i236_1265, i236_1266, i236_1267, i236_1268, i236_1269, i236_1270, i236_1271, i236_1272, i236_1273, i236_1274, i236_1275, i236_1276, i236_1279, i236_1280, i236_1283, i236_1284, ix_pv_s, ix_pi_s, zpn, ix_po_s, ix_po_n, ix_ph_s, ix_bk_v, ix_bk_n, zcv, zcv_ne, ↓reduceIte, Nat.reduceEqDiff, zn_add, t0_c, mo_c, n1, n2, n3, a1, a2, eq_self, lw_c0]
theorem lw_k35 (hX : X.1 ≤ 2560) (hi : i + 5 ≤ X.1) (h : QI μ τ S N C Q) : lw_out X e 1285 i μ τ := by
  obtain ⟨p1, n1⟩ := lw_at' (k := 1) hX hi (by decide)
  obtain ⟨p2, n2⟩ := lw_at' (k := 2) hX hi (by decide)
  have ag : agt X (e + 40) τ S N C Q 120 206 [.int (X.2 (i + 1)), .int (X.2 (i + 2))] := agt_of (agm_rule (X := X) (d := e + 34))
  obtain ⟨v, μ1, μ2, τ', S', N', C', Q', a1, a2, q, r⟩ := ag μ h
  refine ⟨μ2, τ', S', N', C', Q', ?_, q, r⟩
  simp (disch := first | assumption | omega | decide) only [i236_1285, i236_1286, i236_1287, i236_1288, i236_1289, i236_1290, i236_1291, i236_1292, i236_1293, i236_1294, i236_1295, i236_1296, i236_1299, i236_1300, i236_1301, i236_1302, i236_1303, i236_1304, i236_1305, i236_1306, i236_1307, i236_1308, i236_1309, i236_1310, i236_1313, i236_1316, i236_1317, ix_pv_s, ix_pi_s, zpn, ix_po_s, ix_po_n, ix_ph_s, ix_bk_v, ix_bk_n, zcv, zcv_ne, ↓reduceIte, Nat.reduceEqDiff, zn_add, t0_c, mo_c, n1, n2, a1, a2, eq_self]
theorem lw_k36 (hX : X.1 ≤ 2560) (hi : i + 5 ≤ X.1) (h : QI μ τ S N C Q) : lw_out X e 1318 i μ τ := by
  obtain ⟨p1, n1⟩ := lw_at' (k := 1) hX hi (by decide)
  obtain ⟨p2, n2⟩ := lw_at' (k := 2) hX hi (by decide)
  have ag : agt X (e + 40) τ S N C Q 121 207 [.int (X.2 (i + 1)), .int (X.2 (i + 2))] := agt_of (agm_of (agr_ruled (X := X) (d := e + 32)))
  obtain ⟨v, μ1, μ2, τ', S', N', C', Q', a1, a2, q, r⟩ := ag μ h
  refine ⟨μ2, τ', S', N', C', Q', ?_, q, r⟩
  simp (disch := first | assumption | omega | decide) only [i236_1318, i236_1319, i236_1320, i236_1321, i236_1322, i236_1323, i236_1324, i236_1325, i236_1326, i236_1327, i236_1328, i236_1329, i236_1332, i236_1333, i236_1334, i236_1335, i236_1336, i236_1337, i236_1338, i236_1339, i236_1340, i236_1341, i236_1342, i236_1343, i236_1346, i236_1349, i236_1350, ix_pv_s, ix_pi_s, zpn, ix_po_s, ix_po_n, ix_ph_s, ix_bk_v, ix_bk_n, zcv, zcv_ne, ↓reduceIte, Nat.reduceEqDiff, zn_add, t0_c, mo_c, n1, n2, a1, a2, eq_self]
theorem lw_k37 (hX : X.1 ≤ 2560) (hi : i + 5 ≤ X.1) (h : QI μ τ S N C Q) : lw_out X e 1351 i μ τ := by
  obtain ⟨p1, n1⟩ := lw_at' (k := 1) hX hi (by decide)
  obtain ⟨p2, n2⟩ := lw_at' (k := 2) hX hi (by decide)
  obtain ⟨p3, n3⟩ := lw_at' (k := 3) hX hi (by decide)
  have ag : agt X (e + 40) τ S N C Q 123 208 [.int (X.2 (i + 1)), .int (X.2 (i + 2)), .int (X.2 (i + 3))] := agt_of (agm_book (X := X) (d := e + 34))
  obtain ⟨v, μ1, μ2, τ', S', N', C', Q', a1, a2, q, r⟩ := ag μ h
  refine ⟨μ2, τ', S', N', C', Q', ?_, q, r⟩
  simp (disch := first | assumption | omega | decide) only [i236_1351, i236_1352, i236_1353, i236_1354, i236_1355, i236_1356, i236_1357, i236_1358, i236_1359, i236_1360, i236_1361, i236_1362, i236_1363, i236_1364, i236_1365, i236_1366, i236_1367, i236_1370, i236_1371, i236_1372, i236_1373, i236_1374, i236_1375, i236_1376, i236_1377, i236_1378, i236_1379, i236_1380, i236_1381, i236_1382, i236_1383, i236_1384, i236_1385, i236_1386, i236_1389, i236_1392, i236_1393, ix_pv_s, ix_pi_s, zpn, ix_po_s, ix_po_n, ix_ph_s, ix_bk_v, ix_bk_n, zcv, zcv_ne, ↓reduceIte, Nat.reduceEqDiff, zn_add, t0_c, mo_c, n1, n2, n3, a1, a2, eq_self]
theorem lw_k38 (hX : X.1 ≤ 2560) (hi : i + 5 ≤ X.1) (h : QI μ τ S N C Q) : lw_out X e 1394 i μ τ := by
  have ag : agt X (e + 40) τ S N C Q 124 209 [] := agt_of (agm_of (agr_looked (X := X) (d := e + 34)))
  obtain ⟨v, μ1, μ2, τ', S', N', C', Q', a1, a2, q, r⟩ := ag μ h
  refine ⟨μ2, τ', S', N', C', Q', ?_, q, r⟩
  simp (disch := first | assumption | omega | decide) only [i236_1394, i236_1395, i236_1398, i236_1399, i236_1402, i236_1405, i236_1406, ix_pv_s, ix_pi_s, zpn, ix_po_s, ix_po_n, ix_ph_s, ix_bk_v, ix_bk_n, zcv, zcv_ne, ↓reduceIte, Nat.reduceEqDiff, zn_add, t0_c, mo_c, a1, a2, eq_self]
theorem lw_k39 (hX : X.1 ≤ 2560) (hi : i + 5 ≤ X.1) (h : QI μ τ S N C Q) : lw_out X e 1407 i μ τ := by
  obtain ⟨p1, n1⟩ := lw_at' (k := 1) hX hi (by decide)
  obtain ⟨p2, n2⟩ := lw_at' (k := 2) hX hi (by decide)
  obtain ⟨p3, n3⟩ := lw_at' (k := 3) hX hi (by decide)
  have ag : agt X (e + 40) τ S N C Q 125 210 [.int (X.2 (i + 1)), .int (X.2 (i + 2)), .int (X.2 (i + 3))] := agt_of (agm_act (X := X) (d := e + 32))
  obtain ⟨v, μ1, μ2, τ', S', N', C', Q', a1, a2, q, r⟩ := ag μ h
  refine ⟨μ2, τ', S', N', C', Q', ?_, q, r⟩
  simp (disch := first | assumption | omega | decide) only [i236_1407, i236_1408, i236_1409, i236_1410, i236_1411, i236_1412, i236_1413, i236_1414, i236_1415, i236_1416, i236_1417, i236_1418, i236_1419, i236_1420, i236_1421, i236_1422, i236_1423, i236_1426, i236_1427, i236_1428, i236_1429, i236_1430, i236_1431, i236_1432, i236_1433, i236_1434, i236_1435, i236_1436, i236_1437, i236_1438, i236_1439, i236_1440, i236_1441, i236_1442, i236_1445, i236_1448, i236_1449, ix_pv_s, ix_pi_s, zpn, ix_po_s, ix_po_n, ix_ph_s, ix_bk_v, ix_bk_n, zcv, zcv_ne, ↓reduceIte, Nat.reduceEqDiff, zn_add, t0_c, mo_c, n1, n2, n3, a1, a2, eq_self]
theorem lw_k40 (hX : X.1 ≤ 2560) (hi : i + 5 ≤ X.1) (h : QI μ τ S N C Q) : lw_out X e 1450 i μ τ := by
  obtain ⟨p1, n1⟩ := lw_at' (k := 1) hX hi (by decide)
  have ag : agt X (e + 40) τ S N C Q 126 219 [.int (X.2 (i + 1))] := agt_of (agm_of (agr_trace (X := X) (d := e + 34)))
  obtain ⟨v, μ1, μ2, τ', S', N', C', Q', a1, a2, q, r⟩ := ag μ h
  refine ⟨μ2, τ', S', N', C', Q', ?_, q, r⟩
  simp (disch := first | assumption | omega | decide) only [i236_1450, i236_1451, i236_1452, i236_1453, i236_1454, i236_1455, i236_1456, i236_1459, i236_1460, i236_1461, i236_1462, i236_1463, i236_1464, i236_1465, i236_1468, i236_1471, i236_1472, ix_pv_s, ix_pi_s, zpn, ix_po_s, ix_po_n, ix_ph_s, ix_bk_v, ix_bk_n, zcv, zcv_ne, ↓reduceIte, Nat.reduceEqDiff, zn_add, t0_c, mo_c, n1, a1, a2, eq_self]
theorem lw_k41 (hX : X.1 ≤ 2560) (hi : i + 5 ≤ X.1) (h : QI μ τ S N C Q) : lw_out X e 1473 i μ τ := by
  obtain ⟨p1, n1⟩ := lw_at' (k := 1) hX hi (by decide)
  obtain ⟨p2, n2⟩ := lw_at' (k := 2) hX hi (by decide)
  have ag : agt X (e + 40) τ S N C Q 127 220 [.int (X.2 (i + 1)), .int (X.2 (i + 2))] := agt_of (agm_of (agr_as (X := X) (d := e + 34)))
  obtain ⟨v, μ1, μ2, τ', S', N', C', Q', a1, a2, q, r⟩ := ag μ h
  refine ⟨μ2, τ', S', N', C', Q', ?_, q, r⟩
  simp (disch := first | assumption | omega | decide) only [i236_1473, i236_1474, i236_1475, i236_1476, i236_1477, i236_1478, i236_1479, i236_1480, i236_1481, i236_1482, i236_1483, i236_1484, i236_1487, i236_1488, i236_1489, i236_1490, i236_1491, i236_1492, i236_1493, i236_1494, i236_1495, i236_1496, i236_1497, i236_1498, i236_1501, i236_1504, i236_1505, ix_pv_s, ix_pi_s, zpn, ix_po_s, ix_po_n, ix_ph_s, ix_bk_v, ix_bk_n, zcv, zcv_ne, ↓reduceIte, Nat.reduceEqDiff, zn_add, t0_c, mo_c, n1, n2, a1, a2, eq_self]
theorem lw_k42 (hX : X.1 ≤ 2560) (hi : i + 5 ≤ X.1) (h : QI μ τ S N C Q) : lw_out X e 1506 i μ τ := by
  have ag : agt X (e + 40) τ S N C Q 129 221 [] := agt_of (agm_image (X := X) (d := e + 34))
  obtain ⟨v, μ1, μ2, τ', S', N', C', Q', a1, a2, q, r⟩ := ag μ h
  refine ⟨μ2, τ', S', N', C', Q', ?_, q, r⟩
  simp (disch := first | assumption | omega | decide) only [i236_1506, i236_1507, i236_1510, i236_1511, i236_1514, i236_1517, i236_1518, ix_pv_s, ix_pi_s, zpn, ix_po_s, ix_po_n, ix_ph_s, ix_bk_v, ix_bk_n, zcv, zcv_ne, ↓reduceIte, Nat.reduceEqDiff, zn_add, t0_c, mo_c, a1, a2, eq_self]
theorem lw_k43 (hX : X.1 ≤ 2560) (hi : i + 5 ≤ X.1) (h : QI μ τ S N C Q) : lw_out X e 1519 i μ τ := by
  have ag : agt X (e + 40) τ S N C Q 130 222 [] := agt_of (agm_undo (X := X) (d := e + 34))
  obtain ⟨v, μ1, μ2, τ', S', N', C', Q', a1, a2, q, r⟩ := ag μ h
  refine ⟨μ2, τ', S', N', C', Q', ?_, q, r⟩
  simp (disch := first | assumption | omega | decide) only [i236_1519, i236_1520, i236_1523, i236_1524, i236_1527, i236_1530, i236_1531, ix_pv_s, ix_pi_s, zpn, ix_po_s, ix_po_n, ix_ph_s, ix_bk_v, ix_bk_n, zcv, zcv_ne, ↓reduceIte, Nat.reduceEqDiff, zn_add, t0_c, mo_c, a1, a2, eq_self]
theorem lw_k44 (hX : X.1 ≤ 2560) (hi : i + 5 ≤ X.1) (h : QI μ τ S N C Q) : lw_out X e 1532 i μ τ := by
  obtain ⟨p1, n1⟩ := lw_at' (k := 1) hX hi (by decide)
  have ag : agt X (e + 40) τ S N C Q 131 223 [.int (X.2 (i + 1))] := agt_of (agm_of (agr_count (X := X) (d := e + 34)))
  obtain ⟨v, μ1, μ2, τ', S', N', C', Q', a1, a2, q, r⟩ := ag μ h
  refine ⟨μ2, τ', S', N', C', Q', ?_, q, r⟩
  simp (disch := first | assumption | omega | decide) only [i236_1532, i236_1533, i236_1534, i236_1535, i236_1536, i236_1537, i236_1538, i236_1541, i236_1542, i236_1543, i236_1544, i236_1545, i236_1546, i236_1547, i236_1550, i236_1553, i236_1554, ix_pv_s, ix_pi_s, zpn, ix_po_s, ix_po_n, ix_ph_s, ix_bk_v, ix_bk_n, zcv, zcv_ne, ↓reduceIte, Nat.reduceEqDiff, zn_add, t0_c, mo_c, n1, a1, a2, eq_self]
end LW
