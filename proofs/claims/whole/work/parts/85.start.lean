/-! ===== the start: everything agrees at first ===== -/
--need 84.first
theorem fv0 {x : Int32} : fm_v 0 x = .int x := rfl
theorem fv2 {q : Nat} {x : Int32} : fm_v (q + 2) x = .ref q := rfl
def TF : List fm_D := [(0, 11, [1, 1, 1, 1, 1, 1, 1, 1, 1, 1, 1, 1, 0, 1, 1, 1, 1]), (0, 4, [0, 0, 4, 5, 0, 0]), (1, 0, [5]), (1, 0, [5]), (0, 4, [0, 0, 7, 8, 0, 0]), (1, 0, [100]), (1, 0, [100]), (0, 4, [0, 0, 10, 11, 0, 0]), (1, 0, [10]), (1, 0, [10]), (0, 4, [0, 0, 13, 14, 0, 0]), (1, 0, [8]), (1, 0, [8]), (0, 4, [0, 0, 16, 17, 0, 0]), (1, 0, [8]), (1, 0, [8]), (0, 4, [0, 0, 19, 20, 0, 0]), (1, 0, [24]), (1, 0, [24]), (0, 4, [0, 0, 22, 23, 0, 0]), (1, 0, [20]), (1, 0, [20]), (2, 2, [6]), (2, 3, [6]), (2, 4, [6]), (1, 0, [7]), (0, 3, [0, 0, 29, 0, 30, 31, 0, 0, 0, 0]), (1, 0, [100]), (1, 0, [5]), (1, 0, [100]), (0, 3, [0, 0, 33, 0, 34, 35, 0, 0, 0, 0]), (1, 0, [100]), (1, 0, [5]), (1, 0, [100]), (0, 3, [0, 0, 37, 0, 38, 39, 0, 0, 0, 0]), (1, 0, [100]), (1, 0, [5]), (1, 0, [100]), (0, 3, [0, 0, 41, 0, 42, 43, 0, 0, 0, 0]), (1, 0, [100]), (1, 0, [5]), (1, 0, [100]), (0, 3, [0, 0, 45, 0, 46, 47, 0, 0, 0, 0]), (1, 0, [100]), (1, 0, [5]), (1, 0, [100]), (0, 3, [0, 0, 49, 0, 50, 51, 0, 0, 0, 0]), (1, 0, [100]), (1, 0, [5]), (1, 0, [100]), (0, 5, [53, 0, 1, 0, 0, 0, 0]), (1, 0, [1601]), (0, 5, [55, 0, 1, 0, 0, 0, 0]), (1, 0, [1601]), (0, 5, [57, 0, 1, 0, 0, 0, 0]), (1, 0, [1601]), (0, 5, [59, 0, 1, 0, 0, 0, 0]), (1, 0, [1601]), (0, 5, [61, 0, 1, 0, 0, 0, 0]), (1, 0, [1601]), (0, 5, [63, 0, 1, 0, 0, 0, 0]), (1, 0, [1601]), (0, 5, [65, 0, 1, 0, 0, 0, 0]), (1, 0, [1601]), (0, 10, [52, 0, 0, 0, 0]), (0, 10, [52, 0, 0, 0, 0]), (0, 10, [52, 0, 0, 0, 0]), (0, 12, [0, 1, 1, 0, 0, 0, 0, 0, 0, 1, 1, 1, 1, 0, 0, 0, 1, 0, 0, 1, 0, 0, 0, 0]), (1, 0, [924]), (1, 0, [924]), (1, 0, [5]), (1, 1, [64]), (1, 0, [11900]), (1, 0, [7]), (1, 0, [7]), (1, 0, [20])]
theorem TF_k : ∀ i : Fin 76, (i : Nat) ≠ 0 → (i : Nat) ≠ 67 → TF[(i : Nat)]? = fm_T[(i : Nat)]? := by decide +kernel
theorem TF_l : TF.length = 76 := rfl
theorem re_T : fm_h cmF [(0, 11, [1, 1, 1, 1, 1, 1, 1, 1, 1, 1, 1, 1, 0, 1, 1, 1, 1]), (0, 4, [0, 0, 4, 5, 0, 0]), (1, 0, [5]), (1, 0, [5]), (0, 4, [0, 0, 7, 8, 0, 0]), (1, 0, [100]), (1, 0, [100]), (0, 4, [0, 0, 10, 11, 0, 0]), (1, 0, [10]), (1, 0, [10]), (0, 4, [0, 0, 13, 14, 0, 0]), (1, 0, [8]), (1, 0, [8]), (0, 4, [0, 0, 16, 17, 0, 0]), (1, 0, [8]), (1, 0, [8]), (0, 4, [0, 0, 19, 20, 0, 0]), (1, 0, [24]), (1, 0, [24]), (0, 4, [0, 0, 22, 23, 0, 0]), (1, 0, [20]), (1, 0, [20]), (2, 2, [6]), (2, 3, [6]), (2, 4, [6]), (1, 0, [7]), (0, 3, [0, 0, 29, 0, 30, 31, 0, 0, 0, 0]), (1, 0, [100]), (1, 0, [5]), (1, 0, [100]), (0, 3, [0, 0, 33, 0, 34, 35, 0, 0, 0, 0]), (1, 0, [100]), (1, 0, [5]), (1, 0, [100]), (0, 3, [0, 0, 37, 0, 38, 39, 0, 0, 0, 0]), (1, 0, [100]), (1, 0, [5]), (1, 0, [100]), (0, 3, [0, 0, 41, 0, 42, 43, 0, 0, 0, 0]), (1, 0, [100]), (1, 0, [5]), (1, 0, [100]), (0, 3, [0, 0, 45, 0, 46, 47, 0, 0, 0, 0]), (1, 0, [100]), (1, 0, [5]), (1, 0, [100]), (0, 3, [0, 0, 49, 0, 50, 51, 0, 0, 0, 0]), (1, 0, [100]), (1, 0, [5]), (1, 0, [100]), (0, 5, [53, 0, 1, 0, 0, 0, 0]), (1, 0, [1601]), (0, 5, [55, 0, 1, 0, 0, 0, 0]), (1, 0, [1601]), (0, 5, [57, 0, 1, 0, 0, 0, 0]), (1, 0, [1601]), (0, 5, [59, 0, 1, 0, 0, 0, 0]), (1, 0, [1601]), (0, 5, [61, 0, 1, 0, 0, 0, 0]), (1, 0, [1601]), (0, 5, [63, 0, 1, 0, 0, 0, 0]), (1, 0, [1601]), (0, 5, [65, 0, 1, 0, 0, 0, 0]), (1, 0, [1601]), (0, 10, [52, 0, 0, 0, 0]), (0, 10, [52, 0, 0, 0, 0]), (0, 10, [52, 0, 0, 0, 0]), (0, 12, [0, 1, 1, 0, 0, 0, 0, 0, 0, 1, 1, 1, 1, 0, 0, 0, 1, 0, 0, 1, 0, 0, 0, 0]), (1, 0, [924]), (1, 0, [924]), (1, 0, [5]), (1, 1, [64]), (1, 0, [11900]), (1, 0, [7]), (1, 0, [7]), (1, 0, [20])] = fm_W cmF [] := by
  unfold fm_W
  rw [List.append_nil]
  show fm_h cmF TF = fm_h cmF fm_T
  apply List.ext_getElem?
  intro i
  unfold fm_h
  rw [List.getElem?_mapIdx, List.getElem?_mapIdx]
  by_cases h0 : i = 0
  · subst h0
    show some (fm_c (0, 11, [1, 1, 1, 1, 1, 1, 1, 1, 1, 1, 1, 1, 0, 1, 1, 1, 1]) (cmF 0)) = some (fm_c (0, 11, [3, 6, 9, 12, 15, 18, 21, 24, 25, 52, 26, 1, 0, 66, 67, 68, 27]) (cmF 0))
    have v0 : cmF 0 0 = nI 1 := by decide +kernel
    have v1 : cmF 0 1 = nI 4 := by decide +kernel
    have v2 : cmF 0 2 = nI 7 := by decide +kernel
    have v3 : cmF 0 3 = nI 10 := by decide +kernel
    have v4 : cmF 0 4 = nI 13 := by decide +kernel
    have v5 : cmF 0 5 = nI 16 := by decide +kernel
    have v6 : cmF 0 6 = nI 19 := by decide +kernel
    have v7 : cmF 0 7 = nI 22 := by decide +kernel
    have v8 : cmF 0 8 = nI 23 := by decide +kernel
    have v9 : cmF 0 9 = nI 50 := by decide +kernel
    have v10 : cmF 0 10 = nI 24 := by decide +kernel
    have v11 : cmF 0 11 = nI 26 := by decide +kernel
    have v13 : cmF 0 13 = nI 64 := by decide +kernel
    have v14 : cmF 0 14 = nI 65 := by decide +kernel
    have v15 : cmF 0 15 = nI 66 := by decide +kernel
    have v16 : cmF 0 16 = nI 25 := by decide +kernel
    simp (disch := decide) only [fm_c, List.mapIdx_cons, List.mapIdx_nil, Nat.reduceAdd, Nat.zero_add, fv0, fv1, fv2, v0, v1, v2, v3, v4, v5, v6, v7, v8, v9, v10, v11, v13, v14, v15, v16]
  · by_cases h67 : i = 67
    · subst h67
      show some (fm_c (0, 12, [0, 1, 1, 0, 0, 0, 0, 0, 0, 1, 1, 1, 1, 0, 0, 0, 1, 0, 0, 1, 0, 0, 0, 0]) (cmF 67)) = some (fm_c (0, 12, [0, 70, 71, 0, 0, 0, 0, 0, 0, 72, 73, 74, 75, 0, 0, 0, 76, 0, 0, 77, 0, 0, 0, 0]) (cmF 67))
      have v1 : cmF 67 1 = nI 68 := by decide +kernel
      have v2 : cmF 67 2 = nI 69 := by decide +kernel
      have v9 : cmF 67 9 = nI 70 := by decide +kernel
      have v10 : cmF 67 10 = nI 71 := by decide +kernel
      have v11 : cmF 67 11 = nI 72 := by decide +kernel
      have v12 : cmF 67 12 = nI 73 := by decide +kernel
      have v16 : cmF 67 16 = nI 74 := by decide +kernel
      have v19 : cmF 67 19 = nI 75 := by decide +kernel
      simp (disch := decide) only [fm_c, List.mapIdx_cons, List.mapIdx_nil, Nat.reduceAdd, Nat.zero_add, fv0, fv1, fv2, v1, v2, v9, v10, v11, v12, v16, v19]
    · by_cases h : i < 76
      · rw [TF_k ⟨i, h⟩ h0 h67]
      · rw [List.getElem?_eq_none (show fm_T.length ≤ i by rw [fm_T_len]; omega), List.getElem?_eq_none (show TF.length ≤ i by rw [TF_l]; omega)]
def fN (k : Nat) : Nat := if k = 9 then 60 else 0
theorem QI_F : QI cmF [] (cmF 68) fN (fun _ => []) (fun _ => 0) := by
  have hpr : pr_cs cmF 26 [] := ⟨rfl, by decide +kernel, by decide, fun i hi => absurd hi (Nat.not_lt_zero i), rfl⟩
  unfold QI ST
  refine ⟨?_, ⟨?_, ?_, ?_, ?_, ?_⟩, ?_, ?_⟩
  · unfold sI
    exact ⟨by decide +kernel, by decide, by decide +kernel, fun i hi => absurd hi (Nat.not_lt_zero i), fun i hi => absurd hi (Nat.not_lt_zero i), fun i hi => absurd hi (Nat.not_lt_zero i), fun i hi => absurd hi (Nat.not_lt_zero i), fun i hi => absurd hi (Nat.not_lt_zero i), fun i hi => absurd hi (Nat.not_lt_zero i), fun i hi => absurd hi (Nat.not_lt_zero i)⟩
  · unfold rsI rwI
    exact ⟨⟨⟨by decide +kernel, by decide +kernel, by decide +kernel⟩, by decide +kernel, by decide +kernel, by decide +kernel, by decide +kernel, by decide +kernel⟩, ⟨⟨by decide +kernel, by decide +kernel, by decide +kernel⟩, fun i hi => absurd hi (Nat.not_lt_zero i)⟩, ⟨⟨by decide +kernel, by decide +kernel, by decide +kernel⟩, fun i hi => absurd hi (Nat.not_lt_zero i)⟩, ⟨⟨by decide +kernel, by decide +kernel, by decide +kernel⟩, fun i hi => absurd hi (Nat.not_lt_zero i)⟩, ⟨⟨by decide +kernel, by decide +kernel, by decide +kernel⟩, fun i hi => absurd hi (Nat.not_lt_zero i)⟩, ⟨⟨by decide +kernel, by decide +kernel, by decide +kernel⟩, fun i hi => absurd hi (Nat.not_lt_zero i)⟩⟩
  · unfold boI rwI
    exact ⟨0, by decide, ⟨by decide +kernel, by decide +kernel, by decide +kernel⟩, by decide +kernel, fun i hi => absurd hi (Nat.not_lt_zero i)⟩
  · unfold tsI
    exact ⟨fun i hi => absurd hi (Nat.not_lt_zero i), fun t t' _ h => absurd h (Nat.not_lt_zero t')⟩
  · unfold psI
    exact ⟨by decide +kernel, by decide +kernel, hpr, by decide +kernel, by decide +kernel, fun i hi => absurd hi (Nat.not_lt_zero i)⟩
  · exact Or.inl ⟨by decide +kernel, by decide +kernel⟩
  · refine ck_new (by decide) hpr (fun u hu => ?_)
    have hu6 : u = 6 := hu.resolve_left (Nat.not_lt_zero u)
    subst hu6
    exact ⟨by decide +kernel, by decide +kernel, by decide +kernel, by decide +kernel, by decide +kernel, by decide +kernel⟩
  · exact mk2_new (by decide) rfl (Or.inl ⟨by decide +kernel, rfl⟩) (by decide +kernel)
theorem lw_starts : lw_start := by
  intro X
  refine ⟨cmF, cmF 68, fN, fun _ => [], fun _ => 0, ?_, QI_F⟩
  have s0 : (ix_cls [.inr (11, [.null, .null, .null, .null, .null, .null, .null, .null, .null, .null, .null, .null, .int 0, .null, .null, .null, .null])] 0).isSome = true := rfl
  have a1 : ix_call X 99 63 [.ref 0] [.inr (11, [.null, .null, .null, .null, .null, .null, .null, .null, .null, .null, .null, .null, .int 0, .null, .null, .null, .null])] = some (none, fm_h cm6 [(0, 11, [1, 1, 1, 1, 1, 1, 1, 1, 1, 1, 1, 1, 0, 1, 1, 1, 1]), (0, 4, [0, 0, 4, 5, 0, 0]), (1, 0, [5]), (1, 0, [5]), (0, 4, [0, 0, 7, 8, 0, 0]), (1, 0, [100]), (1, 0, [100]), (0, 4, [0, 0, 10, 11, 0, 0]), (1, 0, [10]), (1, 0, [10]), (0, 4, [0, 0, 13, 14, 0, 0]), (1, 0, [8]), (1, 0, [8]), (0, 4, [0, 0, 16, 17, 0, 0]), (1, 0, [8]), (1, 0, [8]), (0, 4, [0, 0, 19, 20, 0, 0]), (1, 0, [24]), (1, 0, [24]), (0, 4, [0, 0, 22, 23, 0, 0]), (1, 0, [20]), (1, 0, [20]), (2, 2, [6]), (2, 3, [6]), (2, 4, [6]), (1, 0, [7]), (0, 3, [0, 0, 29, 0, 30, 31, 0, 0, 0, 0]), (1, 0, [100]), (1, 0, [5]), (1, 0, [100]), (0, 3, [0, 0, 33, 0, 34, 35, 0, 0, 0, 0]), (1, 0, [100]), (1, 0, [5]), (1, 0, [100]), (0, 3, [0, 0, 37, 0, 38, 39, 0, 0, 0, 0]), (1, 0, [100]), (1, 0, [5]), (1, 0, [100]), (0, 3, [0, 0, 41, 0, 42, 43, 0, 0, 0, 0]), (1, 0, [100]), (1, 0, [5]), (1, 0, [100]), (0, 3, [0, 0, 45, 0, 46, 47, 0, 0, 0, 0]), (1, 0, [100]), (1, 0, [5]), (1, 0, [100]), (0, 3, [0, 0, 49, 0, 50, 51, 0, 0, 0, 0]), (1, 0, [100]), (1, 0, [5]), (1, 0, [100]), (0, 5, [53, 0, 1, 0, 0, 0, 0]), (1, 0, [1601]), (0, 5, [55, 0, 1, 0, 0, 0, 0]), (1, 0, [1601]), (0, 5, [57, 0, 1, 0, 0, 0, 0]), (1, 0, [1601]), (0, 5, [59, 0, 1, 0, 0, 0, 0]), (1, 0, [1601]), (0, 5, [61, 0, 1, 0, 0, 0, 0]), (1, 0, [1601]), (0, 5, [63, 0, 1, 0, 0, 0, 0]), (1, 0, [1601]), (0, 5, [65, 0, 1, 0, 0, 0, 0]), (1, 0, [1601]), (0, 10, [52, 0, 0, 0, 0]), (0, 10, [52, 0, 0, 0, 0]), (0, 10, [52, 0, 0, 0, 0])]) := new_T (d := 96)
  have a2 : ix_call X 99 132 [.ref 67] (fm_h cm6 [(0, 11, [1, 1, 1, 1, 1, 1, 1, 1, 1, 1, 1, 1, 0, 1, 1, 1, 1]), (0, 4, [0, 0, 4, 5, 0, 0]), (1, 0, [5]), (1, 0, [5]), (0, 4, [0, 0, 7, 8, 0, 0]), (1, 0, [100]), (1, 0, [100]), (0, 4, [0, 0, 10, 11, 0, 0]), (1, 0, [10]), (1, 0, [10]), (0, 4, [0, 0, 13, 14, 0, 0]), (1, 0, [8]), (1, 0, [8]), (0, 4, [0, 0, 16, 17, 0, 0]), (1, 0, [8]), (1, 0, [8]), (0, 4, [0, 0, 19, 20, 0, 0]), (1, 0, [24]), (1, 0, [24]), (0, 4, [0, 0, 22, 23, 0, 0]), (1, 0, [20]), (1, 0, [20]), (2, 2, [6]), (2, 3, [6]), (2, 4, [6]), (1, 0, [7]), (0, 3, [0, 0, 29, 0, 30, 31, 0, 0, 0, 0]), (1, 0, [100]), (1, 0, [5]), (1, 0, [100]), (0, 3, [0, 0, 33, 0, 34, 35, 0, 0, 0, 0]), (1, 0, [100]), (1, 0, [5]), (1, 0, [100]), (0, 3, [0, 0, 37, 0, 38, 39, 0, 0, 0, 0]), (1, 0, [100]), (1, 0, [5]), (1, 0, [100]), (0, 3, [0, 0, 41, 0, 42, 43, 0, 0, 0, 0]), (1, 0, [100]), (1, 0, [5]), (1, 0, [100]), (0, 3, [0, 0, 45, 0, 46, 47, 0, 0, 0, 0]), (1, 0, [100]), (1, 0, [5]), (1, 0, [100]), (0, 3, [0, 0, 49, 0, 50, 51, 0, 0, 0, 0]), (1, 0, [100]), (1, 0, [5]), (1, 0, [100]), (0, 5, [53, 0, 1, 0, 0, 0, 0]), (1, 0, [1601]), (0, 5, [55, 0, 1, 0, 0, 0, 0]), (1, 0, [1601]), (0, 5, [57, 0, 1, 0, 0, 0, 0]), (1, 0, [1601]), (0, 5, [59, 0, 1, 0, 0, 0, 0]), (1, 0, [1601]), (0, 5, [61, 0, 1, 0, 0, 0, 0]), (1, 0, [1601]), (0, 5, [63, 0, 1, 0, 0, 0, 0]), (1, 0, [1601]), (0, 5, [65, 0, 1, 0, 0, 0, 0]), (1, 0, [1601]), (0, 10, [52, 0, 0, 0, 0]), (0, 10, [52, 0, 0, 0, 0]), (0, 10, [52, 0, 0, 0, 0])] ++ [.inr (12, [.int 0, .null, .null, .int 0, .int 0, .int 0, .int 0, .int 0, .int 0, .null, .null, .null, .null, .int 0, .int 0, .int 0, .null, .int 0, .int 0, .null, .int 0, .int 0, .int 0, .int 0])]) = some (none, fm_h cmF [(0, 11, [1, 1, 1, 1, 1, 1, 1, 1, 1, 1, 1, 1, 0, 1, 1, 1, 1]), (0, 4, [0, 0, 4, 5, 0, 0]), (1, 0, [5]), (1, 0, [5]), (0, 4, [0, 0, 7, 8, 0, 0]), (1, 0, [100]), (1, 0, [100]), (0, 4, [0, 0, 10, 11, 0, 0]), (1, 0, [10]), (1, 0, [10]), (0, 4, [0, 0, 13, 14, 0, 0]), (1, 0, [8]), (1, 0, [8]), (0, 4, [0, 0, 16, 17, 0, 0]), (1, 0, [8]), (1, 0, [8]), (0, 4, [0, 0, 19, 20, 0, 0]), (1, 0, [24]), (1, 0, [24]), (0, 4, [0, 0, 22, 23, 0, 0]), (1, 0, [20]), (1, 0, [20]), (2, 2, [6]), (2, 3, [6]), (2, 4, [6]), (1, 0, [7]), (0, 3, [0, 0, 29, 0, 30, 31, 0, 0, 0, 0]), (1, 0, [100]), (1, 0, [5]), (1, 0, [100]), (0, 3, [0, 0, 33, 0, 34, 35, 0, 0, 0, 0]), (1, 0, [100]), (1, 0, [5]), (1, 0, [100]), (0, 3, [0, 0, 37, 0, 38, 39, 0, 0, 0, 0]), (1, 0, [100]), (1, 0, [5]), (1, 0, [100]), (0, 3, [0, 0, 41, 0, 42, 43, 0, 0, 0, 0]), (1, 0, [100]), (1, 0, [5]), (1, 0, [100]), (0, 3, [0, 0, 45, 0, 46, 47, 0, 0, 0, 0]), (1, 0, [100]), (1, 0, [5]), (1, 0, [100]), (0, 3, [0, 0, 49, 0, 50, 51, 0, 0, 0, 0]), (1, 0, [100]), (1, 0, [5]), (1, 0, [100]), (0, 5, [53, 0, 1, 0, 0, 0, 0]), (1, 0, [1601]), (0, 5, [55, 0, 1, 0, 0, 0, 0]), (1, 0, [1601]), (0, 5, [57, 0, 1, 0, 0, 0, 0]), (1, 0, [1601]), (0, 5, [59, 0, 1, 0, 0, 0, 0]), (1, 0, [1601]), (0, 5, [61, 0, 1, 0, 0, 0, 0]), (1, 0, [1601]), (0, 5, [63, 0, 1, 0, 0, 0, 0]), (1, 0, [1601]), (0, 5, [65, 0, 1, 0, 0, 0, 0]), (1, 0, [1601]), (0, 10, [52, 0, 0, 0, 0]), (0, 10, [52, 0, 0, 0, 0]), (0, 10, [52, 0, 0, 0, 0]), (0, 12, [0, 1, 1, 0, 0, 0, 0, 0, 0, 1, 1, 1, 1, 0, 0, 0, 1, 0, 0, 1, 0, 0, 0, 0]), (1, 0, [924]), (1, 0, [924]), (1, 0, [5]), (1, 1, [64]), (1, 0, [11900]), (1, 0, [7]), (1, 0, [7]), (1, 0, [20])]) := new_M
  simp (disch := first | assumption | omega | decide | (refine ok_n ?_; decide) | (refine nf_some ?_; decide)) only [e236, i236_0, i236_3, i236_4, i236_7, i236_7n, i236_8, i236_11, i236_12, i236_15, i236_15n, i236_16, i236_17, ix_pv_s, ix_pi_s, zpn, ix_po_s, ix_po_n, ix_ph_s, ix_bk_v, ix_bk_n, zcv, zcv_ne, ↓reduceIte, Nat.reduceEqDiff, fm_len, List.length_cons, List.length_nil, List.nil_append, Nat.zero_add, Nat.reduceAdd, a1, a2, re_T]
