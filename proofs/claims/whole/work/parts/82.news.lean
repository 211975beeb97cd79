/-! ===== new objects ===== -/
--need 81.loop
theorem hs_g {h : ix_H} {c : Nat} {fs : List Value} {l : ix_H} {cs : List Nat} {k : Nat} (hc : ix_isin cs c = true) : ix_g (h ++ .inr (c, fs) :: l) h.length cs k = fs[k]? := by
  unfold ix_g
  rw [hs_at]
  simp only
  rw [if_pos hc]
theorem tc_n {n : Nat} (h : n < 2147483648) : (nI n).toNatClampNeg = n := nI_clamp h
theorem ok_n {n : Nat} (h : n < 100000000) : 0 ≤ nI n ∧ (nI n).toNatClampNeg < 100000000 := ⟨nI_pos' (by omega), by rw [nI_clamp (show n < 2 ^ 31 by omega)]; exact h⟩
theorem get0 {a : Value} {l : List Value} : (a :: l)[0]? = some a := rfl
theorem get1 {a : Value} {l : List Value} {n : Nat} : (a :: l)[n + 1]? = l[n]? := rfl
section NW
variable {X : ix_X} {d : Nat} {μ : fm_M} {T : List fm_D} {n : Nat} {h : ix_H}
theorem l_rows_5_1 : ix_call X d 22 [.ref h.length, .int (nI 5), .int (nI 1)] (h ++ [.inr (4, [.int 0, .int 0, .null, .null, .int 0, .int 0])]) = some (none, h ++ [.inr (4, [.int (nI 5), .int (nI 1), .ref (h.length + 1), .ref (h.length + 2), .int 0, .int 0]), .inl (0, 5, .inl (fun _ => 0)), .inl (0, 5, .inl (fun _ => 0))]) := by
  have m1 : (if nI 0 < nI 5 then nI 5 else nI 0) = nI 5 := by decide
  have m2 : (if nI 1 < nI 1 then nI 1 else nI 1) = nI 1 := by decide
  have m3 : nI 5 * nI 1 = nI 5 := by decide
  simp (disch := first | assumption | omega | decide | exact ok_n (by decide) | exact hs_some | (simp only [List.length_cons, List.length_nil]; done) | (simp only [List.length_cons, List.length_nil]; omega)) only [e22, i22_0, i22_1, i22_4, i22_5, i22_6, i22_7, i22_10, i22_13, i22_14, i22_15, i22_16, i22_19, i22_22, i22_23, i22_24, i22_27, i22_28, i22_31, i22_32, i22_34, i22_37, i22_38, i22_39, i22_42, i22_43, i22_46, i22_47, i22_49, i22_52, ix_pv_s, ix_pi_s, zpn, ix_po_s, ix_po_n, ix_ph_s, ix_bk_v, ix_bk_n, zcv, zcv_ne, ↓reduceIte, Nat.reduceEqDiff, m1, m2, m3, List.append_assoc, List.cons_append, List.nil_append, List.length_append, List.length_cons, List.length_nil, Nat.zero_add, Nat.reduceAdd, List.set_cons_zero, List.set_cons_succ, hs_g, hs_s, tc_n, ok_n, get0, get1]
theorem l_rows_100_1 : ix_call X d 22 [.ref h.length, .int (nI 100), .int (nI 1)] (h ++ [.inr (4, [.int 0, .int 0, .null, .null, .int 0, .int 0])]) = some (none, h ++ [.inr (4, [.int (nI 100), .int (nI 1), .ref (h.length + 1), .ref (h.length + 2), .int 0, .int 0]), .inl (0, 100, .inl (fun _ => 0)), .inl (0, 100, .inl (fun _ => 0))]) := by
  have m1 : (if nI 0 < nI 100 then nI 100 else nI 0) = nI 100 := by decide
  have m2 : (if nI 1 < nI 1 then nI 1 else nI 1) = nI 1 := by decide
  have m3 : nI 100 * nI 1 = nI 100 := by decide
  simp (disch := first | assumption | omega | decide | exact ok_n (by decide) | exact hs_some | (simp only [List.length_cons, List.length_nil]; done) | (simp only [List.length_cons, List.length_nil]; omega)) only [e22, i22_0, i22_1, i22_4, i22_5, i22_6, i22_7, i22_10, i22_13, i22_14, i22_15, i22_16, i22_19, i22_22, i22_23, i22_24, i22_27, i22_28, i22_31, i22_32, i22_34, i22_37, i22_38, i22_39, i22_42, i22_43, i22_46, i22_47, i22_49, i22_52, ix_pv_s, ix_pi_s, zpn, ix_po_s, ix_po_n, ix_ph_s, ix_bk_v, ix_bk_n, zcv, zcv_ne, ↓reduceIte, Nat.reduceEqDiff, m1, m2, m3, List.append_assoc, List.cons_append, List.nil_append, List.length_append, List.length_cons, List.length_nil, Nat.zero_add, Nat.reduceAdd, List.set_cons_zero, List.set_cons_succ, hs_g, hs_s, tc_n, ok_n, get0, get1]
theorem l_rows_5_2 : ix_call X d 22 [.ref h.length, .int (nI 5), .int (nI 2)] (h ++ [.inr (4, [.int 0, .int 0, .null, .null, .int 0, .int 0])]) = some (none, h ++ [.inr (4, [.int (nI 5), .int (nI 2), .ref (h.length + 1), .ref (h.length + 2), .int 0, .int 0]), .inl (0, 10, .inl (fun _ => 0)), .inl (0, 10, .inl (fun _ => 0))]) := by
  have m1 : (if nI 0 < nI 5 then nI 5 else nI 0) = nI 5 := by decide
  have m2 : (if nI 1 < nI 2 then nI 2 else nI 1) = nI 2 := by decide
  have m3 : nI 5 * nI 2 = nI 10 := by decide
  simp (disch := first | assumption | omega | decide | exact ok_n (by decide) | exact hs_some | (simp only [List.length_cons, List.length_nil]; done) | (simp only [List.length_cons, List.length_nil]; omega)) only [e22, i22_0, i22_1, i22_4, i22_5, i22_6, i22_7, i22_10, i22_13, i22_14, i22_15, i22_16, i22_19, i22_22, i22_23, i22_24, i22_27, i22_28, i22_31, i22_32, i22_34, i22_37, i22_38, i22_39, i22_42, i22_43, i22_46, i22_47, i22_49, i22_52, ix_pv_s, ix_pi_s, zpn, ix_po_s, ix_po_n, ix_ph_s, ix_bk_v, ix_bk_n, zcv, zcv_ne, ↓reduceIte, Nat.reduceEqDiff, m1, m2, m3, List.append_assoc, List.cons_append, List.nil_append, List.length_append, List.length_cons, List.length_nil, Nat.zero_add, Nat.reduceAdd, List.set_cons_zero, List.set_cons_succ, hs_g, hs_s, tc_n, ok_n, get0, get1]
theorem l_rows_4_2 : ix_call X d 22 [.ref h.length, .int (nI 4), .int (nI 2)] (h ++ [.inr (4, [.int 0, .int 0, .null, .null, .int 0, .int 0])]) = some (none, h ++ [.inr (4, [.int (nI 4), .int (nI 2), .ref (h.length + 1), .ref (h.length + 2), .int 0, .int 0]), .inl (0, 8, .inl (fun _ => 0)), .inl (0, 8, .inl (fun _ => 0))]) := by
  have m1 : (if nI 0 < nI 4 then nI 4 else nI 0) = nI 4 := by decide
  have m2 : (if nI 1 < nI 2 then nI 2 else nI 1) = nI 2 := by decide
  have m3 : nI 4 * nI 2 = nI 8 := by decide
  simp (disch := first | assumption | omega | decide | exact ok_n (by decide) | exact hs_some | (simp only [List.length_cons, List.length_nil]; done) | (simp only [List.length_cons, List.length_nil]; omega)) only [e22, i22_0, i22_1, i22_4, i22_5, i22_6, i22_7, i22_10, i22_13, i22_14, i22_15, i22_16, i22_19, i22_22, i22_23, i22_24, i22_27, i22_28, i22_31, i22_32, i22_34, i22_37, i22_38, i22_39, i22_42, i22_43, i22_46, i22_47, i22_49, i22_52, ix_pv_s, ix_pi_s, zpn, ix_po_s, ix_po_n, ix_ph_s, ix_bk_v, ix_bk_n, zcv, zcv_ne, ↓reduceIte, Nat.reduceEqDiff, m1, m2, m3, List.append_assoc, List.cons_append, List.nil_append, List.length_append, List.length_cons, List.length_nil, Nat.zero_add, Nat.reduceAdd, List.set_cons_zero, List.set_cons_succ, hs_g, hs_s, tc_n, ok_n, get0, get1]
theorem l_rows_8_3 : ix_call X d 22 [.ref h.length, .int (nI 8), .int (nI 3)] (h ++ [.inr (4, [.int 0, .int 0, .null, .null, .int 0, .int 0])]) = some (none, h ++ [.inr (4, [.int (nI 8), .int (nI 3), .ref (h.length + 1), .ref (h.length + 2), .int 0, .int 0]), .inl (0, 24, .inl (fun _ => 0)), .inl (0, 24, .inl (fun _ => 0))]) := by
  have m1 : (if nI 0 < nI 8 then nI 8 else nI 0) = nI 8 := by decide
  have m2 : (if nI 1 < nI 3 then nI 3 else nI 1) = nI 3 := by decide
  have m3 : nI 8 * nI 3 = nI 24 := by decide
  simp (disch := first | assumption | omega | decide | exact ok_n (by decide) | exact hs_some | (simp only [List.length_cons, List.length_nil]; done) | (simp only [List.length_cons, List.length_nil]; omega)) only [e22, i22_0, i22_1, i22_4, i22_5, i22_6, i22_7, i22_10, i22_13, i22_14, i22_15, i22_16, i22_19, i22_22, i22_23, i22_24, i22_27, i22_28, i22_31, i22_32, i22_34, i22_37, i22_38, i22_39, i22_42, i22_43, i22_46, i22_47, i22_49, i22_52, ix_pv_s, ix_pi_s, zpn, ix_po_s, ix_po_n, ix_ph_s, ix_bk_v, ix_bk_n, zcv, zcv_ne, ↓reduceIte, Nat.reduceEqDiff, m1, m2, m3, List.append_assoc, List.cons_append, List.nil_append, List.length_append, List.length_cons, List.length_nil, Nat.zero_add, Nat.reduceAdd, List.set_cons_zero, List.set_cons_succ, hs_g, hs_s, tc_n, ok_n, get0, get1]
theorem l_rows_20_1 : ix_call X d 22 [.ref h.length, .int (nI 20), .int (nI 1)] (h ++ [.inr (4, [.int 0, .int 0, .null, .null, .int 0, .int 0])]) = some (none, h ++ [.inr (4, [.int (nI 20), .int (nI 1), .ref (h.length + 1), .ref (h.length + 2), .int 0, .int 0]), .inl (0, 20, .inl (fun _ => 0)), .inl (0, 20, .inl (fun _ => 0))]) := by
  have m1 : (if nI 0 < nI 20 then nI 20 else nI 0) = nI 20 := by decide
  have m2 : (if nI 1 < nI 1 then nI 1 else nI 1) = nI 1 := by decide
  have m3 : nI 20 * nI 1 = nI 20 := by decide
  simp (disch := first | assumption | omega | decide | exact ok_n (by decide) | exact hs_some | (simp only [List.length_cons, List.length_nil]; done) | (simp only [List.length_cons, List.length_nil]; omega)) only [e22, i22_0, i22_1, i22_4, i22_5, i22_6, i22_7, i22_10, i22_13, i22_14, i22_15, i22_16, i22_19, i22_22, i22_23, i22_24, i22_27, i22_28, i22_31, i22_32, i22_34, i22_37, i22_38, i22_39, i22_42, i22_43, i22_46, i22_47, i22_49, i22_52, ix_pv_s, ix_pi_s, zpn, ix_po_s, ix_po_n, ix_ph_s, ix_bk_v, ix_bk_n, zcv, zcv_ne, ↓reduceIte, Nat.reduceEqDiff, m1, m2, m3, List.append_assoc, List.cons_append, List.nil_append, List.length_append, List.length_cons, List.length_nil, Nat.zero_add, Nat.reduceAdd, List.set_cons_zero, List.set_cons_succ, hs_g, hs_s, tc_n, ok_n, get0, get1]
theorem l_park : ix_call X d 9 [.ref h.length] (h ++ [.inr (3, [.int 0, .int 0, .null, .int 0, .null, .null, .int 0, .int 0, .int 0, .int 0])]) = some (none, h ++ [.inr (3, [.int (nI 99), .int (nI 1), .ref (h.length + 1), .int 0, .ref (h.length + 2), .ref (h.length + 3), .int 0, .int 0, .int 0, .int 0]), .inl (0, 100, .inl (fun _ => 0)), .inl (0, 5, .inl (fun _ => 0)), .inl (0, 100, .inl (fun _ => 0))]) := by
  simp (disch := first | assumption | omega | decide | exact ok_n (by decide) | exact hs_some | (simp only [List.length_cons, List.length_nil]; done) | (simp only [List.length_cons, List.length_nil]; omega)) only [e9, i9_0, i9_1, i9_4, i9_5, i9_7, i9_10, i9_11, i9_12, i9_15, i9_16, i9_18, i9_20, i9_23, i9_24, i9_25, i9_27, i9_30, i9_31, i9_33, i9_35, i9_38, ix_pv_s, ix_pi_s, zpn, ix_po_s, ix_po_n, ix_ph_s, ix_bk_v, ix_bk_n, zcv, zcv_ne, ↓reduceIte, Nat.reduceEqDiff, List.append_assoc, List.cons_append, List.nil_append, List.length_append, List.length_cons, List.length_nil, Nat.zero_add, Nat.reduceAdd, List.set_cons_zero, List.set_cons_succ, hs_g, hs_s, tc_n, ok_n, get0, get1]
theorem l_spot {p : Nat} : ix_call X d 31 [.ref h.length, .ref p] (h ++ [.inr (5, [.null, .int 0, .null, .int 0, .int 0, .int 0, .int 0])]) = some (none, h ++ [.inr (5, [.ref (h.length + 1), .int 0, .ref p, .int (nI 9), .int (nI 9), .int (nI 9), .int 0]), .inl (0, 1601, .inl (fun _ => 0))]) := by
  simp (disch := first | assumption | omega | decide | exact ok_n (by decide) | exact hs_some | (simp only [List.length_cons, List.length_nil]; done) | (simp only [List.length_cons, List.length_nil]; omega)) only [e31, i31_0, i31_1, i31_4, i31_5, i31_8, i31_10, i31_13, i31_14, i31_16, i31_19, i31_20, i31_22, i31_25, i31_26, i31_28, i31_31, i31_32, i31_33, i31_36, ix_pv_s, ix_pi_s, zpn, ix_po_s, ix_po_n, ix_ph_s, ix_bk_v, ix_bk_n, zcv, zcv_ne, ↓reduceIte, Nat.reduceEqDiff, List.append_assoc, List.cons_append, List.nil_append, List.length_append, List.length_cons, List.length_nil, Nat.zero_add, Nat.reduceAdd, List.set_cons_zero, List.set_cons_succ, hs_g, hs_s, tc_n, ok_n, get0, get1]
theorem l_trip {p : Nat} : ix_call X d 57 [.ref h.length, .ref p] (h ++ [.inr (10, [.null, .int 0, .int 0, .int 0, .int 0])]) = some (none, h ++ [.inr (10, [.ref p, .int (nI 1), .int 0, .int 0, .int 0])]) := by
  simp (disch := first | assumption | omega | decide | exact ok_n (by decide) | exact hs_some | (simp only [List.length_cons, List.length_nil]; done) | (simp only [List.length_cons, List.length_nil]; omega)) only [e57, i57_0, i57_1, i57_4, i57_5, i57_6, i57_9, i57_10, i57_11, i57_14, ix_pv_s, ix_pi_s, zpn, ix_po_s, ix_po_n, ix_ph_s, ix_bk_v, ix_bk_n, zcv, zcv_ne, ↓reduceIte, Nat.reduceEqDiff, List.append_assoc, List.cons_append, List.nil_append, List.length_append, List.length_cons, List.length_nil, Nat.zero_add, Nat.reduceAdd, List.set_cons_zero, List.set_cons_succ, hs_g, hs_s, tc_n, ok_n, get0, get1]
theorem fa1 {c : ix_C} {D : fm_D} {f : Nat → Int32} (hn : T.length = n) (hc : c = fm_c D f) : fm_h μ T ++ [c] = fm_h (fm_r μ n f) (T ++ [D]) := by
  rw [fm_app hc, hn]
def mRw (μ : fm_M) (n : Nat) (a b : Int32) : fm_M := fm_r (fm_r (fm_r μ n (fun k => if k = 0 then a else if k = 1 then b else 0)) (n + 1) (fun _ => 0)) (n + 2) (fun _ => 0)
def mPk (μ : fm_M) (n : Nat) : fm_M := fm_r (fm_r (fm_r (fm_r μ n (fun k => if k = 0 then nI 99 else if k = 1 then nI 1 else 0)) (n + 1) (fun _ => 0)) (n + 2) (fun _ => 0)) (n + 3) (fun _ => 0)
def mSp (μ : fm_M) (n p : Nat) : fm_M := fm_r (fm_r μ n (fun k => if k = 2 then nI p else if k = 3 then nI 9 else if k = 4 then nI 9 else if k = 5 then nI 9 else 0)) (n + 1) (fun _ => 0)
def mTp (μ : fm_M) (n : Nat) : fm_M := fm_r μ n (fun k => if k = 1 then nI 1 else 0)
theorem fv1 {p : Nat} (hp : p < 2147483648) : fm_v 1 (nI p) = .ref p := by
  have h1 : ¬ nI p < 0 := nI_pos hp
  have h2 : p < 2 ^ 31 := hp
  simp only [fm_v, if_neg h1, nI_clamp h2]
theorem f_rows {a b m : Nat} (hn : T.length = n) : fm_h μ T ++ [.inr (4, [.int (nI a), .int (nI b), .ref (n + 1), .ref (n + 2), .int 0, .int 0]), .inl (0, m, .inl (fun _ => 0)), .inl (0, m, .inl (fun _ => 0))] = fm_h (mRw μ n (nI a) (nI b)) (T ++ [(0, 4, [0, 0, n + 3, n + 4, 0, 0]), (1, 0, [m]), (1, 0, [m])]) := by
  have e : ∀ (x y z : ix_C), fm_h μ T ++ [x, y, z] = ((fm_h μ T ++ [x]) ++ [y]) ++ [z] := fun x y z => by simp only [List.append_assoc, List.cons_append, List.nil_append]
  rw [e, fa1 (n := n) (c := .inr (4, [.int (nI a), .int (nI b), .ref (n + 1), .ref (n + 2), .int 0, .int 0])) (D := (0, 4, [0, 0, n + 3, n + 4, 0, 0])) (f := fun k => if k = 0 then nI a else if k = 1 then nI b else 0) hn rfl, fa1 (n := n + 1) (c := .inl (0, m, .inl (fun _ => 0))) (D := (1, 0, [m])) (f := fun _ => 0) (by rw [List.length_append, hn]; rfl) rfl, fa1 (n := n + 2) (c := .inl (0, m, .inl (fun _ => 0))) (D := (1, 0, [m])) (f := fun _ => 0) (by rw [List.length_append, List.length_append, hn]; rfl) rfl]
  simp only [List.append_assoc, List.cons_append, List.nil_append]
  rfl
theorem f_park (hn : T.length = n) : fm_h μ T ++ [.inr (3, [.int (nI 99), .int (nI 1), .ref (n + 1), .int 0, .ref (n + 2), .ref (n + 3), .int 0, .int 0, .int 0, .int 0]), .inl (0, 100, .inl (fun _ => 0)), .inl (0, 5, .inl (fun _ => 0)), .inl (0, 100, .inl (fun _ => 0))] = fm_h (mPk μ n) (T ++ [(0, 3, [0, 0, n + 3, 0, n + 4, n + 5, 0, 0, 0, 0]), (1, 0, [100]), (1, 0, [5]), (1, 0, [100])]) := by
  have e : ∀ (x y z w : ix_C), fm_h μ T ++ [x, y, z, w] = (((fm_h μ T ++ [x]) ++ [y]) ++ [z]) ++ [w] := fun x y z w => by simp only [List.append_assoc, List.cons_append, List.nil_append]
  rw [e, fa1 (n := n) (c := .inr (3, [.int (nI 99), .int (nI 1), .ref (n + 1), .int 0, .ref (n + 2), .ref (n + 3), .int 0, .int 0, .int 0, .int 0])) (D := (0, 3, [0, 0, n + 3, 0, n + 4, n + 5, 0, 0, 0, 0])) (f := fun k => if k = 0 then nI 99 else if k = 1 then nI 1 else 0) hn rfl, fa1 (n := n + 1) (c := .inl (0, 100, .inl (fun _ => 0))) (D := (1, 0, [100])) (f := fun _ => 0) (by rw [List.length_append, hn]; rfl) rfl, fa1 (n := n + 2) (c := .inl (0, 5, .inl (fun _ => 0))) (D := (1, 0, [5])) (f := fun _ => 0) (by rw [List.length_append, List.length_append, hn]; rfl) rfl, fa1 (n := n + 3) (c := .inl (0, 100, .inl (fun _ => 0))) (D := (1, 0, [100])) (f := fun _ => 0) (by rw [List.length_append, List.length_append, List.length_append, hn]; rfl) rfl]
  simp only [List.append_assoc, List.cons_append, List.nil_append]
  rfl
theorem f_spot {p : Nat} (hp : p < 2147483648) (hn : T.length = n) : fm_h μ T ++ [.inr (5, [.ref (n + 1), .int 0, .ref p, .int (nI 9), .int (nI 9), .int (nI 9), .int 0]), .inl (0, 1601, .inl (fun _ => 0))] = fm_h (mSp μ n p) (T ++ [(0, 5, [n + 3, 0, 1, 0, 0, 0, 0]), (1, 0, [1601])]) := by
  have e : ∀ (x y : ix_C), fm_h μ T ++ [x, y] = (fm_h μ T ++ [x]) ++ [y] := fun x y => by simp only [List.append_assoc, List.cons_append, List.nil_append]
  rw [← fv1 hp]
  rw [e, fa1 (n := n) (c := .inr (5, [.ref (n + 1), .int 0, fm_v 1 (nI p), .int (nI 9), .int (nI 9), .int (nI 9), .int 0])) (D := (0, 5, [n + 3, 0, 1, 0, 0, 0, 0])) (f := fun k => if k = 2 then nI p else if k = 3 then nI 9 else if k = 4 then nI 9 else if k = 5 then nI 9 else 0) hn rfl, fa1 (n := n + 1) (c := .inl (0, 1601, .inl (fun _ => 0))) (D := (1, 0, [1601])) (f := fun _ => 0) (by rw [List.length_append, hn]; rfl) rfl]
  simp only [List.append_assoc, List.cons_append, List.nil_append]
  rfl
theorem f_trip {p : Nat} (hn : T.length = n) : fm_h μ T ++ [.inr (10, [.ref p, .int (nI 1), .int 0, .int 0, .int 0])] = fm_h (mTp μ n) (T ++ [(0, 10, [p + 2, 0, 0, 0, 0])]) := fa1 (n := n) (D := (0, 10, [p + 2, 0, 0, 0, 0])) (f := fun k => if k = 1 then nI 1 else 0) hn rfl
theorem fa_q {t m : Nat} (hn : T.length = n) : fm_h μ T ++ [.inl (t + 2, m, .inr (.inr (.inr (.inr (fun _ => none)))))] = fm_h (fm_r μ n (fun _ => -1)) (T ++ [(2, t + 2, [m])]) := fa1 hn (by
  simp only [fm_c, List.headD_cons]
  have : (fun _ : Nat => fm_e (-1)) = fun _ => none := by
    funext k
    decide
  rw [this])
theorem fa_i {t m : Nat} (hn : T.length = n) : fm_h μ T ++ [.inl (t, m, .inl (fun _ => 0))] = fm_h (fm_r μ n (fun _ => 0)) (T ++ [(1, t, [m])]) := fa1 hn rfl
theorem nf_some {c : Nat} {fs : List Value} (hn : T.length = n) : (ix_cls (fm_h μ T ++ [.inr (c, fs)]) n).isSome = true := by
  subst hn
  have : (fm_h μ T).length = T.length := fm_len
  rw [← this]
  exact hs_some
theorem nf_rows_5_1 (hn : T.length = n) : ix_call X d 22 [.ref n, .int (nI 5), .int (nI 1)] (fm_h μ T ++ [.inr (4, [.int 0, .int 0, .null, .null, .int 0, .int 0])]) = some (none, fm_h (mRw μ n (nI 5) (nI 1)) (T ++ [(0, 4, [0, 0, n + 3, n + 4, 0, 0]), (1, 0, [5]), (1, 0, [5])])) := by
  have k := l_rows_5_1 (X := X) (d := d) (h := fm_h μ T)
  rw [fm_len, hn] at k
  rw [k, f_rows hn]
theorem nf_rows_100_1 (hn : T.length = n) : ix_call X d 22 [.ref n, .int (nI 100), .int (nI 1)] (fm_h μ T ++ [.inr (4, [.int 0, .int 0, .null, .null, .int 0, .int 0])]) = some (none, fm_h (mRw μ n (nI 100) (nI 1)) (T ++ [(0, 4, [0, 0, n + 3, n + 4, 0, 0]), (1, 0, [100]), (1, 0, [100])])) := by
  have k := l_rows_100_1 (X := X) (d := d) (h := fm_h μ T)
  rw [fm_len, hn] at k
  rw [k, f_rows hn]
theorem nf_rows_5_2 (hn : T.length = n) : ix_call X d 22 [.ref n, .int (nI 5), .int (nI 2)] (fm_h μ T ++ [.inr (4, [.int 0, .int 0, .null, .null, .int 0, .int 0])]) = some (none, fm_h (mRw μ n (nI 5) (nI 2)) (T ++ [(0, 4, [0, 0, n + 3, n + 4, 0, 0]), (1, 0, [10]), (1, 0, [10])])) := by
  have k := l_rows_5_2 (X := X) (d := d) (h := fm_h μ T)
  rw [fm_len, hn] at k
  rw [k, f_rows hn]
theorem nf_rows_4_2 (hn : T.length = n) : ix_call X d 22 [.ref n, .int (nI 4), .int (nI 2)] (fm_h μ T ++ [.inr (4, [.int 0, .int 0, .null, .null, .int 0, .int 0])]) = some (none, fm_h (mRw μ n (nI 4) (nI 2)) (T ++ [(0, 4, [0, 0, n + 3, n + 4, 0, 0]), (1, 0, [8]), (1, 0, [8])])) := by
  have k := l_rows_4_2 (X := X) (d := d) (h := fm_h μ T)
  rw [fm_len, hn] at k
  rw [k, f_rows hn]
theorem nf_rows_8_3 (hn : T.length = n) : ix_call X d 22 [.ref n, .int (nI 8), .int (nI 3)] (fm_h μ T ++ [.inr (4, [.int 0, .int 0, .null, .null, .int 0, .int 0])]) = some (none, fm_h (mRw μ n (nI 8) (nI 3)) (T ++ [(0, 4, [0, 0, n + 3, n + 4, 0, 0]), (1, 0, [24]), (1, 0, [24])])) := by
  have k := l_rows_8_3 (X := X) (d := d) (h := fm_h μ T)
  rw [fm_len, hn] at k
  rw [k, f_rows hn]
theorem nf_rows_20_1 (hn : T.length = n) : ix_call X d 22 [.ref n, .int (nI 20), .int (nI 1)] (fm_h μ T ++ [.inr (4, [.int 0, .int 0, .null, .null, .int 0, .int 0])]) = some (none, fm_h (mRw μ n (nI 20) (nI 1)) (T ++ [(0, 4, [0, 0, n + 3, n + 4, 0, 0]), (1, 0, [20]), (1, 0, [20])])) := by
  have k := l_rows_20_1 (X := X) (d := d) (h := fm_h μ T)
  rw [fm_len, hn] at k
  rw [k, f_rows hn]
theorem nf_park (hn : T.length = n) : ix_call X d 9 [.ref n] (fm_h μ T ++ [.inr (3, [.int 0, .int 0, .null, .int 0, .null, .null, .int 0, .int 0, .int 0, .int 0])]) = some (none, fm_h (mPk μ n) (T ++ [(0, 3, [0, 0, n + 3, 0, n + 4, n + 5, 0, 0, 0, 0]), (1, 0, [100]), (1, 0, [5]), (1, 0, [100])])) := by
  have k := l_park (X := X) (d := d) (h := fm_h μ T)
  rw [fm_len, hn] at k
  rw [k, f_park hn]
theorem nf_spot {p : Nat} (hp : p < 2147483648) (hn : T.length = n) : ix_call X d 31 [.ref n, .ref p] (fm_h μ T ++ [.inr (5, [.null, .int 0, .null, .int 0, .int 0, .int 0, .int 0])]) = some (none, fm_h (mSp μ n p) (T ++ [(0, 5, [n + 3, 0, 1, 0, 0, 0, 0]), (1, 0, [1601])])) := by
  have k := l_spot (X := X) (d := d) (h := fm_h μ T) (p := p)
  rw [fm_len, hn] at k
  rw [k, f_spot hp hn]
theorem nf_trip {p : Nat} (hn : T.length = n) : ix_call X d 57 [.ref n, .ref p] (fm_h μ T ++ [.inr (10, [.null, .int 0, .int 0, .int 0, .int 0])]) = some (none, fm_h (mTp μ n) (T ++ [(0, 10, [p + 2, 0, 0, 0, 0])])) := by
  have k := l_trip (X := X) (d := d) (h := fm_h μ T) (p := p)
  rw [fm_len, hn] at k
  rw [k, f_trip hn]
end NW
