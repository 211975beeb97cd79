/-! ===== texts: the JDK's own methods ===== -/
--need 65.tree
def tl (k : Nat) : Nat := ix_tlen k
def ch (k i : Nat) : Nat := ((ix_tbyt k).getD i 0).toNatClampNeg
theorem tx_by {k i : Nat} (hk : k < 6) (hi : i < tl k) : ix_by (2 + 2 * k + 1) (nI i) = some (nI (ch k i)) ∧ ch k i < 128 := by
  have key : ∀ k : Fin 6, ∀ i : Fin 5, (i : Nat) < tl k → ix_by (2 + 2 * (k : Nat) + 1) (nI i) = some (nI (ch k i)) ∧ ch k i < 128 := by decide +kernel
  have l5 : ∀ k : Fin 6, tl k ≤ 5 := by decide +kernel
  have := l5 ⟨k, hk⟩
  exact key ⟨k, hk⟩ ⟨i, by show i < 5; simp only at this; omega⟩ hi
theorem tl_5 {k : Nat} (hk : k < 6) : tl k ≤ 5 ∧ 1 ≤ tl k := by
  have key : ∀ k : Fin 6, tl k ≤ 5 ∧ 1 ≤ tl k := by decide +kernel
  exact key ⟨k, hk⟩
theorem tx_len {k : Nat} : Int32.ofNat (ix_tlen ((2 + 2 * k + 1 - 3) / 2)) = nI (tl k) := by
  rw [show (2 + 2 * k + 1 - 3) / 2 = k by omega]
  rfl
theorem n_and {b : Nat} (h : b < 128) : nI b &&& nI 255 = nI b := by
  have key : ∀ b : Fin 128, nI b &&& nI 255 = nI b := by decide +kernel
  exact key ⟨b, h⟩
theorem n_c16 {b : Nat} (h : b < 128) : ((nI b).toUInt32 % 65536).toInt32 = nI b := by
  have key : ∀ b : Fin 128, ((nI b).toUInt32 % 65536).toInt32 = nI b := by decide +kernel
  exact key ⟨b, h⟩
theorem n_shr {k : Nat} (hk : k < 6) : nI (tl k) >>> ((0 : Int32) &&& 31) = nI (tl k) := by
  have key : ∀ k : Fin 6, nI (tl k) >>> ((0 : Int32) &&& 31) = nI (tl k) := by decide +kernel
  exact key ⟨k, hk⟩
/-- the place of x in text k, from i on -/
def idxV (k : Nat) (x : Int32) : Nat → Nat → Int32
  | 0, _ => -1
  | m + 1, i => if x = nI (ch k i) then nI i else idxV k x m (i + 1)
section TX
variable {X : ix_X} {d : Nat} {H : ix_H} {k : Nat}
theorem tx_latin (hk : k < 6) : ix_call X d 227 [.retAddr (2 + 2 * k)] H = some (some (.int (nI 1)), H) := by
  simp (disch := first | assumption | omega | decide) only [e227, i227_0, i227_3, i227_6, i227_7, i227_10, i227_13, i227_14, i227_17, i227_18, ix_pv_s, ix_pi_s, zpn, ix_po_s, ix_po_n, ix_ph_s, ix_bk_v, ix_bk_n, zcv, zcv_ne, ↓reduceIte, Nat.reduceEqDiff, zn_m1, zd_lt_p, zd_lt_n, zd_le_p, zd_le_n, zd_eq_p, zd_eq_n, zd_0_p, zd_0_n, zd_0lt_p, zd_0lt_n, zd_le0_p, zd_le0_n, zn_lt0, zn_le0, zn_add, zn_mul, zn_sub, zm_lt, zm_le, zm_eq, zb_1, zb_0, not_true_eq_false, not_false_eq_true]
theorem tx_coder (hk : k < 6) : ix_call X d 225 [.retAddr (2 + 2 * k)] H = some (some (.int 0), H) := by
  simp (disch := first | assumption | omega | decide) only [e225, i225_0, i225_3, i225_6, i225_7, i225_10, i225_13, i225_14, ix_pv_s, ix_pi_s, zpn, ix_po_s, ix_po_n, ix_ph_s, ix_bk_v, ix_bk_n, zcv, zcv_ne, ↓reduceIte, Nat.reduceEqDiff, zn_m1, zd_lt_p, zd_lt_n, zd_le_p, zd_le_n, zd_eq_p, zd_eq_n, zd_0_p, zd_0_n, zd_0lt_p, zd_0lt_n, zd_le0_p, zd_le0_n, zn_lt0, zn_le0, zn_add, zn_mul, zn_sub, zm_lt, zm_le, zm_eq, zb_1, zb_0, not_true_eq_false, not_false_eq_true]
theorem tx_length (hk : k < 6) : ix_call X (d + 1) 224 [.retAddr (2 + 2 * k)] H = some (some (.int (nI (tl k))), H) := by
  have h1 := tx_coder (X := X) (d := d) (H := H) hk
  have h2 := n_shr hk
  simp (disch := first | assumption | omega | decide) only [e224, i224_0, i224_1, i224_4, i224_5, i224_6, i224_9, i224_10, ix_pv_s, ix_pi_s, zpn, ix_po_s, ix_po_n, ix_ph_s, ix_bk_v, ix_bk_n, zcv, zcv_ne, ↓reduceIte, Nat.reduceEqDiff, tx_len, h1, h2]
theorem tx_char {i : Nat} (hk : k < 6) (hi : i < tl k) : ix_call X (d + 3) 226 [.retAddr (2 + 2 * k), .int (nI i)] H = some (some (.int (nI (ch k i))), H) := by
  obtain ⟨l1, _⟩ := tl_5 hk
  obtain ⟨b1, b2⟩ := tx_by hk hi
  have n1 := n_and b2
  have n2 := n_c16 b2
  have n3 := (pk_charN (q := ch k i) (by omega)).1
  have c0 : ix_call X (d + 1) 228 [.int (nI i), .int (nI (tl k))] H = some (none, H) := by
    have c1 : ix_call X d 235 [.int (nI i), .int (nI (tl k)), .retAddr 1] H = some (some (.int (nI i)), H) := by
      simp (disch := first | assumption | omega | decide) only [e235, i235_0, i235_1, i235_4, i235_5, i235_6, i235_9, i235_10, i235_11, i235_16, i235_17, ix_pv_s, ix_pi_s, zpn, ix_po_s, ix_po_n, ix_ph_s, ix_bk_v, ix_bk_n, zcv, zcv_ne, ↓reduceIte, Nat.reduceEqDiff, zn_m1, zd_lt_p, zd_lt_n, zd_le_p, zd_le_n, zd_eq_p, zd_eq_n, zd_0_p, zd_0_n, zd_0lt_p, zd_0lt_n, zd_le0_p, zd_le0_n, zn_lt0, zn_le0, zn_add, zn_mul, zn_sub, zm_lt, zm_le, zm_eq, zb_1, zb_0, not_true_eq_false, not_false_eq_true]
    simp (disch := first | assumption | omega | decide) only [e228, i228_0, i228_1, i228_2, i228_5, i228_8, i228_9, ix_pv_s, ix_pi_s, zpn, ix_po_s, ix_po_n, ix_ph_s, ix_bk_v, ix_bk_n, zcv, zcv_ne, ↓reduceIte, Nat.reduceEqDiff, c1]
  have c2 : ix_call X (d + 2) 231 [.retAddr (2 + 2 * k + 1), .int (nI i)] H = some (some (.int (nI (ch k i))), H) := by
    simp (disch := first | assumption | omega | decide) only [e231, i231_0, i231_1, i231_2, i231_3, i231_6, i231_7, i231_8, i231_9, i231_12, i231_13, i231_14, ix_pv_s, ix_pi_s, zpn, ix_po_s, ix_po_n, ix_ph_s, ix_bk_v, ix_bk_n, zcv, zcv_ne, ↓reduceIte, Nat.reduceEqDiff, tx_len, c0, b1, n1, n2]
  have c3 := tx_latin (X := X) (d := d + 2) (H := H) hk
  simp (disch := first | assumption | omega | decide) only [e226, i226_0, i226_1, i226_4, i226_7, i226_8, i226_11, i226_12, i226_15, i226_16, i226_17, i226_20, i226_24, ix_pv_s, ix_pi_s, zpn, ix_po_s, ix_po_n, ix_ph_s, ix_bk_v, ix_bk_n, zcv, zcv_ne, ↓reduceIte, Nat.reduceEqDiff, zn_m1, zd_lt_p, zd_lt_n, zd_le_p, zd_le_n, zd_eq_p, zd_eq_n, zd_0_p, zd_0_n, zd_0lt_p, zd_0lt_n, zd_le0_p, zd_le0_n, zn_lt0, zn_le0, zn_add, zn_mul, zn_sub, zm_lt, zm_le, zm_eq, zb_1, zb_0, not_true_eq_false, not_false_eq_true, c3, c2]
theorem n_i8 {b : Nat} (h : b < 128) : (nI b).toInt8.toInt32 = nI b := by
  have key : ∀ b : Fin 128, (nI b).toInt8.toInt32 = nI b := by decide +kernel
  exact key ⟨b, h⟩
theorem tx_idxL {c : Nat} {x1 x2 : Option Value} (hk : k < 6) (hc : c < 128) : ∀ (m i : Nat), i + m = tl k → ix_sem X d 234 7 [some (.retAddr (2 + 2 * k + 1)), x1, x2, some (.int (nI (tl k))), some (.int (nI c)), some (.int (nI i))] [] H = some (some (.int (idxV k (nI c) m i)), H)
  | 0, i, e => by
    obtain ⟨l1, _⟩ := tl_5 hk
    simp (disch := first | assumption | omega | decide) only [i234_0, i234_1, i234_2, i234_4, i234_5, i234_7, i234_9, i234_10, i234_13, i234_14, i234_16, i234_17, i234_19, i234_22, i234_24, i234_25, i234_28, i234_31, i234_32, ix_pv_s, ix_pi_s, zpn, ix_po_s, ix_po_n, ix_ph_s, ix_bk_v, ix_bk_n, zcv, zcv_ne, ↓reduceIte, Nat.reduceEqDiff, zn_m1, zd_lt_p, zd_lt_n, zd_le_p, zd_le_n, zd_eq_p, zd_eq_n, zd_0_p, zd_0_n, zd_0lt_p, zd_0lt_n, zd_le0_p, zd_le0_n, zn_lt0, zn_le0, zn_add, zn_mul, zn_sub, zm_lt, zm_le, zm_eq, zb_1, zb_0, not_true_eq_false, not_false_eq_true, idxV]
  | m + 1, i, e => by
    obtain ⟨l1, _⟩ := tl_5 hk
    obtain ⟨b1, b2⟩ := tx_by hk (show i < tl k by omega)
    have ih := tx_idxL (x1 := x1) (x2 := x2) hk hc m (i + 1) (by omega)
    by_cases q : ch k i = c
    · have q' : nI c = nI (ch k i) := by rw [q]
      rw [idxV, if_pos q', i234_7]
      simp (disch := first | assumption | omega | decide) only [i234_0, i234_1, i234_2, i234_4, i234_5, i234_9, i234_10, i234_13, i234_14, i234_16, i234_17, i234_19, i234_22, i234_24, i234_25, i234_28, i234_31, i234_32, ix_pv_s, ix_pi_s, zpn, ix_po_s, ix_po_n, ix_ph_s, ix_bk_v, ix_bk_n, zcv, zcv_ne, ↓reduceIte, Nat.reduceEqDiff, zn_m1, zd_lt_p, zd_lt_n, zd_le_p, zd_le_n, zd_eq_p, zd_eq_n, zd_0_p, zd_0_n, zd_0lt_p, zd_0lt_n, zd_le0_p, zd_le0_n, zn_lt0, zn_le0, zn_add, zn_mul, zn_sub, zm_lt, zm_le, zm_eq, zb_1, zb_0, not_true_eq_false, not_false_eq_true, b1, q]
    · have q' : ¬ nI c = nI (ch k i) := fun e => q ((nI_eq (by omega) (by omega)).mp e).symm
      rw [idxV, if_neg q', ← ih, i234_7]
      simp (disch := first | assumption | omega | decide) only [i234_0, i234_1, i234_2, i234_4, i234_5, i234_9, i234_10, i234_13, i234_14, i234_16, i234_17, i234_19, i234_22, i234_24, i234_25, i234_28, i234_31, i234_32, ix_pv_s, ix_pi_s, zpn, ix_po_s, ix_po_n, ix_ph_s, ix_bk_v, ix_bk_n, zcv, zcv_ne, ↓reduceIte, Nat.reduceEqDiff, zn_m1, zd_lt_p, zd_lt_n, zd_le_p, zd_le_n, zd_eq_p, zd_eq_n, zd_0_p, zd_0_n, zd_0lt_p, zd_0lt_n, zd_le0_p, zd_le0_n, zn_lt0, zn_le0, zn_add, zn_mul, zn_sub, zm_lt, zm_le, zm_eq, zb_1, zb_0, not_true_eq_false, not_false_eq_true, b1]
theorem tx_index {c : Nat} (hk : k < 6) (hc : c < 128) : ix_call X (d + 3) 229 [.retAddr (2 + 2 * k), .int (nI c)] H = some (some (.int (idxV k (nI c) (tl k) 0)), H) := by
  obtain ⟨l1, l2⟩ := tl_5 hk
  have n8 := n_i8 hc
  have c0 : ix_call X d 234 [.retAddr (2 + 2 * k + 1), .int (nI c), .int (nI 0), .int (nI (tl k))] H = some (some (.int (idxV k (nI c) (tl k) 0)), H) := by
    refine Eq.trans ?_ (tx_idxL (X := X) (d := d) (H := H) (x1 := some (.int (nI c))) (x2 := some (.int (nI 0))) hk hc (tl k) 0 (by omega))
    simp (disch := first | assumption | omega | decide) only [e234, i234_0, i234_1, i234_2, i234_4, i234_5, i234_9, i234_10, i234_13, i234_14, i234_16, i234_17, i234_19, i234_22, i234_24, i234_25, i234_28, i234_31, i234_32, ix_pv_s, ix_pi_s, zpn, ix_po_s, ix_po_n, ix_ph_s, ix_bk_v, ix_bk_n, zcv, zcv_ne, ↓reduceIte, Nat.reduceEqDiff, n8]
  have c1 : ix_call X d 233 [.int (nI c)] H = some (some (.int (nI 1)), H) := by
    simp (disch := first | assumption | omega | decide) only [e233, i233_0, i233_1, i233_4, i233_5, i233_8, i233_11, i233_12, i233_15, i233_16, ix_pv_s, ix_pi_s, zpn, ix_po_s, ix_po_n, ix_ph_s, ix_bk_v, ix_bk_n, zcv, zcv_ne, ↓reduceIte, Nat.reduceEqDiff, zn_m1, zd_lt_p, zd_lt_n, zd_le_p, zd_le_n, zd_eq_p, zd_eq_n, zd_0_p, zd_0_n, zd_0lt_p, zd_0lt_n, zd_le0_p, zd_le0_n, zn_lt0, zn_le0, zn_add, zn_mul, zn_sub, zm_lt, zm_le, zm_eq, zb_1, zb_0, not_true_eq_false, not_false_eq_true]
  have c2 : ix_call X (d + 1) 232 [.retAddr (2 + 2 * k + 1), .int (nI c), .int (nI 0), .int (nI (tl k))] H = some (some (.int (idxV k (nI c) (tl k) 0)), H) := by
    simp (disch := first | assumption | omega | decide) only [e232, i232_0, i232_1, i232_4, i232_7, i232_8, i232_9, i232_10, i232_11, i232_14, i232_15, i232_16, i232_17, i232_18, i232_21, i232_22, i232_23, i232_24, i232_27, i232_28, i232_29, i232_30, i232_31, i232_32, i232_33, i232_36, ix_pv_s, ix_pi_s, zpn, ix_po_s, ix_po_n, ix_ph_s, ix_bk_v, ix_bk_n, zcv, zcv_ne, ↓reduceIte, Nat.reduceEqDiff, zn_m1, zd_lt_p, zd_lt_n, zd_le_p, zd_le_n, zd_eq_p, zd_eq_n, zd_0_p, zd_0_n, zd_0lt_p, zd_0lt_n, zd_le0_p, zd_le0_n, zn_lt0, zn_le0, zn_add, zn_mul, zn_sub, zm_lt, zm_le, zm_eq, zb_1, zb_0, not_true_eq_false, not_false_eq_true, tx_len, c1, c0]
  have c3 := tx_latin (X := X) (d := d + 1) (H := H) hk
  have c4 := tx_length (X := X) (d := d) (H := H) hk
  have c5 : ix_call X (d + 2) 230 [.retAddr (2 + 2 * k), .int (nI c), .int (nI 0)] H = some (some (.int (idxV k (nI c) (tl k) 0)), H) := by
    simp (disch := first | assumption | omega | decide) only [e230, i230_0, i230_1, i230_4, i230_7, i230_8, i230_11, i230_12, i230_13, i230_14, i230_17, i230_20, i230_23, i230_24, i230_27, i230_28, i230_29, i230_30, i230_36, ix_pv_s, ix_pi_s, zpn, ix_po_s, ix_po_n, ix_ph_s, ix_bk_v, ix_bk_n, zcv, zcv_ne, ↓reduceIte, Nat.reduceEqDiff, zn_m1, zd_lt_p, zd_lt_n, zd_le_p, zd_le_n, zd_eq_p, zd_eq_n, zd_0_p, zd_0_n, zd_0lt_p, zd_0lt_n, zd_le0_p, zd_le0_n, zn_lt0, zn_le0, zn_add, zn_mul, zn_sub, zm_lt, zm_le, zm_eq, zb_1, zb_0, not_true_eq_false, not_false_eq_true, c3, c4, c2]
  simp (disch := first | assumption | omega | decide) only [e229, i229_0, i229_1, i229_2, i229_3, i229_6, ix_pv_s, ix_pi_s, zpn, ix_po_s, ix_po_n, ix_ph_s, ix_bk_v, ix_bk_n, zcv, zcv_ne, ↓reduceIte, Nat.reduceEqDiff, c5]
theorem idx_or {x : Int32} : ∀ (m i : Nat), idxV k x m i = -1 ∨ ∃ j, i ≤ j ∧ j < i + m ∧ idxV k x m i = nI j ∧ x = nI (ch k j)
  | 0, i => Or.inl rfl
  | m + 1, i => by
    rw [idxV]
    by_cases q : x = nI (ch k i)
    · rw [if_pos q]
      exact Or.inr ⟨i, Nat.le_refl _, by omega, rfl, q⟩
    · rw [if_neg q]
      rcases idx_or m (i + 1) with h | ⟨j, h1, h2, h3⟩
      · exact Or.inl h
      · exact Or.inr ⟨j, by omega, by omega, h3⟩
end TX
