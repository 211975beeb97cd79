/-! ===== pace, coat, outcome of a trip ===== -/
--need 34.small
/-- the walkers' rows -/
def waS (μ : fm_M) (S : Nat → Int32) (w : Nat) : Prop := μ 7 0 = nI 5 ∧ μ 7 1 = nI 2 ∧ μ 7 4 = nI w ∧ w ≤ 5 ∧ ∀ i, i < w → μ 8 (i * 2) = S (59 + i) ∧ μ 8 (i * 2 + 1) = S (64 + i)
/-- the park that is held: its place, what soaks, what waiting costs -/
def heS (μ : fm_M) (S : Nat → Int32) (p : Nat) : Prop := pkO p ∧ μ 0 11 = nI p ∧ μ p 0 = skS S ∧ μ p 1 = wtS S
section OU
variable {X : ix_X} {d : Nat} {τ : List fm_D} {μ : fm_M} {S : Nat → Int32} {n p w : Nat}
theorem wa_A : rwA 7 10 := ⟨rfl, rfl, rfl⟩
theorem cl_pace {i : Nat} (h : waS μ S w) (hi : i < w) : ix_call X (d + 1) 81 [.ref 0, .int (nI i)] (fm_W μ τ) = some (some (.int (S (59 + i))), fm_W μ τ) := by
  obtain ⟨h0, h1, h2, h5, h3⟩ := h
  have hO : rwO 7 := rfl
  have k1 := rw_cell (X := X) (d := d) (τ := τ) (i := i) (c := 0) wa_A h1 h2 hi (by decide) (by omega) (by decide) (by omega) (by decide)
  rw [show μ (7 + 1) (i * 2 + 0) = S (59 + i) from (h3 i hi).1] at k1
  simp (disch := first | assumption | omega | decide) only [e81, i81_0, i81_1, i81_4, i81_5, i81_6, i81_9, ix_pv_s, ix_pi_s, zpn, ix_po_s, ix_po_n, ix_ph_s, ix_bk_v, ix_bk_n, zcv, zcv_ne, ↓reduceIte, Nat.reduceEqDiff, t0_c, t0_g0, t0_g1, t0_g2, t0_g3, t0_g4, t0_g5, t0_g6, t0_g7, t0_g8, t0_g9, t0_g10, t0_s11, t0_g12, t0_s12, t0_g13, t0_g14, t0_g15, t0_g16, rw_c, k1]
theorem cl_coat {i : Nat} (h : waS μ S w) (hi : i < w) : ix_call X (d + 1) 90 [.ref 0, .int (nI i)] (fm_W μ τ) = some (some (.int (S (64 + i))), fm_W μ τ) := by
  obtain ⟨h0, h1, h2, h5, h3⟩ := h
  have hO : rwO 7 := rfl
  have k1 := rw_cell (X := X) (d := d) (τ := τ) (i := i) (c := 1) wa_A h1 h2 hi (by decide) (by omega) (by decide) (by omega) (by decide)
  rw [show μ (7 + 1) (i * 2 + 1) = S (64 + i) from (h3 i hi).2] at k1
  simp (disch := first | assumption | omega | decide) only [e90, i90_0, i90_1, i90_4, i90_5, i90_6, i90_9, ix_pv_s, ix_pi_s, zpn, ix_po_s, ix_po_n, ix_ph_s, ix_bk_v, ix_bk_n, zcv, zcv_ne, ↓reduceIte, Nat.reduceEqDiff, t0_c, t0_g0, t0_g1, t0_g2, t0_g3, t0_g4, t0_g5, t0_g6, t0_g7, t0_g8, t0_g9, t0_g10, t0_s11, t0_g12, t0_s12, t0_g13, t0_g14, t0_g15, t0_g16, rw_c, k1]
theorem mn_wb {gt coat : Int32} : (if ev_a (gt - coat) < skS S then ev_a (gt - coat) else skS S) = wbS S gt coat := by
  unfold wbS
  by_cases h : ev_a (gt - coat) < skS S
  · have h' : ¬ skS S < ev_a (gt - coat) := fun e => Int32.lt_irrefl (Int32.lt_trans e h)
    rw [if_pos h, if_neg h']
  · rw [if_neg h]
    by_cases e : skS S < ev_a (gt - coat)
    · rw [if_pos e]
    · rw [if_neg e]
      exact Int32.le_antisymm (Int32.not_lt.mp h) (Int32.not_lt.mp e)
theorem cl_wetBy {gt coat : Int32} (h : heS μ S p) : ix_call X d 91 [.ref 0, .int gt, .int coat] (fm_W μ τ) = some (some (.int (wbS S gt coat)), fm_W μ τ) := by
  obtain ⟨hO, h1, h2, h3⟩ := h
  have h31 : p < 2147483648 := by have := pk_cases hO; omega
  simp (disch := first | assumption | omega | decide) only [e91, i91_0, i91_1, i91_4, i91_7, i91_8, i91_9, i91_10, i91_11, i91_14, i91_17, ix_pv_s, ix_pi_s, zpn, ix_po_s, ix_po_n, ix_ph_s, ix_bk_v, ix_bk_n, zcv, zcv_ne, ↓reduceIte, Nat.reduceEqDiff, zn_m1, zd_lt_p, zd_lt_n, zd_le_p, zd_le_n, zd_eq_p, zd_eq_n, zd_0_p, zd_0_n, zd_0lt_p, zd_0lt_n, zd_le0_p, zd_le0_n, zn_lt0, zn_le0, zn_add, zn_mul, zn_sub, zm_lt, zm_le, zm_eq, zb_1, zb_0, not_true_eq_false, not_false_eq_true, t0_c, t0_g0, t0_g1, t0_g2, t0_g3, t0_g4, t0_g5, t0_g6, t0_g7, t0_g8, t0_g9, t0_g10, t0_s11, t0_g12, t0_s12, t0_g13, t0_g14, t0_g15, t0_g16, t0_g11 h1, pk_g0 hO, h2, ev_mx, mn_wb]
theorem cl_outcome {r pace pl mn now i what : Nat} {gt : Int32} (hr : tpO r) (ht : tri μ r pace pl mn gt) (hb : nbS μ) (h8 : μ 2 0 = nI now) (hnw : now ≤ mn) (hw : waS μ S w) (hi : i < w) (he : heS μ S p) (hwh : what ≤ 2) : ix_call X (d + 2) 89 [.ref 0, .ref r, .int (nI i), .int (nI what)] (fm_W μ τ) = some (some (.int (tlS S (S (64 + i)) what (mn - now) gt)), fm_W μ τ) := by
  obtain ⟨t1, t2, t3, t4⟩ := ht
  have k1 := cl_now (X := X) (d := d) (τ := τ) hb
  have k2 := cl_coat (X := X) (d := d) (τ := τ) hw hi
  have k3 := cl_wetBy (X := X) (d := d + 1) (τ := τ) (gt := gt) (coat := S (64 + i)) he
  obtain ⟨hO, h1, h2, h3⟩ := he
  have h31 : p < 2147483648 := by have := pk_cases hO; omega
  rcases (by omega : what = 0 ∨ what = 1 ∨ what = 2) with rfl | rfl | rfl <;> simp (disch := first | assumption | omega | decide) only [e89, i89_0, i89_0n, i89_1, i89_4, i89_5, i89_8, i89_9, i89_11, i89_12, i89_13, i89_16, i89_18, i89_19, i89_20, i89_20n, i89_21, i89_24, i89_25, i89_26, i89_29, i89_32, i89_34, i89_35, i89_38, i89_40, i89_43, i89_45, i89_46, i89_49, i89_52, i89_54, i89_55, i89_56, ix_pv_s, ix_pi_s, zpn, ix_po_s, ix_po_n, ix_ph_s, ix_bk_v, ix_bk_n, zcv, zcv_ne, ↓reduceIte, Nat.reduceEqDiff, zn_m1, zd_lt_p, zd_lt_n, zd_le_p, zd_le_n, zd_eq_p, zd_eq_n, zd_0_p, zd_0_n, zd_0lt_p, zd_0lt_n, zd_le0_p, zd_le0_n, zn_lt0, zn_le0, zn_add, zn_mul, zn_sub, zm_lt, zm_le, zm_eq, zb_1, zb_0, not_true_eq_false, not_false_eq_true, t0_c, t0_g0, t0_g1, t0_g2, t0_g3, t0_g4, t0_g5, t0_g6, t0_g7, t0_g8, t0_g9, t0_g10, t0_s11, t0_g12, t0_s12, t0_g13, t0_g14, t0_g15, t0_g16, t0_c, t0_g11 h1, pk_g1 hO, tp_c, tp_g0, tp_g1, tp_s1, tp_g2, tp_s2, tp_g3, tp_s3, tp_g4, tp_s4, t3, t4, k1, k2, k3, h3, h8, tlS, not_true_eq_false]
end OU
