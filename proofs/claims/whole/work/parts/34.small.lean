/-! ===== the small methods of the program ===== -/
--need 20.rows 15.i02 15.i03 15.i04 33.mtells
section SM
variable {X : ix_X} {d : Nat} {τ : List fm_D} {μ : fm_M} {S : Nat → Int32} {n : Nat}
theorem cl_within {a b c : Int32} {h : ix_H} : ix_call X d 65 [.int a, .int b, .int c] h = some (some (.int (if b ≤ a ∧ a ≤ c then nI 1 else nI 0)), h) := by
  by_cases h1 : b ≤ a
  · have h1' : ¬ a < b := Int32.not_lt.mpr h1
    by_cases h2 : a ≤ c
    · have h2' : ¬ c < a := Int32.not_lt.mpr h2
      simp (disch := first | assumption | omega | decide) only [e65, i65_0, i65_1, i65_2, i65_5, i65_6, i65_7, i65_10, i65_11, i65_14, i65_15, ix_pv_s, ix_pi_s, zpn, ix_po_s, ix_po_n, ix_ph_s, ix_bk_v, ix_bk_n, zcv, zcv_ne, ↓reduceIte, Nat.reduceEqDiff, h1, h1', h2, h2', and_self]
    · have h2' : c < a := Int32.not_le.mp h2
      simp (disch := first | assumption | omega | decide) only [e65, i65_0, i65_1, i65_2, i65_5, i65_6, i65_7, i65_10, i65_11, i65_14, i65_15, ix_pv_s, ix_pi_s, zpn, ix_po_s, ix_po_n, ix_ph_s, ix_bk_v, ix_bk_n, zcv, zcv_ne, ↓reduceIte, Nat.reduceEqDiff, h1, h1', h2, h2', and_false]
  · have h1' : a < b := Int32.not_le.mp h1
    simp (disch := first | assumption | omega | decide) only [e65, i65_0, i65_1, i65_2, i65_5, i65_6, i65_7, i65_10, i65_11, i65_14, i65_15, ix_pv_s, ix_pi_s, zpn, ix_po_s, ix_po_n, ix_ph_s, ix_bk_v, ix_bk_n, zcv, zcv_ne, ↓reduceIte, Nat.reduceEqDiff, h1, h1', false_and]
theorem mo_in {a b c : Int32} {h : ix_H} : ix_call X d 134 [.int a, .int b, .int c] h = some (some (.int (if b ≤ a ∧ a ≤ c then nI 1 else nI 0)), h) := by
  by_cases h1 : b ≤ a
  · have h1' : ¬ a < b := Int32.not_lt.mpr h1
    by_cases h2 : a ≤ c
    · have h2' : ¬ c < a := Int32.not_lt.mpr h2
      simp (disch := first | assumption | omega | decide) only [e134, i134_0, i134_1, i134_2, i134_5, i134_6, i134_7, i134_10, i134_11, i134_14, i134_15, ix_pv_s, ix_pi_s, zpn, ix_po_s, ix_po_n, ix_ph_s, ix_bk_v, ix_bk_n, zcv, zcv_ne, ↓reduceIte, Nat.reduceEqDiff, h1, h1', h2, h2', and_self]
    · have h2' : c < a := Int32.not_le.mp h2
      simp (disch := first | assumption | omega | decide) only [e134, i134_0, i134_1, i134_2, i134_5, i134_6, i134_7, i134_10, i134_11, i134_14, i134_15, ix_pv_s, ix_pi_s, zpn, ix_po_s, ix_po_n, ix_ph_s, ix_bk_v, ix_bk_n, zcv, zcv_ne, ↓reduceIte, Nat.reduceEqDiff, h1, h1', h2, h2', and_false]
  · have h1' : a < b := Int32.not_le.mp h1
    simp (disch := first | assumption | omega | decide) only [e134, i134_0, i134_1, i134_2, i134_5, i134_6, i134_7, i134_10, i134_11, i134_14, i134_15, ix_pv_s, ix_pi_s, zpn, ix_po_s, ix_po_n, ix_ph_s, ix_bk_v, ix_bk_n, zcv, zcv_ne, ↓reduceIte, Nat.reduceEqDiff, h1, h1', false_and]
/-- the single numbers -/
def nbS (μ : fm_M) : Prop := μ 1 1 = nI 1 ∧ μ 1 4 = nI 5
theorem nb_A : rwA 1 5 := ⟨rfl, rfl, rfl⟩
theorem cl_number {k : Nat} (h : nbS μ) (hk : k < 5) : ix_call X (d + 1) 67 [.ref 0, .int (nI k)] (fm_W μ τ) = some (some (.int (μ 2 k)), fm_W μ τ) := by
  have hO : rwO 1 := rfl
  have h1 := rw_cell (X := X) (d := d) (τ := τ) (i := k) (c := 0) nb_A h.1 h.2 hk (by decide) (by decide) (by decide) (by decide) (by decide)
  rw [show k * 1 + 0 = k by omega] at h1
  simp (disch := first | assumption | omega | decide) only [e67, i67_0, i67_1, i67_4, i67_5, i67_6, i67_9, ix_pv_s, ix_pi_s, zpn, ix_po_s, ix_po_n, ix_ph_s, ix_bk_v, ix_bk_n, zcv, zcv_ne, ↓reduceIte, Nat.reduceEqDiff, t0_c, t0_g0, t0_g1, t0_g2, t0_g3, t0_g4, t0_g5, t0_g6, t0_g7, t0_g8, t0_g9, t0_g10, t0_s11, t0_g12, t0_s12, t0_g13, t0_g14, t0_g15, t0_g16, rw_c, h1]
theorem cl_now (h : nbS μ) : ix_call X (d + 1) 75 [.ref 0] (fm_W μ τ) = some (some (.int (μ 2 0)), fm_W μ τ) := by
  have hO : rwO 1 := rfl
  have h1 := rw_cell (X := X) (d := d) (τ := τ) (i := 0) (c := 0) nb_A h.1 h.2 (by decide) (by decide) (by decide) (by decide) (by decide) (by decide)
  simp (disch := first | assumption | omega | decide) only [e75, i75_0, i75_1, i75_4, i75_5, i75_6, i75_9, ix_pv_s, ix_pi_s, zpn, ix_po_s, ix_po_n, ix_ph_s, ix_bk_v, ix_bk_n, zcv, zcv_ne, ↓reduceIte, Nat.reduceEqDiff, t0_c, t0_g0, t0_g1, t0_g2, t0_g3, t0_g4, t0_g5, t0_g6, t0_g7, t0_g8, t0_g9, t0_g10, t0_s11, t0_g12, t0_s12, t0_g13, t0_g14, t0_g15, t0_g16, rw_c, h1]
theorem cl_setNumber {k : Nat} {x : Int32} (h : nbS μ) (hk : k < 5) : ix_call X (d + 1) 69 [.ref 0, .int (nI k), .int x] (fm_W μ τ) = some (some (.int (μ 2 k)), fm_W (fm_u μ 2 k x) τ) := by
  have hO : rwO 1 := rfl
  have h1 := rw_cell (X := X) (d := d) (τ := τ) (i := k) (c := 0) nb_A h.1 h.2 hk (by decide) (by decide) (by decide) (by decide) (by decide)
  have h2 := rw_set (X := X) (d := d) (τ := τ) (i := k) (c := 0) (x := x) nb_A h.1 h.2 hk (by decide) (by decide) (by decide) (by decide) (by decide)
  rw [show k * 1 + 0 = k by omega] at h1 h2
  simp (disch := first | assumption | omega | decide) only [e69, i69_0, i69_1, i69_4, i69_5, i69_6, i69_9, i69_10, i69_11, i69_14, i69_15, i69_16, i69_17, i69_20, i69_21, ix_pv_s, ix_pi_s, zpn, ix_po_s, ix_po_n, ix_ph_s, ix_bk_v, ix_bk_n, zcv, zcv_ne, ↓reduceIte, Nat.reduceEqDiff, t0_c, t0_g0, t0_g1, t0_g2, t0_g3, t0_g4, t0_g5, t0_g6, t0_g7, t0_g8, t0_g9, t0_g10, t0_s11, t0_g12, t0_s12, t0_g13, t0_g14, t0_g15, t0_g16, rw_c, h1, h2]
theorem cl_treeAt {i q : Nat} (h : nbS μ) (hn : μ 2 4 = nI n) (hn6 : n ≤ 6) (hi : i < n) (hq : μ 22 i = nI q) (hq31 : q < 2147483648) : ix_call X (d + 2) 74 [.ref 0, .int (nI i)] (fm_W μ τ) = some (some (.ref q), fm_W μ τ) := by
  have h1 := cl_number (X := X) (d := d) (τ := τ) (k := 4) h (by decide)
  rcases (by omega : n = 6 ∨ n < 6) with e | e
  · subst e
    simp (disch := first | assumption | omega | decide) only [e74, i74_0, i74_1, i74_2, i74_3, i74_4, i74_7, i74_8, i74_11, i74_12, i74_15, i74_16, i74_17, i74_20, i74_23, i74_24, i74_27, i74_28, i74_29, i74_32, i74_33, i74_33n, ix_pv_s, ix_pi_s, zpn, ix_po_s, ix_po_n, ix_ph_s, ix_bk_v, ix_bk_n, zcv, zcv_ne, ↓reduceIte, Nat.reduceEqDiff, zn_m1, zd_lt_p, zd_lt_n, zd_le_p, zd_le_n, zd_eq_p, zd_eq_n, zd_0_p, zd_0_n, zd_0lt_p, zd_0lt_n, zd_le0_p, zd_le0_n, zn_lt0, zn_le0, zn_add, zn_mul, zn_sub, zm_lt, zm_le, zm_eq, zb_1, zb_0, not_true_eq_false, not_false_eq_true, t0_c, t0_g0, t0_g1, t0_g2, t0_g3, t0_g4, t0_g5, t0_g6, t0_g7, t0_g8, t0_g9, t0_g10, t0_s11, t0_g12, t0_s12, t0_g13, t0_g14, t0_g15, t0_g16, rq_22, rq_23, rq_24, al_22, al_23, al_24, t0_c, h1, hn, cl_within, hq, fm_eq, and_self]
  · simp (disch := first | assumption | omega | decide) only [e74, i74_0, i74_1, i74_2, i74_3, i74_4, i74_7, i74_8, i74_11, i74_12, i74_15, i74_16, i74_17, i74_20, i74_23, i74_24, i74_27, i74_28, i74_29, i74_32, i74_33, i74_33n, ix_pv_s, ix_pi_s, zpn, ix_po_s, ix_po_n, ix_ph_s, ix_bk_v, ix_bk_n, zcv, zcv_ne, ↓reduceIte, Nat.reduceEqDiff, zn_m1, zd_lt_p, zd_lt_n, zd_le_p, zd_le_n, zd_eq_p, zd_eq_n, zd_0_p, zd_0_n, zd_0lt_p, zd_0lt_n, zd_le0_p, zd_le0_n, zn_lt0, zn_le0, zn_add, zn_mul, zn_sub, zm_lt, zm_le, zm_eq, zb_1, zb_0, not_true_eq_false, not_false_eq_true, t0_c, t0_g0, t0_g1, t0_g2, t0_g3, t0_g4, t0_g5, t0_g6, t0_g7, t0_g8, t0_g9, t0_g10, t0_s11, t0_g12, t0_s12, t0_g13, t0_g14, t0_g15, t0_g16, rq_22, rq_23, rq_24, al_22, al_23, al_24, t0_c, h1, hn, cl_within, hq, fm_eq, and_self]
theorem cl_treeNo {i : Int32} (h : nbS μ) (hn : μ 2 4 = nI n) (hn6 : n ≤ 6) (hi : i < 0 ∨ ∃ k, n ≤ k ∧ k < 2147483648 ∧ i = nI k) : ix_call X (d + 2) 74 [.ref 0, .int i] (fm_W μ τ) = some (some .null, fm_W μ τ) := by
  have h1 := cl_number (X := X) (d := d) (τ := τ) (k := 4) h (by decide)
  have hm1 : nI 0 - nI 1 = -1 := by decide
  rcases hi with hi | ⟨k, hk, hk31, rfl⟩
  · rcases (by omega : n = 6 ∨ n < 6) with e | e
    · subst e
      simp (disch := first | assumption | omega | decide) only [e74, i74_0, i74_1, i74_2, i74_3, i74_4, i74_7, i74_8, i74_11, i74_12, i74_15, i74_16, i74_17, i74_20, i74_23, i74_24, i74_27, i74_28, i74_29, i74_32, i74_33, i74_33n, ix_pv_s, ix_pi_s, zpn, ix_po_s, ix_po_n, ix_ph_s, ix_bk_v, ix_bk_n, zcv, zcv_ne, ↓reduceIte, Nat.reduceEqDiff, zn_m1, zd_lt_p, zd_lt_n, zd_le_p, zd_le_n, zd_eq_p, zd_eq_n, zd_0_p, zd_0_n, zd_0lt_p, zd_0lt_n, zd_le0_p, zd_le0_n, zn_lt0, zn_le0, zn_add, zn_mul, zn_sub, zm_lt, zm_le, zm_eq, zb_1, zb_0, not_true_eq_false, not_false_eq_true, t0_c, t0_g0, t0_g1, t0_g2, t0_g3, t0_g4, t0_g5, t0_g6, t0_g7, t0_g8, t0_g9, t0_g10, t0_s11, t0_g12, t0_s12, t0_g13, t0_g14, t0_g15, t0_g16, rq_22, rq_23, rq_24, al_22, al_23, al_24, t0_c, h1, hn, cl_within, zx_le hi, false_and]
    · simp (disch := first | assumption | omega | decide) only [e74, i74_0, i74_1, i74_2, i74_3, i74_4, i74_7, i74_8, i74_11, i74_12, i74_15, i74_16, i74_17, i74_20, i74_23, i74_24, i74_27, i74_28, i74_29, i74_32, i74_33, i74_33n, ix_pv_s, ix_pi_s, zpn, ix_po_s, ix_po_n, ix_ph_s, ix_bk_v, ix_bk_n, zcv, zcv_ne, ↓reduceIte, Nat.reduceEqDiff, zn_m1, zd_lt_p, zd_lt_n, zd_le_p, zd_le_n, zd_eq_p, zd_eq_n, zd_0_p, zd_0_n, zd_0lt_p, zd_0lt_n, zd_le0_p, zd_le0_n, zn_lt0, zn_le0, zn_add, zn_mul, zn_sub, zm_lt, zm_le, zm_eq, zb_1, zb_0, not_true_eq_false, not_false_eq_true, t0_c, t0_g0, t0_g1, t0_g2, t0_g3, t0_g4, t0_g5, t0_g6, t0_g7, t0_g8, t0_g9, t0_g10, t0_s11, t0_g12, t0_s12, t0_g13, t0_g14, t0_g15, t0_g16, rq_22, rq_23, rq_24, al_22, al_23, al_24, t0_c, h1, hn, cl_within, zx_le hi, false_and]
  · rcases (by omega : n = 6 ∨ n = 0 ∨ (0 < n ∧ n < 6)) with e | e | ⟨e1, e2⟩
    · subst e
      simp (disch := first | assumption | omega | decide) only [e74, i74_0, i74_1, i74_2, i74_3, i74_4, i74_7, i74_8, i74_11, i74_12, i74_15, i74_16, i74_17, i74_20, i74_23, i74_24, i74_27, i74_28, i74_29, i74_32, i74_33, i74_33n, ix_pv_s, ix_pi_s, zpn, ix_po_s, ix_po_n, ix_ph_s, ix_bk_v, ix_bk_n, zcv, zcv_ne, ↓reduceIte, Nat.reduceEqDiff, zn_m1, zd_lt_p, zd_lt_n, zd_le_p, zd_le_n, zd_eq_p, zd_eq_n, zd_0_p, zd_0_n, zd_0lt_p, zd_0lt_n, zd_le0_p, zd_le0_n, zn_lt0, zn_le0, zn_add, zn_mul, zn_sub, zm_lt, zm_le, zm_eq, zb_1, zb_0, not_true_eq_false, not_false_eq_true, t0_c, t0_g0, t0_g1, t0_g2, t0_g3, t0_g4, t0_g5, t0_g6, t0_g7, t0_g8, t0_g9, t0_g10, t0_s11, t0_g12, t0_s12, t0_g13, t0_g14, t0_g15, t0_g16, rq_22, rq_23, rq_24, al_22, al_23, al_24, t0_c, h1, hn, cl_within, and_false]
    · subst e
      have hle : (nI k ≤ (-1 : Int32)) = False := eq_false (fun hh => by
        have := zm_lt hk31
        exact absurd (Int32.lt_of_le_of_lt hh (show (-1 : Int32) < 0 by decide)) (nI_pos hk31))
      simp (disch := first | assumption | omega | decide) only [e74, i74_0, i74_1, i74_2, i74_3, i74_4, i74_7, i74_8, i74_11, i74_12, i74_15, i74_16, i74_17, i74_20, i74_23, i74_24, i74_27, i74_28, i74_29, i74_32, i74_33, i74_33n, ix_pv_s, ix_pi_s, zpn, ix_po_s, ix_po_n, ix_ph_s, ix_bk_v, ix_bk_n, zcv, zcv_ne, ↓reduceIte, Nat.reduceEqDiff, zn_m1, zd_lt_p, zd_lt_n, zd_le_p, zd_le_n, zd_eq_p, zd_eq_n, zd_0_p, zd_0_n, zd_0lt_p, zd_0lt_n, zd_le0_p, zd_le0_n, zn_lt0, zn_le0, zn_add, zn_mul, zn_sub, zm_lt, zm_le, zm_eq, zb_1, zb_0, not_true_eq_false, not_false_eq_true, t0_c, t0_g0, t0_g1, t0_g2, t0_g3, t0_g4, t0_g5, t0_g6, t0_g7, t0_g8, t0_g9, t0_g10, t0_s11, t0_g12, t0_s12, t0_g13, t0_g14, t0_g15, t0_g16, rq_22, rq_23, rq_24, al_22, al_23, al_24, t0_c, h1, hn, cl_within, hm1, hle, and_false]
    · simp (disch := first | assumption | omega | decide) only [e74, i74_0, i74_1, i74_2, i74_3, i74_4, i74_7, i74_8, i74_11, i74_12, i74_15, i74_16, i74_17, i74_20, i74_23, i74_24, i74_27, i74_28, i74_29, i74_32, i74_33, i74_33n, ix_pv_s, ix_pi_s, zpn, ix_po_s, ix_po_n, ix_ph_s, ix_bk_v, ix_bk_n, zcv, zcv_ne, ↓reduceIte, Nat.reduceEqDiff, zn_m1, zd_lt_p, zd_lt_n, zd_le_p, zd_le_n, zd_eq_p, zd_eq_n, zd_0_p, zd_0_n, zd_0lt_p, zd_0lt_n, zd_le0_p, zd_le0_n, zn_lt0, zn_le0, zn_add, zn_mul, zn_sub, zm_lt, zm_le, zm_eq, zb_1, zb_0, not_true_eq_false, not_false_eq_true, t0_c, t0_g0, t0_g1, t0_g2, t0_g3, t0_g4, t0_g5, t0_g6, t0_g7, t0_g8, t0_g9, t0_g10, t0_s11, t0_g12, t0_s12, t0_g13, t0_g14, t0_g15, t0_g16, rq_22, rq_23, rq_24, al_22, al_23, al_24, t0_c, h1, hn, cl_within, and_false]
end SM
