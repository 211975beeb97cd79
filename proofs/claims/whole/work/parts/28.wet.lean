/-! ===== what comes through a tree: the class's side ===== -/
--need 27.under
def trO (τ : List fm_D) (q c t : Nat) (rest : List Nat) : Prop := (fm_T ++ τ)[q]? = some (0, c, (54 + 2 * t) :: 0 :: 0 :: rest) ∧ 76 ≤ q ∧ ix_isin [0, 1, 2, 6, 7, 8, 9] c = true
section TR
variable {X : ix_X} {d : Nat} {τ : List fm_D} {μ : fm_M} {q c t : Nat} {rest : List Nat} {cs : List Nat}
theorem tr_c (h : trO τ q c t rest) : ix_cls (fm_W μ τ) q = some c := fm_cls h.1
theorem tr_g0 (h : trO τ q c t rest) (hc : ix_isin cs c = true) : ix_g (fm_W μ τ) q cs 0 = some (.ref (52 + 2 * t)) := fm_gR h.1 hc (by show some (54 + 2 * t) = _; rw [show 54 + 2 * t = 52 + 2 * t + 2 by omega])
theorem tr_g1 (h : trO τ q c t rest) (hc : ix_isin cs c = true) : ix_g (fm_W μ τ) q cs 1 = some (.int (μ q 1)) := fm_gI h.1 hc rfl
theorem tr_g2 (h : trO τ q c t rest) (hc : ix_isin cs c = true) : ix_g (fm_W μ τ) q cs 2 = some (.int (μ q 2)) := fm_gI h.1 hc rfl
theorem tr_s1 {x : Int32} (h : trO τ q c t rest) (hc : ix_isin cs c = true) : ix_s (fm_W μ τ) q cs 1 (.int x) = some (fm_W (fm_u μ q 1 x) τ) := fm_sI h.1 hc rfl
theorem tr_s2 {x : Int32} (h : trO τ q c t rest) (hc : ix_isin cs c = true) : ix_s (fm_W μ τ) q cs 2 (.int x) = some (fm_W (fm_u μ q 2 x) τ) := fm_sI h.1 hc rfl
theorem tr_k (h : trO τ q c t rest) : c = 0 ∨ c = 1 ∨ c = 2 ∨ c = 6 ∨ c = 7 ∨ c = 8 ∨ c = 9 := by
  have := h.2.2
  simpa [ix_isin] using this
theorem ev_mx {y : Int32} : (if nI 0 < y then y else nI 0) = ev_a y := by
  unfold ev_a
  by_cases h : y < 0
  · have h' : ¬ nI 0 < y := fun e => Int32.lt_irrefl (Int32.lt_trans (show (0 : Int32) < y from e) h)
    rw [if_pos h, if_neg h']
  · rw [if_neg h]
    by_cases e : nI 0 < y
    · rw [if_pos e]
    · rw [if_neg e]
      exact Int32.le_antisymm (Int32.not_lt.mp h) (Int32.not_lt.mp e)
theorem tr_through {x : Int32} (h : trO τ q c t rest) : ix_call X d 51 [.ref q, .int x] (fm_W μ τ) = some (some (.int (ev_a (x - μ q 1))), fm_W μ τ) := by
  have hc := h.2.2
  simp (disch := first | assumption | omega | decide) only [e51, i51_0, i51_1, i51_2, i51_3, i51_6, i51_7, i51_10, ix_pv_s, ix_pi_s, zpn, ix_po_s, ix_po_n, ix_ph_s, ix_bk_v, ix_bk_n, zcv, zcv_ne, ↓reduceIte, Nat.reduceEqDiff, tr_g1 h, ev_mx]
theorem tr_cv51 {as : List Value} {H : ix_H} (h : trO τ q c t rest) : ix_cv X d (some c) [(0, 51, 289), (1, 51, 289), (2, 51, 289), (6, 51, 289), (7, 51, 289), (8, 51, 289), (9, 51, 4)] as H = ix_call X d 51 as H := by
  rcases tr_k h with rfl | rfl | rfl | rfl | rfl | rfl | rfl <;> simp [ix_cv]
variable {S : Nat → Int32} {ps : List Nat} {p n m : Nat}
theorem spp_t (ht : t < 6) : spp t = 52 + 2 * t := if_neg (by omega)
theorem ck_aheadZ {x : Int32} {u : Nat} (h : ck μ S ps p n) (hu : u < n ∨ u = 6) (hx : x ≤ 0) : ∃ μ' : fm_M, ix_call X (d + 1) 35 [.ref (spp u), .int x] (fm_W μ τ) = some (some (.int (nI 0)), fm_W μ' τ) ∧ ck μ' S ps p n ∧ cf μ μ' := by
  by_cases h0 : x < 0
  · exact ck_aheadN h hu h0
  · have e : x = nI 0 := Int32.le_antisymm hx (Int32.not_lt.mp h0)
    subst e
    exact ck_ahead (m := 0) h hu (by omega)
theorem tr_wet (h : trO τ q c t rest) (hk : ck μ S ps p n) (ht : t < n) (hm : m < 1600) : ∃ μ' : fm_M, ix_call X (d + 2) 50 [.ref q, .int (nI m)] (fm_W μ τ) = some (some (.int (wT (rn S ps t) (μ q 1) m)), fm_W μ' τ) ∧ ck μ' S ps p n ∧ cf μ μ' := by
  have hn := hk.1
  have hc := h.2.2
  obtain ⟨μ1, a1, b1, c1⟩ := ck_ahead (X := X) (d := d) (τ := τ) (m := m + 1) hk (Or.inl ht) (by omega)
  obtain ⟨μ2, a2, b2, c2⟩ := ck_ahead (X := X) (d := d) (τ := τ) (m := m) b1 (Or.inl ht) (by omega)
  refine ⟨μ2, ?_, b2, cf_trans c1 c2⟩
  have hO := spp_O (u := t) (by omega)
  have q1 : μ1 q = μ q := c1.1 q (by have := h.2.1; omega)
  have q2 : μ2 q = μ1 q := c2.1 q (by have := h.2.1; omega)
  rw [spp_t (by omega)] at a1 a2 hO
  simp (disch := first | assumption | omega | decide) only [e50, i50_0, i50_1, i50_2, i50_5, i50_6, i50_7, i50_8, i50_11, i50_14, i50_15, i50_16, i50_19, i50_20, i50_23, i50_26, i50_27, ix_pv_s, ix_pi_s, zpn, ix_po_s, ix_po_n, ix_ph_s, ix_bk_v, ix_bk_n, zcv, zcv_ne, ↓reduceIte, Nat.reduceEqDiff, zn_m1, zd_lt_p, zd_lt_n, zd_le_p, zd_le_n, zd_eq_p, zd_eq_n, zd_0_p, zd_0_n, zd_0lt_p, zd_0lt_n, zd_le0_p, zd_le0_n, zn_lt0, zn_le0, zn_add, zn_mul, zn_sub, zm_lt, zm_le, zm_eq, zb_1, zb_0, not_true_eq_false, not_false_eq_true, tr_g0 h, tr_c h, tr_cv51 h, sp_c, a1, a2, tr_through h, q1, q2, wT]
theorem tr_wetZ {x : Int32} (h : trO τ q c t rest) (hk : ck μ S ps p n) (ht : t < n) (hx : x ≤ 0) (hx1 : x + nI 1 ≤ 0) : ∃ μ' : fm_M, ix_call X (d + 2) 50 [.ref q, .int x] (fm_W μ τ) = some (some (.int (nI 0)), fm_W μ' τ) ∧ ck μ' S ps p n ∧ cf μ μ' := by
  have hn := hk.1
  have hc := h.2.2
  obtain ⟨μ1, a1, b1, c1⟩ := ck_aheadZ (X := X) (d := d) (τ := τ) hk (Or.inl ht) hx1
  obtain ⟨μ2, a2, b2, c2⟩ := ck_aheadZ (X := X) (d := d) (τ := τ) b1 (Or.inl ht) hx
  refine ⟨μ2, ?_, b2, cf_trans c1 c2⟩
  have hO := spp_O (u := t) (by omega)
  have q1 : μ1 q = μ q := c1.1 q (by have := h.2.1; omega)
  have q2 : μ2 q = μ1 q := c2.1 q (by have := h.2.1; omega)
  rw [spp_t (by omega)] at a1 a2 hO
  have e0 : ev_a (nI 0 - μ q 1) - ev_a (nI 0 - μ q 1) = nI 0 := Int32.sub_self _
  simp (disch := first | assumption | omega | decide) only [e50, i50_0, i50_1, i50_2, i50_5, i50_6, i50_7, i50_8, i50_11, i50_14, i50_15, i50_16, i50_19, i50_20, i50_23, i50_26, i50_27, ix_pv_s, ix_pi_s, zpn, ix_po_s, ix_po_n, ix_ph_s, ix_bk_v, ix_bk_n, zcv, zcv_ne, ↓reduceIte, Nat.reduceEqDiff, zn_m1, zd_lt_p, zd_lt_n, zd_le_p, zd_le_n, zd_eq_p, zd_eq_n, zd_0_p, zd_0_n, zd_0lt_p, zd_0lt_n, zd_le0_p, zd_le0_n, zn_lt0, zn_le0, zn_add, zn_mul, zn_sub, zm_lt, zm_le, zm_eq, zb_1, zb_0, not_true_eq_false, not_false_eq_true, tr_g0 h, tr_c h, tr_cv51 h, sp_c, a1, a2, tr_through h, q1, q2, e0]
theorem tr_above (h : trO τ q c t rest) (hk : ck μ S ps p n) (ht : t < n) (hm : m < 1600) : ∃ μ' : fm_M, ix_call X (d + 2) 49 [.ref q, .int (nI m)] (fm_W μ τ) = some (some (.int (bI (decide (μ q 1 < sS (rn S ps t) (m + 1))))), fm_W μ' τ) ∧ ck μ' S ps p n ∧ cf μ μ' := by
  have hn := hk.1
  have hc := h.2.2
  obtain ⟨μ1, a1, b1, c1⟩ := ck_ahead (X := X) (d := d) (τ := τ) (m := m + 1) hk (Or.inl ht) (by omega)
  refine ⟨μ1, ?_, b1, c1⟩
  have hO := spp_O (u := t) (by omega)
  have q1 : μ1 q = μ q := c1.1 q (by have := h.2.1; omega)
  rw [spp_t (by omega)] at a1 hO
  by_cases hq : μ q 1 < sS (rn S ps t) (m + 1)
  · have hq' : ¬ sS (rn S ps t) (m + 1) ≤ μ q 1 := Int32.not_le.mpr hq
    simp (disch := first | assumption | omega | decide) only [e49, i49_0, i49_1, i49_4, i49_5, i49_6, i49_7, i49_10, i49_11, i49_14, i49_17, i49_18, i49_21, i49_22, ix_pv_s, ix_pi_s, zpn, ix_po_s, ix_po_n, ix_ph_s, ix_bk_v, ix_bk_n, zcv, zcv_ne, ↓reduceIte, Nat.reduceEqDiff, zn_m1, zd_lt_p, zd_lt_n, zd_le_p, zd_le_n, zd_eq_p, zd_eq_n, zd_0_p, zd_0_n, zd_0lt_p, zd_0lt_n, zd_le0_p, zd_le0_n, zn_lt0, zn_le0, zn_add, zn_mul, zn_sub, zm_lt, zm_le, zm_eq, zb_1, zb_0, not_true_eq_false, not_false_eq_true, tr_g0 h, tr_g1 h, sp_c, a1, q1, hq, hq', decide_true, bI_t]
  · have hq' : sS (rn S ps t) (m + 1) ≤ μ q 1 := Int32.not_lt.mp hq
    simp (disch := first | assumption | omega | decide) only [e49, i49_0, i49_1, i49_4, i49_5, i49_6, i49_7, i49_10, i49_11, i49_14, i49_17, i49_18, i49_21, i49_22, ix_pv_s, ix_pi_s, zpn, ix_po_s, ix_po_n, ix_ph_s, ix_bk_v, ix_bk_n, zcv, zcv_ne, ↓reduceIte, Nat.reduceEqDiff, zn_m1, zd_lt_p, zd_lt_n, zd_le_p, zd_le_n, zd_eq_p, zd_eq_n, zd_0_p, zd_0_n, zd_0lt_p, zd_0lt_n, zd_le0_p, zd_le0_n, zn_lt0, zn_le0, zn_add, zn_mul, zn_sub, zm_lt, zm_le, zm_eq, zb_1, zb_0, not_true_eq_false, not_false_eq_true, tr_g0 h, tr_g1 h, sp_c, a1, q1, hq, hq', decide_false, bI_f]
end TR
