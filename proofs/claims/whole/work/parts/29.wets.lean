/-! ===== what comes through a tree, class by class ===== -/
--need 28.wet
section TV
variable {X : ix_X} {d : Nat} {τ : List fm_D} {μ : fm_M} {q c t : Nat} {rest : List Nat}
variable {S : Nat → Int32} {ps : List Nat} {p n m : Nat}
theorem tr_thick (hc6 : c = 1 ∨ c = 6) (h : trO τ q c t rest) (hk : ck μ S ps p n) (ht : t < n) (hm : m < 1600) : ∃ μ' : fm_M, ix_call X (d + 3) 37 [.ref q, .int (nI m)] (fm_W μ τ) = some (some (.int (wT (rn S ps t) (μ q 1) m / nI 2)), fm_W μ' τ) ∧ ck μ' S ps p n ∧ cf μ μ' := by
  obtain ⟨μ1, a1, b1, c1⟩ := tr_wet (X := X) (d := d) h hk ht hm
  refine ⟨μ1, ?_, b1, c1⟩
  rcases hc6 with rfl | rfl
  · simp (disch := first | assumption | omega | decide) only [e37, i37_0, i37_1, i37_2, i37_5, i37_6, i37_7, ix_pv_s, ix_pi_s, zpn, ix_po_s, ix_po_n, ix_ph_s, ix_bk_v, ix_bk_n, zcv, zcv_ne, ↓reduceIte, Nat.reduceEqDiff, zn_m1, zd_lt_p, zd_lt_n, zd_le_p, zd_le_n, zd_eq_p, zd_eq_n, zd_0_p, zd_0_n, zd_0lt_p, zd_0lt_n, zd_le0_p, zd_le0_n, zn_lt0, zn_le0, zn_add, zn_mul, zn_sub, zm_lt, zm_le, zm_eq, zb_1, zb_0, not_true_eq_false, not_false_eq_true, tr_c h, a1]
  · simp (disch := first | assumption | omega | decide) only [e37, i37_0, i37_1, i37_2, i37_5, i37_6, i37_7, ix_pv_s, ix_pi_s, zpn, ix_po_s, ix_po_n, ix_ph_s, ix_bk_v, ix_bk_n, zcv, zcv_ne, ↓reduceIte, Nat.reduceEqDiff, zn_m1, zd_lt_p, zd_lt_n, zd_le_p, zd_le_n, zd_eq_p, zd_eq_n, zd_0_p, zd_0_n, zd_0lt_p, zd_0lt_n, zd_le0_p, zd_le0_n, zn_lt0, zn_le0, zn_add, zn_mul, zn_sub, zm_lt, zm_le, zm_eq, zb_1, zb_0, not_true_eq_false, not_false_eq_true, tr_c h, a1]
theorem tr_thin (hc6 : c = 0 ∨ c = 7) (h : trO τ q c t rest) (hk : ck μ S ps p n) (ht : t < n) (hm : m < 1600) : ∃ μ' : fm_M, ix_call X (d + 3) 40 [.ref q, .int (nI m)] (fm_W μ τ) = some (some (.int (wThin (rn S ps t) (μ q 1) (S (17 + t)) m)), fm_W μ' τ) ∧ ck μ' S ps p n ∧ cf μ μ' := by
  have hn := hk.1
  obtain ⟨μ1, a1, b1, c1⟩ := ck_rainAt (X := X) (d := d) (τ := τ) hk (Or.inl ht) hm
  obtain ⟨μ2, a2, b2, c2⟩ := ck_ahead (X := X) (d := d + 1) (τ := τ) (m := m + 1) b1 (Or.inl ht) (by omega)
  refine ⟨μ2, ?_, b2, cf_trans c1 c2⟩
  have hO := spp_O (u := t) (by omega)
  have q1 : μ1 q = μ q := c1.1 q (by have := h.2.1; omega)
  have q2 : μ2 q = μ1 q := c2.1 q (by have := h.2.1; omega)
  have hv : μ2 (52 + 2 * t) 5 = S (17 + t) := by
    have := (b2.2.2 t (Or.inl ht)).2.2.2.1
    rw [spp_t (by omega), if_neg (by omega)] at this
    exact this
  rw [spp_t (by omega)] at a1 a2 hO
  unfold wThin
  by_cases hq : μ q 1 ≤ sS (rn S ps t) (m + 1)
  · have hq' : ¬ sS (rn S ps t) (m + 1) < μ q 1 := Int32.not_lt.mpr hq
    rcases hc6 with rfl | rfl <;> simp (disch := first | assumption | omega | decide) only [e40, i40_0, i40_1, i40_4, i40_5, i40_8, i40_9, i40_10, i40_13, i40_14, i40_15, i40_16, i40_19, i40_20, i40_23, i40_26, i40_27, i40_30, i40_31, i40_32, i40_33, i40_36, i40_39, i40_40, i40_43, ix_pv_s, ix_pi_s, zpn, ix_po_s, ix_po_n, ix_ph_s, ix_bk_v, ix_bk_n, zcv, zcv_ne, ↓reduceIte, Nat.reduceEqDiff, zn_m1, zd_lt_p, zd_lt_n, zd_le_p, zd_le_n, zd_eq_p, zd_eq_n, zd_0_p, zd_0_n, zd_0lt_p, zd_0lt_n, zd_le0_p, zd_le0_n, zn_lt0, zn_le0, zn_add, zn_mul, zn_sub, zm_lt, zm_le, zm_eq, zb_1, zb_0, not_true_eq_false, not_false_eq_true, tr_c h, tr_g0 h, tr_g1 h, sp_c, a1, a2, q1, q2, hq, hq']
  · have hq' : sS (rn S ps t) (m + 1) < μ q 1 := Int32.not_le.mp hq
    rcases hc6 with rfl | rfl <;> simp (disch := first | assumption | omega | decide) only [e40, i40_0, i40_1, i40_4, i40_5, i40_8, i40_9, i40_10, i40_13, i40_14, i40_15, i40_16, i40_19, i40_20, i40_23, i40_26, i40_27, i40_30, i40_31, i40_32, i40_33, i40_36, i40_39, i40_40, i40_43, ix_pv_s, ix_pi_s, zpn, ix_po_s, ix_po_n, ix_ph_s, ix_bk_v, ix_bk_n, zcv, zcv_ne, ↓reduceIte, Nat.reduceEqDiff, zn_m1, zd_lt_p, zd_lt_n, zd_le_p, zd_le_n, zd_eq_p, zd_eq_n, zd_0_p, zd_0_n, zd_0lt_p, zd_0lt_n, zd_le0_p, zd_le0_n, zn_lt0, zn_le0, zn_add, zn_mul, zn_sub, zm_lt, zm_le, zm_eq, zb_1, zb_0, not_true_eq_false, not_false_eq_true, tr_c h, tr_g0 h, tr_g1 h, sp_c, sp_g5, hv, a1, a2, q1, q2, hq, hq', ev_mx]
theorem lt_neg {m v : Nat} (h : m < v) (hv : v ≤ 9) : nI m - nI v ≤ 0 ∧ nI m - nI v + nI 1 ≤ 0 := by
  have key : ∀ (m v : Fin 10), (m : Nat) < v → nI m - nI v ≤ 0 ∧ nI m - nI v + nI 1 ≤ 0 := by decide +kernel
  exact key ⟨m, by omega⟩ ⟨v, by omega⟩ h
theorem tr_late {v : Nat} (hc6 : c = 2 ∨ c = 8) (h : trO τ q c t rest) (hk : ck μ S ps p n) (ht : t < n) (hm : m < 1600) (hv : S (17 + t) = nI v) (hv9 : v ≤ 9) : ∃ μ' : fm_M, ix_call X (d + 3) 7 [.ref q, .int (nI m)] (fm_W μ τ) = some (some (.int (wLate (rn S ps t) (μ q 1) v m)), fm_W μ' τ) ∧ ck μ' S ps p n ∧ cf μ μ' := by
  have hn := hk.1
  have hO := spp_O (u := t) (by omega)
  rw [spp_t (by omega)] at hO
  have hv5 : μ (52 + 2 * t) 5 = nI v := by
    have := (hk.2.2 t (Or.inl ht)).2.2.2.1
    rw [spp_t (by omega), if_neg (by omega), hv] at this
    exact this
  obtain ⟨μ1, a1, b1, c1⟩ : ∃ μ' : fm_M, ix_call X (d + 2) 50 [.ref q, .int (nI m - nI v)] (fm_W μ τ) = some (some (.int (if m < v then nI 0 else wT (rn S ps t) (μ q 1) (m - v))), fm_W μ' τ) ∧ ck μ' S ps p n ∧ cf μ μ' := by
    by_cases hmv : m < v
    · rw [if_pos hmv]
      obtain ⟨k1, k2⟩ := lt_neg hmv hv9
      exact tr_wetZ h hk ht k1 k2
    · rw [if_neg hmv, zn_sub (by omega)]
      exact tr_wet h hk ht (by omega)
  have q1 : μ1 q = μ q := c1.1 q (by have := h.2.1; omega)
  unfold wLate
  by_cases h0 : (if m < v then nI 0 else wT (rn S ps t) (μ q 1) (m - v)) = 0
  · obtain ⟨μ2, a2, b2, c2⟩ := tr_above (X := X) (d := d) h b1 ht hm
    rw [q1] at a2
    refine ⟨μ2, ?_, b2, cf_trans c1 c2⟩
    generalize (if m < v then nI 0 else wT (rn S ps t) (μ q 1) (m - v)) = z at *
    by_cases hq : μ q 1 < sS (rn S ps t) (m + 1)
    · simp only [hq, decide_true, bI_t] at a2
      rw [if_pos ⟨h0, hq⟩]
      rcases hc6 with rfl | rfl <;> simp (disch := first | assumption | omega | decide) only [e7, i7_0, i7_1, i7_2, i7_3, i7_6, i7_9, i7_10, i7_13, i7_14, i7_15, i7_18, i7_19, i7_20, i7_23, i7_26, i7_27, i7_30, i7_31, ix_pv_s, ix_pi_s, zpn, ix_po_s, ix_po_n, ix_ph_s, ix_bk_v, ix_bk_n, zcv, zcv_ne, ↓reduceIte, Nat.reduceEqDiff, zn_m1, zd_lt_p, zd_lt_n, zd_le_p, zd_le_n, zd_eq_p, zd_eq_n, zd_0_p, zd_0_n, zd_0lt_p, zd_0lt_n, zd_le0_p, zd_le0_n, zn_lt0, zn_le0, zn_add, zn_mul, zn_sub, zm_lt, zm_le, zm_eq, zb_1, zb_0, not_true_eq_false, not_false_eq_true, tr_c h, tr_g0 h, sp_g5, hv5, sp_c, a1, a2, h0, not_true_eq_false]
    · simp only [hq, decide_false, bI_f] at a2
      rw [if_neg (fun e => hq e.2)]
      rcases hc6 with rfl | rfl <;> simp (disch := first | assumption | omega | decide) only [e7, i7_0, i7_1, i7_2, i7_3, i7_6, i7_9, i7_10, i7_13, i7_14, i7_15, i7_18, i7_19, i7_20, i7_23, i7_26, i7_27, i7_30, i7_31, ix_pv_s, ix_pi_s, zpn, ix_po_s, ix_po_n, ix_ph_s, ix_bk_v, ix_bk_n, zcv, zcv_ne, ↓reduceIte, Nat.reduceEqDiff, zn_m1, zd_lt_p, zd_lt_n, zd_le_p, zd_le_n, zd_eq_p, zd_eq_n, zd_0_p, zd_0_n, zd_0lt_p, zd_0lt_n, zd_le0_p, zd_le0_n, zn_lt0, zn_le0, zn_add, zn_mul, zn_sub, zm_lt, zm_le, zm_eq, zb_1, zb_0, not_true_eq_false, not_false_eq_true, tr_c h, tr_g0 h, sp_g5, hv5, sp_c, a1, a2, h0, not_true_eq_false]
  · refine ⟨μ1, ?_, b1, c1⟩
    rw [if_neg (fun e => h0 e.1)]
    generalize (if m < v then nI 0 else wT (rn S ps t) (μ q 1) (m - v)) = z at *
    rcases hc6 with rfl | rfl <;> simp (disch := first | assumption | omega | decide) only [e7, i7_0, i7_1, i7_2, i7_3, i7_6, i7_9, i7_10, i7_13, i7_14, i7_15, i7_18, i7_19, i7_20, i7_23, i7_26, i7_27, i7_30, i7_31, ix_pv_s, ix_pi_s, zpn, ix_po_s, ix_po_n, ix_ph_s, ix_bk_v, ix_bk_n, zcv, zcv_ne, ↓reduceIte, Nat.reduceEqDiff, zn_m1, zd_lt_p, zd_lt_n, zd_le_p, zd_le_n, zd_eq_p, zd_eq_n, zd_0_p, zd_0_n, zd_0lt_p, zd_0lt_n, zd_le0_p, zd_le0_n, zn_lt0, zn_le0, zn_add, zn_mul, zn_sub, zm_lt, zm_le, zm_eq, zb_1, zb_0, not_true_eq_false, not_false_eq_true, tr_c h, tr_g0 h, sp_g5, hv5, sp_c, a1, h0]
theorem sp_num {u : Nat} (hk : ck μ S ps p n) (ht : u < n) : μ (52 + 2 * u) 3 = nI u ∧ μ (52 + 2 * u) 4 = S (11 + u) ∧ μ (52 + 2 * u) 5 = S (17 + u) ∧ spO (52 + 2 * u) := by
  have hn := hk.1
  obtain ⟨_, a, b, c, _⟩ := hk.2.2 u (Or.inl ht)
  have hO := spp_O (u := u) (by omega)
  rw [spp_t (by omega)] at a b c hO
  rw [if_neg (by omega)] at a b c
  exact ⟨a, b, c, hO⟩
theorem tr_hollow {v : Nat} (h : trO τ q 1 t rest) (hk : ck μ S ps p n) (ht : t < n) (hm : m < 1600) (hv : S (17 + t) = nI v) (hv9 : v ≤ 9) : ∃ μ' : fm_M, ix_call X (d + 4) 4 [.ref q, .int (nI m)] (fm_W μ τ) = some (some (.int (if m % (v + 1) = 0 then nI 0 else wT (rn S ps t) (μ q 1) m / nI 2)), fm_W μ' τ) ∧ ck μ' S ps p n ∧ cf μ μ' := by
  obtain ⟨_, _, hv5, hO⟩ := sp_num hk ht
  rw [hv] at hv5
  have hy : ¬ nI (v + 1) = 0 := by rw [zn_eq0 (by omega)]; omega
  have hdm := Nat.div_mul_le_self m (v + 1)
  by_cases hr : m % (v + 1) = 0
  · refine ⟨μ, ?_, hk, cf_refl⟩
    simp (disch := first | assumption | omega | decide) only [e4, i4_0, i4_1, i4_4, i4_7, i4_8, i4_9, i4_10, i4_11, i4_12, i4_15, i4_16, i4_17, i4_18, i4_21, i4_22, i4_25, i4_26, i4_27, i4_30, ix_pv_s, ix_pi_s, zpn, ix_po_s, ix_po_n, ix_ph_s, ix_bk_v, ix_bk_n, zcv, zcv_ne, ↓reduceIte, Nat.reduceEqDiff, zn_m1, zd_lt_p, zd_lt_n, zd_le_p, zd_le_n, zd_eq_p, zd_eq_n, zd_0_p, zd_0_n, zd_0lt_p, zd_0lt_n, zd_le0_p, zd_le0_n, zn_lt0, zn_le0, zn_add, zn_mul, zn_sub, zm_lt, zm_le, zm_eq, zb_1, zb_0, not_true_eq_false, not_false_eq_true, tr_c h, tr_g0 h, sp_g5, hv5, zn_div, zr_mod, hr, not_true_eq_false]
  · have hr1 : 0 < m % (v + 1) := Nat.pos_of_ne_zero hr
    have hr2 : m % (v + 1) < 2147483648 := Nat.lt_of_lt_of_le (Nat.mod_lt m (by omega)) (by omega)
    obtain ⟨μ1, a1, b1, c1⟩ := tr_thick (X := X) (d := d) (Or.inl rfl) h hk ht hm
    refine ⟨μ1, ?_, b1, c1⟩
    simp (disch := first | assumption | omega | decide) only [e4, i4_0, i4_1, i4_4, i4_7, i4_8, i4_9, i4_10, i4_11, i4_12, i4_15, i4_16, i4_17, i4_18, i4_21, i4_22, i4_25, i4_26, i4_27, i4_30, ix_pv_s, ix_pi_s, zpn, ix_po_s, ix_po_n, ix_ph_s, ix_bk_v, ix_bk_n, zcv, zcv_ne, ↓reduceIte, Nat.reduceEqDiff, zn_m1, zd_lt_p, zd_lt_n, zd_le_p, zd_le_n, zd_eq_p, zd_eq_n, zd_0_p, zd_0_n, zd_0lt_p, zd_0lt_n, zd_le0_p, zd_le0_n, zn_lt0, zn_le0, zn_add, zn_mul, zn_sub, zm_lt, zm_le, zm_eq, zb_1, zb_0, not_true_eq_false, not_false_eq_true, tr_c h, tr_g0 h, sp_g5, hv5, zn_div, zr_mod, a1, hr, not_true_eq_false]
theorem tr_broad (h : trO τ q 0 t rest) (hk : ck μ S ps p n) (ht : t < n) (hm : m < 1600) : ∃ μ' : fm_M, ix_call X (d + 4) 1 [.ref q, .int (nI m)] (fm_W μ τ) = some (some (.int (ev_a (wThin (rn S ps t) (μ q 1) (S (17 + t)) m - nI 1))), fm_W μ' τ) ∧ ck μ' S ps p n ∧ cf μ μ' := by
  obtain ⟨μ1, a1, b1, c1⟩ := tr_thin (X := X) (d := d) (Or.inl rfl) h hk ht hm
  refine ⟨μ1, ?_, b1, c1⟩
  simp (disch := first | assumption | omega | decide) only [e1, i1_0, i1_1, i1_2, i1_3, i1_6, i1_7, i1_8, i1_11, ix_pv_s, ix_pi_s, zpn, ix_po_s, ix_po_n, ix_ph_s, ix_bk_v, ix_bk_n, zcv, zcv_ne, ↓reduceIte, Nat.reduceEqDiff, zn_m1, zd_lt_p, zd_lt_n, zd_le_p, zd_le_n, zd_eq_p, zd_eq_n, zd_0_p, zd_0_n, zd_0lt_p, zd_0lt_n, zd_le0_p, zd_le0_n, zn_lt0, zn_le0, zn_add, zn_mul, zn_sub, zm_lt, zm_le, zm_eq, zb_1, zb_0, not_true_eq_false, not_false_eq_true, tr_c h, a1, ev_mx]
/-- a Told tree and its rows -/
def toO (τ : List fm_D) (q t : Nat) : Prop := trO τ q 8 t [q + 3, q + 4] ∧ (fm_T ++ τ)[q + 1]? = some (1, 0, [4]) ∧ (fm_T ++ τ)[q + 2]? = some (1, 0, [4])
theorem to_g3 {cs : List Nat} (h : toO τ q t) (hc : ix_isin cs 8 = true) : ix_g (fm_W μ τ) q cs 3 = some (.ref (q + 1)) := fm_gR h.1.1 hc rfl
theorem to_g4 {cs : List Nat} (h : toO τ q t) (hc : ix_isin cs 8 = true) : ix_g (fm_W μ τ) q cs 4 = some (.ref (q + 2)) := fm_gR h.1.1 hc rfl
theorem to_al1 (h : toO τ q t) : ix_al (fm_W μ τ) (q + 1) = some 4 := fm_al h.2.1 (by decide)
theorem to_al2 (h : toO τ q t) : ix_al (fm_W μ τ) (q + 2) = some 4 := fm_al h.2.2 (by decide)
theorem to_ra1 {k : Nat} (h : toO τ q t) (hk : k < 4) : ix_ra (fm_W μ τ) (q + 1) 0 (nI k) = some (μ (q + 1) k) := fm_ra h.2.1 hk (by omega)
theorem to_wa1 {k : Nat} {x : Int32} (h : toO τ q t) (hk : k < 4) : ix_wa (fm_W μ τ) (q + 1) 0 (nI k) x = some (fm_W (fm_u μ (q + 1) k x) τ) := fm_wa h.2.1 hk (by omega)
theorem tr_told {v : Nat} (ho : toO τ q t) (hk : ck μ S ps p n) (ht : t < n) (hm : m < 1600) (hv : S (17 + t) = nI v) (hv9 : v ≤ 9) : ∃ μ' : fm_M, ix_call X (d + 4) 43 [.ref q, .int (nI m)] (fm_W μ τ) = some (some (.int (wLate (rn S ps t) (μ q 1) v m + (if μ q 1 < sS (rn S ps t) (m + 1) then μ (q + 1) (m % 4) else nI 0))), fm_W μ' τ) ∧ ck μ' S ps p n ∧ cf μ μ' := by
  have h := ho.1
  have hq76 := h.2.1
  obtain ⟨μ1, a1, b1, c1⟩ := tr_late (X := X) (d := d) (Or.inr rfl) h hk ht hm hv hv9
  obtain ⟨μ2, a2, b2, c2⟩ := tr_above (X := X) (d := d + 1) h b1 ht hm
  have q1 : μ1 q = μ q := c1.1 q (by omega)
  have q2 : μ2 (q + 1) = μ (q + 1) := (c2.1 (q + 1) (by omega)).trans (c1.1 (q + 1) (by omega))
  rw [q1] at a2
  refine ⟨μ2, ?_, b2, cf_trans c1 c2⟩
  by_cases hq : μ q 1 < sS (rn S ps t) (m + 1)
  · simp only [hq, decide_true, bI_t] at a2
    rw [if_pos hq]
    simp (disch := first | assumption | omega | decide) only [e43, i43_0, i43_1, i43_2, i43_5, i43_6, i43_7, i43_8, i43_9, i43_10, i43_11, i43_14, i43_15, i43_16, i43_19, i43_20, i43_23, i43_24, i43_25, i43_28, i43_31, i43_32, i43_33, i43_36, i43_37, i43_38, i43_39, i43_42, i43_43, ix_pv_s, ix_pi_s, zpn, ix_po_s, ix_po_n, ix_ph_s, ix_bk_v, ix_bk_n, zcv, zcv_ne, ↓reduceIte, Nat.reduceEqDiff, zn_m1, zd_lt_p, zd_lt_n, zd_le_p, zd_le_n, zd_eq_p, zd_eq_n, zd_0_p, zd_0_n, zd_0lt_p, zd_0lt_n, zd_le0_p, zd_le0_n, zn_lt0, zn_le0, zn_add, zn_mul, zn_sub, zm_lt, zm_le, zm_eq, zb_1, zb_0, not_true_eq_false, not_false_eq_true, tr_c h, to_g3 ho, to_al1 ho, to_ra1 ho, zn_div, zr_mod, a1, a2, q2]
  · simp only [hq, decide_false, bI_f] at a2
    rw [if_neg hq, zn_add0]
    simp (disch := first | assumption | omega | decide) only [e43, i43_0, i43_1, i43_2, i43_5, i43_6, i43_7, i43_8, i43_9, i43_10, i43_11, i43_14, i43_15, i43_16, i43_19, i43_20, i43_23, i43_24, i43_25, i43_28, i43_31, i43_32, i43_33, i43_36, i43_37, i43_38, i43_39, i43_42, i43_43, ix_pv_s, ix_pi_s, zpn, ix_po_s, ix_po_n, ix_ph_s, ix_bk_v, ix_bk_n, zcv, zcv_ne, ↓reduceIte, Nat.reduceEqDiff, zn_m1, zd_lt_p, zd_lt_n, zd_le_p, zd_le_n, zd_eq_p, zd_eq_n, zd_0_p, zd_0_n, zd_0lt_p, zd_0lt_n, zd_le0_p, zd_le0_n, zn_lt0, zn_le0, zn_add, zn_mul, zn_sub, zm_lt, zm_le, zm_eq, zb_1, zb_0, not_true_eq_false, not_false_eq_true, tr_c h, to_g3 ho, to_al1 ho, to_ra1 ho, zn_div, zr_mod, a1, a2, q2]
def kc (kind : Nat) : Nat := [9, 6, 7, 2, 1, 0, 8].getD kind 9
/-- tree t stands at q: its class by its kind, what it holds, its rows -/
def trT (μ : fm_M) (τ : List fm_D) (S : Nat → Int32) (q t kind : Nat) : Prop := S (11 + t) = nI kind ∧ kind ≤ 6 ∧ (∃ rest, trO τ q (kc kind) t rest) ∧ μ q 1 = S (23 + t) ∧ (kind = 6 → toO τ q t ∧ ∀ k, k < 4 → μ (q + 1) k = S (35 + 4 * t + k))
/-- UNDER -/
theorem tr_under {kind v : Nat} (h : trT μ τ S q t kind) (hk : ck μ S ps p n) (ht : t < n) (hm : m < 1600) (hv : S (17 + t) = nI v) (hv9 : v ≤ 9) : ∃ μ' : fm_M, ix_cv X (d + 4) (ix_cls (fm_W μ τ) q) [(0, 1, 289), (1, 4, 289), (2, 7, 289), (6, 37, 289), (7, 40, 289), (8, 43, 289), (9, 50, 4)] [.ref q, .int (nI m)] (fm_W μ τ) = some (some (.int (wet (rn S ps t) (S (23 + t)) kind v (fun k => S (35 + 4 * t + k)) m)), fm_W μ' τ) ∧ ck μ' S ps p n ∧ cf μ μ' := by
  obtain ⟨h1, h6, ⟨rest, hO⟩, hh, hrow⟩ := h
  rw [tr_c hO, ← hh]
  rcases (by omega : kind = 0 ∨ kind = 1 ∨ kind = 2 ∨ kind = 3 ∨ kind = 4 ∨ kind = 5 ∨ kind = 6) with rfl | rfl | rfl | rfl | rfl | rfl | rfl
  · exact tr_wet (d := d + 2) hO hk ht hm
  · exact tr_thick (d := d + 1) (Or.inr rfl) hO hk ht hm
  · have := tr_thin (X := X) (d := d + 1) (Or.inr rfl) hO hk ht hm
    rw [hv] at this
    exact this
  · exact tr_late (d := d + 1) (Or.inl rfl) hO hk ht hm hv hv9
  · exact tr_hollow (d := d) hO hk ht hm hv hv9
  · have := tr_broad (X := X) (d := d) hO hk ht hm
    rw [hv] at this
    exact this
  · obtain ⟨ho, hr⟩ := hrow rfl
    have := tr_told (X := X) (d := d) ho hk ht hm hv hv9
    rw [hr (m % 4) (Nat.mod_lt m (by decide))] at this
    exact this
end TV
