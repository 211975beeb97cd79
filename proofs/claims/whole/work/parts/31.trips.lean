/-! ===== Trips: the rest ===== -/
--need 30.trip
section TP
variable {X : ix_X} {d : Nat} {τ : List fm_D} {μ : fm_M} {r : Nat} {S : Nat → Int32} {ps : List Nat} {p n : Nat}
theorem tp_setOut {pace mn : Nat} (hr : tpO r) (hp1 : 1 ≤ pace) (hp2 : pace ≤ 100) : ∃ μ' : fm_M, ix_call X d 58 [.ref r, .int (nI pace), .int (nI mn)] (fm_W μ τ) = some (none, fm_W μ' τ) ∧ tri μ' r pace 0 mn (nI 0) ∧ (∀ x, x ≠ r → μ' x = μ x) := by
  refine ⟨fm_u (fm_u (fm_u (fm_u μ r 1 (nI pace)) r 2 (nI 0)) r 3 (nI mn)) r 4 (nI 0), ?_, ⟨?_, ?_, ?_, ?_⟩, fun x hx => by simp only [fm_un hx]⟩
  · rcases (by omega : pace = 1 ∨ 1 < pace) with h | h
    · subst h
      simp (disch := first | assumption | omega | decide) only [e58, i58_0, i58_1, i58_2, i58_3, i58_6, i58_9, i58_10, i58_11, i58_14, i58_15, i58_16, i58_19, i58_20, i58_21, i58_24, ix_pv_s, ix_pi_s, zpn, ix_po_s, ix_po_n, ix_ph_s, ix_bk_v, ix_bk_n, zcv, zcv_ne, ↓reduceIte, Nat.reduceEqDiff, zn_m1, zd_lt_p, zd_lt_n, zd_le_p, zd_le_n, zd_eq_p, zd_eq_n, zd_0_p, zd_0_n, zd_0lt_p, zd_0lt_n, zd_le0_p, zd_le0_n, zn_lt0, zn_le0, zn_add, zn_mul, zn_sub, zm_lt, zm_le, zm_eq, zb_1, zb_0, not_true_eq_false, not_false_eq_true, tp_c, tp_g0, tp_g1, tp_s1, tp_g2, tp_s2, tp_g3, tp_s3, tp_g4, tp_s4]
    · simp (disch := first | assumption | omega | decide) only [e58, i58_0, i58_1, i58_2, i58_3, i58_6, i58_9, i58_10, i58_11, i58_14, i58_15, i58_16, i58_19, i58_20, i58_21, i58_24, ix_pv_s, ix_pi_s, zpn, ix_po_s, ix_po_n, ix_ph_s, ix_bk_v, ix_bk_n, zcv, zcv_ne, ↓reduceIte, Nat.reduceEqDiff, zn_m1, zd_lt_p, zd_lt_n, zd_le_p, zd_le_n, zd_eq_p, zd_eq_n, zd_0_p, zd_0_n, zd_0lt_p, zd_0lt_n, zd_le0_p, zd_le0_n, zn_lt0, zn_le0, zn_add, zn_mul, zn_sub, zm_lt, zm_le, zm_eq, zb_1, zb_0, not_true_eq_false, not_false_eq_true, tp_c, tp_g0, tp_g1, tp_s1, tp_g2, tp_s2, tp_g3, tp_s3, tp_g4, tp_s4]
  all_goals simp (disch := first | assumption | omega | decide) only [fm_us, fm_uk]
theorem tp_take {r2 pace pl mn : Nat} {gt : Int32} (hr : tpO r) (hr2 : tpO r2) (hne : r2 ≠ r) (ht : tri μ r2 pace pl mn gt) : ∃ μ' : fm_M, ix_call X d 62 [.ref r, .ref r2] (fm_W μ τ) = some (none, fm_W μ' τ) ∧ tri μ' r pace pl mn gt ∧ (∀ x, x ≠ r → μ' x = μ x) := by
  obtain ⟨t1, t2, t3, t4⟩ := ht
  refine ⟨fm_u (fm_u (fm_u (fm_u μ r 1 (nI pace)) r 2 (nI pl)) r 3 (nI mn)) r 4 gt, ?_, ⟨?_, ?_, ?_, ?_⟩, fun x hx => by simp only [fm_un hx]⟩
  · simp (disch := first | assumption | omega | decide) only [e62, i62_0, i62_1, i62_2, i62_5, i62_8, i62_9, i62_10, i62_13, i62_16, i62_17, i62_18, i62_21, i62_24, i62_25, i62_26, i62_29, i62_32, ix_pv_s, ix_pi_s, zpn, ix_po_s, ix_po_n, ix_ph_s, ix_bk_v, ix_bk_n, zcv, zcv_ne, ↓reduceIte, Nat.reduceEqDiff, zn_m1, zd_lt_p, zd_lt_n, zd_le_p, zd_le_n, zd_eq_p, zd_eq_n, zd_0_p, zd_0_n, zd_0lt_p, zd_0lt_n, zd_le0_p, zd_le0_n, zn_lt0, zn_le0, zn_add, zn_mul, zn_sub, zm_lt, zm_le, zm_eq, zb_1, zb_0, not_true_eq_false, not_false_eq_true, tp_c, tp_g0, tp_g1, tp_s1, tp_g2, tp_s2, tp_g3, tp_s3, tp_g4, tp_s4, fm_un hne, t1, t2, t3, t4]
  all_goals simp (disch := first | assumption | omega | decide) only [fm_us, fm_uk]
theorem tp_endure {pace pl mn : Nat} {gt x : Int32} (hr : tpO r) (ht : tri μ r pace pl mn gt) : ∃ μ' : fm_M, ix_call X d 61 [.ref r, .int x] (fm_W μ τ) = some (none, fm_W μ' τ) ∧ tri μ' r pace pl (mn + 1) (gt + x) ∧ (∀ x, x ≠ r → μ' x = μ x) := by
  obtain ⟨t1, t2, t3, t4⟩ := ht
  refine ⟨fm_u (fm_u μ r 4 (gt + x)) r 3 (nI (mn + 1)), ?_, ⟨?_, ?_, ?_, ?_⟩, fun x hx => by simp only [fm_un hx]⟩
  · simp (disch := first | assumption | omega | decide) only [e61, i61_0, i61_1, i61_2, i61_5, i61_6, i61_7, i61_10, i61_11, i61_12, i61_15, i61_16, i61_17, i61_20, ix_pv_s, ix_pi_s, zpn, ix_po_s, ix_po_n, ix_ph_s, ix_bk_v, ix_bk_n, zcv, zcv_ne, ↓reduceIte, Nat.reduceEqDiff, zn_m1, zd_lt_p, zd_lt_n, zd_le_p, zd_le_n, zd_eq_p, zd_eq_n, zd_0_p, zd_0_n, zd_0lt_p, zd_0lt_n, zd_le0_p, zd_le0_n, zn_lt0, zn_le0, zn_add, zn_mul, zn_sub, zm_lt, zm_le, zm_eq, zb_1, zb_0, not_true_eq_false, not_false_eq_true, tp_c, tp_g0, tp_g1, tp_s1, tp_g2, tp_s2, tp_g3, tp_s3, tp_g4, tp_s4, t3, t4, fm_uk]
  · rw [fm_uk (by decide), fm_uk (by decide)]; exact t1
  · rw [fm_uk (by decide), fm_uk (by decide)]; exact t2
  all_goals simp (disch := first | assumption | omega | decide) only [fm_us, fm_uk]
theorem tf_row {μ' : fm_M} (hr : tpO r) (h : ∀ x, x ≠ r → μ' x = μ x) : tf r μ μ' := by
  have := tp_cases hr
  exact ⟨fun q e _ => h q e, cs2_rows (fun q a b => h q (by omega))⟩
theorem tri_row {μ' : fm_M} {pace pl mn : Nat} {gt : Int32} (ht : tri μ r pace pl mn gt) (h : μ' r = μ r) : tri μ' r pace pl mn gt := by
  unfold tri
  rw [h]
  exact ht
/-- rain that comes through in k minutes from mn on -/
def waitS (w : Nat → Int32) (mn : Nat) : Nat → Int32 → Int32
  | 0, g => g
  | k + 1, g => waitS w (mn + 1) k (g + w mn)
theorem trT_of {μ' : fm_M} {q t kind : Nat} (h : trT μ τ S q t kind) (h1 : μ' q = μ q) (h2 : μ' (q + 1) = μ (q + 1)) : trT μ' τ S q t kind := by
  obtain ⟨a, b, c, e, f⟩ := h
  exact ⟨a, b, c, by rw [h1]; exact e, by rw [h2]; exact f⟩
theorem trT_76 {q t kind : Nat} (h : trT μ τ S q t kind) : 76 ≤ q := by
  obtain ⟨_, _, ⟨_, a⟩, _⟩ := h
  exact a.2.1
theorem tp_wait {q t kind v pace pl : Nat} (hr : tpO r) (hv : S (17 + t) = nI v) (hv9 : v ≤ 9) (ht : t < n) : ∀ (k j mn : Nat) (gt : Int32) (μ : fm_M), trT μ τ S q t kind → ck μ S ps p n → tri μ r pace pl mn gt → mn + k ≤ 1600 → j + k < 10000 →
    ∃ μ' : fm_M, ix_sem X (d + 5) 60 13 [some (.ref r), some (.ref q), some (.int (nI (j + k))), some (.int (nI j))] [] (fm_W μ τ) = some (none, fm_W μ' τ) ∧ ck μ' S ps p n ∧ tri μ' r pace pl (mn + k) (waitS (wet (rn S ps t) (S (23 + t)) kind v (fun k => S (35 + 4 * t + k))) mn k gt) ∧ tf r μ μ'
  | 0, j, mn, gt, μ, hT, hk, htr, hm, hj => by
    refine ⟨μ, ?_, hk, htr, tf_refl⟩
    simp (disch := first | assumption | omega | decide) only [i60_0, i60_1, i60_2, i60_5, i60_8, i60_11, i60_12, i60_13, i60_14, i60_15, i60_18, i60_19, i60_20, i60_21, i60_24, i60_27, i60_30, i60_33, i60_36, ix_pv_s, ix_pi_s, zpn, ix_po_s, ix_po_n, ix_ph_s, ix_bk_v, ix_bk_n, zcv, zcv_ne, ↓reduceIte, Nat.reduceEqDiff, zn_m1, zd_lt_p, zd_lt_n, zd_le_p, zd_le_n, zd_eq_p, zd_eq_n, zd_0_p, zd_0_n, zd_0lt_p, zd_0lt_n, zd_le0_p, zd_le0_n, zn_lt0, zn_le0, zn_add, zn_mul, zn_sub, zm_lt, zm_le, zm_eq, zb_1, zb_0, not_true_eq_false, not_false_eq_true, Nat.add_zero]
  | k + 1, j, mn, gt, μ, hT, hk, htr, hm, hj => by
    have h76 := trT_76 hT
    have hr6 := tp_cases hr
    obtain ⟨μ1, a1, b1, c1⟩ := tr_under (X := X) (d := d) (m := mn) hT hk ht (by omega) hv hv9
    have htr1 := tri_row htr (tp_row hr c1)
    obtain ⟨μ2, a2, t2, f2⟩ := tp_endure (X := X) (d := d + 4) (τ := τ) (x := wet (rn S ps t) (S (23 + t)) kind v (fun k => S (35 + 4 * t + k)) mn) hr htr1
    obtain ⟨μ', a3, b3, t3, f3⟩ := tp_wait hr hv hv9 ht k (j + 1) (mn + 1) _ μ2 (trT_of hT ((f2 q (by omega)).trans (c1.1 q (by omega))) ((f2 (q + 1) (by omega)).trans (c1.1 (q + 1) (by omega)))) (ck_row b1 (q := r) (by omega) f2) t2 (by omega) (by omega)
    refine ⟨μ', ?_, b3, ?_, tf_trans (tf_trans (tf_cf c1) (tf_row hr f2)) f3⟩
    · obtain ⟨g1, g2, g3, g4⟩ := htr
      rw [← a3, i60_13]
      have e1 : j + 1 + k = j + (k + 1) := by omega
      simp (disch := first | assumption | omega | decide) only [i60_0, i60_1, i60_2, i60_5, i60_8, i60_11, i60_12, i60_14, i60_15, i60_18, i60_19, i60_20, i60_21, i60_24, i60_27, i60_30, i60_33, i60_36, ix_pv_s, ix_pi_s, zpn, ix_po_s, ix_po_n, ix_ph_s, ix_bk_v, ix_bk_n, zcv, zcv_ne, ↓reduceIte, Nat.reduceEqDiff, zn_m1, zd_lt_p, zd_lt_n, zd_le_p, zd_le_n, zd_eq_p, zd_eq_n, zd_0_p, zd_0_n, zd_0lt_p, zd_0lt_n, zd_le0_p, zd_le0_n, zn_lt0, zn_le0, zn_add, zn_mul, zn_sub, zm_lt, zm_le, zm_eq, zb_1, zb_0, not_true_eq_false, not_false_eq_true, tp_c, tp_g3, g3, a1, a2, e1]
    · rw [show mn + (k + 1) = mn + 1 + k by omega]
      exact t3
theorem tp_visit {q t kind v pace pl mn k : Nat} {gt : Int32} (hr : tpO r) (hv : S (17 + t) = nI v) (hv9 : v ≤ 9) (ht : t < n) {pt : Nat} (hpt : μ (52 + 2 * t) 6 = nI pt) (hpt9 : pt ≤ 99) (hT : trT μ τ S q t kind) (hk : ck μ S ps p n) (htr : tri μ r pace pl mn gt) (hp1 : 1 ≤ pace) (hp2 : pace ≤ 100) (hpl : pl ≤ 99) (ha : mn + wkM pace pl pt + k ≤ 1600) : ∃ μ' : fm_M, ix_call X (d + 5) 60 [.ref r, .ref q, .int (nI k)] (fm_W μ τ) = some (none, fm_W μ' τ) ∧ ck μ' S ps p n ∧ tri μ' r pace pt (mn + wkM pace pl pt + k) (waitS (wet (rn S ps t) (S (23 + t)) kind v (fun k => S (35 + 4 * t + k))) (mn + wkM pace pl pt) k (gt + (sS (rn S ps 6) (mn + wkM pace pl pt) - sS (rn S ps 6) mn))) ∧ tf r μ μ' := by
  have h76 := trT_76 hT
  have hr6 := tp_cases hr
  obtain ⟨μ1, a1, b1, t1, f1⟩ := tp_walk (X := X) (d := d + 2) (τ := τ) hr hk htr hp1 hp2 hpl hpt9 (by omega)
  obtain ⟨μ', a2, b2, t2, f2⟩ := tp_wait (X := X) (d := d) (τ := τ) (q := q) (kind := kind) hr hv hv9 ht k 0 _ _ μ1 (trT_of hT (f1.1 q (by omega) (by omega)) (f1.1 (q + 1) (by omega) (by omega))) b1 t1 (by omega) (by omega)
  refine ⟨μ', ?_, b2, t2, tf_trans f1 f2⟩
  obtain ⟨_, _, ⟨rest, hO⟩, _⟩ := hT
  have hcc := hO.2.2
  have hsO := (sp_num hk ht).2.2.2
  rw [Nat.zero_add] at a2
  rw [← a2]
  simp (disch := first | assumption | omega | decide) only [e60, i60_0, i60_1, i60_2, i60_5, i60_8, i60_11, i60_12, i60_14, i60_15, i60_18, i60_19, i60_20, i60_21, i60_24, i60_27, i60_30, i60_33, i60_36, ix_pv_s, ix_pi_s, zpn, ix_po_s, ix_po_n, ix_ph_s, ix_bk_v, ix_bk_n, zcv, zcv_ne, ↓reduceIte, Nat.reduceEqDiff, zn_m1, zd_lt_p, zd_lt_n, zd_le_p, zd_le_n, zd_eq_p, zd_eq_n, zd_0_p, zd_0_n, zd_0lt_p, zd_0lt_n, zd_le0_p, zd_le0_n, zn_lt0, zn_le0, zn_add, zn_mul, zn_sub, zm_lt, zm_le, zm_eq, zb_1, zb_0, not_true_eq_false, not_false_eq_true, tr_g0 hO, sp_g6, hpt, tp_c, a1]
end TP
