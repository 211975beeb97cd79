/-! ===== dry, drips, stops, soaked, looked ===== -/
--need 45.asks2
def dryV (f : Nat → Int32) (m : Nat) : Nat → Nat → Int32
  | 0, _ => -5
  | k + 1, n => if 0 < f (m + n) then nI n else dryV f m k (n + 1)
def dripV (f g : Nat → Int32) : Nat → Nat → Nat → Nat
  | 0, _, c => c
  | k + 1, m, c => dripV f g k (m + 1) (if 0 < f m ∧ g (m + 1) - g m = 0 then c + 1 else c)
def stopV (g : Nat → Int32) (m : Nat) : Nat → Nat → Int32
  | 0, _ => -5
  | k + 1, n => if g (m + n + 10) = g (m + n) then nI n else stopV g m k (n + 1)
def soakV (S : Nat → Int32) (g : Nat → Int32) (m : Nat) (coat : Int32) : Nat → Nat → Int32
  | 0, _ => -5
  | k + 1, n => if wbS S (g (m + n) - g m) coat = skS S then nI n else soakV S g m coat k (n + 1)
def lookV (S : Nat → Int32) (cs : List Nat) : Nat → Nat → Int32
  | 0, _ => -5
  | k + 1, i => if uS S cs (nS S (85 + i)) (nS S (93 + i)) = S (101 + i) then lookV S cs k (i + 1) else nI i
theorem i32_tel (a b c : Int32) : (a - b) + (c - a) = c - b := by
  simp only [Int32.sub_eq_add_neg]
  rw [Int32.add_comm a, Int32.add_assoc, ← Int32.add_assoc a, Int32.add_comm a c, Int32.add_assoc c, Int32.add_right_neg, Int32.add_zero, Int32.add_comm]
section Q4
variable {X : ix_X} {d : Nat} {τ : List fm_D} {μ : fm_M} {S : Nat → Int32} {N : Nat → Nat} {C : Nat → List Nat} {Q : Nat → Nat} {t m : Nat}
theorem cl_aheadQ {u : Nat} (h : QI μ τ S N C Q) (hu : u < N 0 ∨ u = 6) (hm : m ≤ 1600) : ∃ μ' : fm_M, ix_call X (d + 1) 35 [.ref (spp u), .int (nI m)] (fm_W μ τ) = some (some (.int (sS (rn S (csN N C) u) m)), fm_W μ' τ) ∧ QI μ' τ S N C Q ∧ cf μ μ' := by
  obtain ⟨μ', a, b, c⟩ := ck_ahead (X := X) (d := d) (τ := τ) h.2.2.1 hu hm
  exact ⟨μ', a, QI_cf h c b, c⟩
theorem mo_fellQ {u : Nat} (h : QI μ τ S N C Q) (hu : u < N 0 ∨ u = 6) (hm : m < 1700) : ∃ μ' : fm_M, ix_call X (d + 2) 154 [.ref 67, .int (nI u), .int (nI m)] (fm_W μ τ) = some (some (.int (sS (rn S (csN N C) u) (m + 1))), fm_W μ' τ) ∧ QI μ' τ S N C Q ∧ mf μ μ' := by
  obtain ⟨μ', a, b, c⟩ := fb2_at (X := X) (d := d) (τ := τ) h.2.2.2 hu hm
  exact ⟨μ', a, QI_mg h (mg_mf c) b, c⟩
theorem mo_fellP {u : Nat} (h : QI μ τ S N C Q) (hu : u < N 0 ∨ u = 6) (hm : m ≤ 1700) : ∃ μ' : fm_M, ix_call X (d + 2) 154 [.ref 67, .int (nI u), .int (nI m - nI 1)] (fm_W μ τ) = some (some (.int (sS (rn S (csN N C) u) m)), fm_W μ' τ) ∧ QI μ' τ S N C Q ∧ mf μ μ' := by
  obtain ⟨μ', a, b, c⟩ := fb2_pred (X := X) (d := d) (τ := τ) h.2.2.2 hu hm
  exact ⟨μ', a, QI_mg h (mg_mf c) b, c⟩
theorem cl_coatQ {i : Nat} (h : QI μ τ S N C Q) (hi : i < N 1) : ix_call X (d + 1) 90 [.ref 0, .int (nI i)] (fm_W μ τ) = some (some (.int (S (64 + i))), fm_W μ τ) := cl_coat (QI_wa h) hi
theorem cl_paceQ {i : Nat} (h : QI μ τ S N C Q) (hi : i < N 1) : ix_call X (d + 1) 81 [.ref 0, .int (nI i)] (fm_W μ τ) = some (some (.int (nI (nS S (59 + i)))), fm_W μ τ) := by
  rw [cl_pace (QI_wa h) hi, ← (QI_pc h hi).1]
theorem cl_dryL {x1 : Option Value} (ht : t < N 0) : ∀ (k n : Nat) (μ : fm_M), QI μ τ S N C Q → n + k = 61 → ∃ μ' : fm_M, ix_sem X (d + 5) 104 14 [some (.ref 0), x1, some (.ref (Q t)), some (.int (nI n))] [] (fm_W μ τ) = some (some (.int (dryV (uS S (csN N C) t) (N 8) k n)), fm_W μ' τ) ∧ QI μ' τ S N C Q
  | 0, n, μ, h, e => by
    refine ⟨μ, ?_, h⟩
    simp (disch := first | assumption | omega | decide) only [i104_0, i104_1, i104_2, i104_5, i104_5n, i104_6, i104_6n, i104_7n, i104_7, i104_10, i104_11, i104_12, i104_13, i104_14, i104_15, i104_17, i104_20, i104_20n, i104_21, i104_22, i104_25, i104_26, i104_27, i104_30, i104_33, i104_34, i104_35, i104_38, i104_41, i104_43, ix_pv_s, ix_pi_s, zpn, ix_po_s, ix_po_n, ix_ph_s, ix_bk_v, ix_bk_n, zcv, zcv_ne, ↓reduceIte, Nat.reduceEqDiff, zn_m1, zd_lt_p, zd_lt_n, zd_le_p, zd_le_n, zd_eq_p, zd_eq_n, zd_0_p, zd_0_n, zd_0lt_p, zd_0lt_n, zd_le0_p, zd_le0_n, zn_lt0, zn_le0, zn_add, zn_mul, zn_sub, zm_lt, zm_le, zm_eq, zb_1, zb_0, not_true_eq_false, not_false_eq_true, t0_c, t0_g0, t0_g1, t0_g2, t0_g3, t0_g4, t0_g5, t0_g6, t0_g7, t0_g8, t0_g9, t0_g10, t0_s11, t0_g12, t0_s12, t0_g13, t0_g14, t0_g15, t0_g16, t0_c, rw_c, dryV]
  | k + 1, n, μ, h, e => by
    have hb := QI_b h
    have hn := cl_nowQ (X := X) (d := d + 3) h
    obtain ⟨μ1, a1, q1, _⟩ := cl_under (X := X) (d := d) (m := N 8 + n) h ht (by omega)
    by_cases hq : 0 < uS S (csN N C) t (N 8 + n)
    · have hq' : ¬ uS S (csN N C) t (N 8 + n) ≤ 0 := Int32.not_le.mpr hq
      refine ⟨μ1, ?_, q1⟩
      rw [dryV, if_pos hq, i104_14]
      simp (disch := first | assumption | omega | decide) only [i104_0, i104_1, i104_2, i104_5, i104_5n, i104_6, i104_6n, i104_7n, i104_7, i104_10, i104_11, i104_12, i104_13, i104_15, i104_17, i104_20, i104_20n, i104_21, i104_22, i104_25, i104_26, i104_27, i104_30, i104_33, i104_34, i104_35, i104_38, i104_41, i104_43, ix_pv_s, ix_pi_s, zpn, ix_po_s, ix_po_n, ix_ph_s, ix_bk_v, ix_bk_n, zcv, zcv_ne, ↓reduceIte, Nat.reduceEqDiff, zn_m1, zd_lt_p, zd_lt_n, zd_le_p, zd_le_n, zd_eq_p, zd_eq_n, zd_0_p, zd_0_n, zd_0lt_p, zd_0lt_n, zd_le0_p, zd_le0_n, zn_lt0, zn_le0, zn_add, zn_mul, zn_sub, zm_lt, zm_le, zm_eq, zb_1, zb_0, not_true_eq_false, not_false_eq_true, t0_c, t0_g0, t0_g1, t0_g2, t0_g3, t0_g4, t0_g5, t0_g6, t0_g7, t0_g8, t0_g9, t0_g10, t0_s11, t0_g12, t0_s12, t0_g13, t0_g14, t0_g15, t0_g16, t0_c, rw_c, hn, a1, hq']
    · have hq' : uS S (csN N C) t (N 8 + n) ≤ 0 := Int32.not_lt.mp hq
      obtain ⟨μ2, a2, q2⟩ := cl_dryL ht k (n + 1) μ1 q1 (by omega)
      refine ⟨μ2, ?_, q2⟩
      rw [dryV, if_neg hq, ← a2, i104_14]
      simp (disch := first | assumption | omega | decide) only [i104_0, i104_1, i104_2, i104_5, i104_5n, i104_6, i104_6n, i104_7n, i104_7, i104_10, i104_11, i104_12, i104_13, i104_15, i104_17, i104_20, i104_20n, i104_21, i104_22, i104_25, i104_26, i104_27, i104_30, i104_33, i104_34, i104_35, i104_38, i104_41, i104_43, ix_pv_s, ix_pi_s, zpn, ix_po_s, ix_po_n, ix_ph_s, ix_bk_v, ix_bk_n, zcv, zcv_ne, ↓reduceIte, Nat.reduceEqDiff, zn_m1, zd_lt_p, zd_lt_n, zd_le_p, zd_le_n, zd_eq_p, zd_eq_n, zd_0_p, zd_0_n, zd_0lt_p, zd_0lt_n, zd_le0_p, zd_le0_n, zn_lt0, zn_le0, zn_add, zn_mul, zn_sub, zm_lt, zm_le, zm_eq, zb_1, zb_0, not_true_eq_false, not_false_eq_true, t0_c, t0_g0, t0_g1, t0_g2, t0_g3, t0_g4, t0_g5, t0_g6, t0_g7, t0_g8, t0_g9, t0_g10, t0_s11, t0_g12, t0_s12, t0_g13, t0_g14, t0_g15, t0_g16, t0_c, rw_c, hn, a1, hq']
theorem mo_dryL (ht : t < N 0) : ∀ (k n : Nat) (μ : fm_M), QI μ τ S N C Q → n + k = 61 → ∃ μ' : fm_M, ix_sem X (d + 6) 191 12 [some (.ref 67), some (.int (nI t)), some (.int (nI n))] [] (fm_W μ τ) = some (some (.int (dryV (uS S (csN N C) t) (N 8) k n)), fm_W μ' τ) ∧ QI μ' τ S N C Q
  | 0, n, μ, h, e => by
    refine ⟨μ, ?_, h⟩
    simp (disch := first | assumption | omega | decide) only [i191_0, i191_1, i191_2, i191_5, i191_8, i191_9, i191_10, i191_11, i191_12, i191_13, i191_15, i191_18, i191_19, i191_20, i191_21, i191_24, i191_26, i191_27, i191_28, i191_29, i191_32, i191_35, i191_36, i191_37, i191_40, i191_43, i191_45, ix_pv_s, ix_pi_s, zpn, ix_po_s, ix_po_n, ix_ph_s, ix_bk_v, ix_bk_n, zcv, zcv_ne, ↓reduceIte, Nat.reduceEqDiff, zn_m1, zd_lt_p, zd_lt_n, zd_le_p, zd_le_n, zd_eq_p, zd_eq_n, zd_0_p, zd_0_n, zd_0lt_p, zd_0lt_n, zd_le0_p, zd_le0_n, zn_lt0, zn_le0, zn_add, zn_mul, zn_sub, zm_lt, zm_le, zm_eq, zb_1, zb_0, not_true_eq_false, not_false_eq_true, mo_c, mo_g0, mo_s0, mo_g1, mo_g2, mo_g3, mo_s3, mo_g4, mo_s4, mo_g5, mo_s5, mo_g6, mo_s6, mo_g7, mo_s7, mo_g8, mo_s8, mo_g9, mo_g10, mo_g11, mo_g12, mo_g13, mo_s13, mo_g14, mo_s14, mo_g15, mo_s15, mo_g16, mo_g17, mo_s17, mo_g18, mo_s18, mo_g19, mo_g20, mo_s20, mo_g21, mo_s21, mo_g22, mo_s22, mo_g23, mo_s23, ra_25, wa_25, al_25, ra_68, wa_68, al_68, ra_69, wa_69, al_69, ra_70, wa_70, al_70, ra_71, wa_71, al_71, ra_72, wa_72, al_72, ra_73, wa_73, al_73, ra_74, wa_74, al_74, ra_75, wa_75, al_75, dryV]
  | k + 1, n, μ, h, e => by
    have hb := QI_b h
    have e68 := QI_68 h
    have e8 := QI_S h (k := 8) (by decide) (by decide)
    obtain ⟨μ1, a1, q1, _⟩ := mo_underQ (X := X) (d := d) (m := N 8 + n) h ht (by omega)
    by_cases hq : 0 < uS S (csN N C) t (N 8 + n)
    · have hq' : ¬ uS S (csN N C) t (N 8 + n) ≤ 0 := Int32.not_le.mpr hq
      refine ⟨μ1, ?_, q1⟩
      rw [dryV, if_pos hq, i191_12]
      simp (disch := first | assumption | omega | decide) only [i191_0, i191_1, i191_2, i191_5, i191_8, i191_9, i191_10, i191_11, i191_13, i191_15, i191_18, i191_19, i191_20, i191_21, i191_24, i191_26, i191_27, i191_28, i191_29, i191_32, i191_35, i191_36, i191_37, i191_40, i191_43, i191_45, ix_pv_s, ix_pi_s, zpn, ix_po_s, ix_po_n, ix_ph_s, ix_bk_v, ix_bk_n, zcv, zcv_ne, ↓reduceIte, Nat.reduceEqDiff, zn_m1, zd_lt_p, zd_lt_n, zd_le_p, zd_le_n, zd_eq_p, zd_eq_n, zd_0_p, zd_0_n, zd_0lt_p, zd_0lt_n, zd_le0_p, zd_le0_n, zn_lt0, zn_le0, zn_add, zn_mul, zn_sub, zm_lt, zm_le, zm_eq, zb_1, zb_0, not_true_eq_false, not_false_eq_true, mo_c, mo_g0, mo_s0, mo_g1, mo_g2, mo_g3, mo_s3, mo_g4, mo_s4, mo_g5, mo_s5, mo_g6, mo_s6, mo_g7, mo_s7, mo_g8, mo_s8, mo_g9, mo_g10, mo_g11, mo_g12, mo_g13, mo_s13, mo_g14, mo_s14, mo_g15, mo_s15, mo_g16, mo_g17, mo_s17, mo_g18, mo_s18, mo_g19, mo_g20, mo_s20, mo_g21, mo_s21, mo_g22, mo_s22, mo_g23, mo_s23, ra_25, wa_25, al_25, ra_68, wa_68, al_68, ra_69, wa_69, al_69, ra_70, wa_70, al_70, ra_71, wa_71, al_71, ra_72, wa_72, al_72, ra_73, wa_73, al_73, ra_74, wa_74, al_74, ra_75, wa_75, al_75, e68, e8, a1, hq']
    · have hq' : uS S (csN N C) t (N 8 + n) ≤ 0 := Int32.not_lt.mp hq
      obtain ⟨μ2, a2, q2⟩ := mo_dryL ht k (n + 1) μ1 q1 (by omega)
      refine ⟨μ2, ?_, q2⟩
      rw [dryV, if_neg hq, ← a2, i191_12]
      simp (disch := first | assumption | omega | decide) only [i191_0, i191_1, i191_2, i191_5, i191_8, i191_9, i191_10, i191_11, i191_13, i191_15, i191_18, i191_19, i191_20, i191_21, i191_24, i191_26, i191_27, i191_28, i191_29, i191_32, i191_35, i191_36, i191_37, i191_40, i191_43, i191_45, ix_pv_s, ix_pi_s, zpn, ix_po_s, ix_po_n, ix_ph_s, ix_bk_v, ix_bk_n, zcv, zcv_ne, ↓reduceIte, Nat.reduceEqDiff, zn_m1, zd_lt_p, zd_lt_n, zd_le_p, zd_le_n, zd_eq_p, zd_eq_n, zd_0_p, zd_0_n, zd_0lt_p, zd_0lt_n, zd_le0_p, zd_le0_n, zn_lt0, zn_le0, zn_add, zn_mul, zn_sub, zm_lt, zm_le, zm_eq, zb_1, zb_0, not_true_eq_false, not_false_eq_true, mo_c, mo_g0, mo_s0, mo_g1, mo_g2, mo_g3, mo_s3, mo_g4, mo_s4, mo_g5, mo_s5, mo_g6, mo_s6, mo_g7, mo_s7, mo_g8, mo_s8, mo_g9, mo_g10, mo_g11, mo_g12, mo_g13, mo_s13, mo_g14, mo_s14, mo_g15, mo_s15, mo_g16, mo_g17, mo_s17, mo_g18, mo_s18, mo_g19, mo_g20, mo_s20, mo_g21, mo_s21, mo_g22, mo_s22, mo_g23, mo_s23, ra_25, wa_25, al_25, ra_68, wa_68, al_68, ra_69, wa_69, al_69, ra_70, wa_70, al_70, ra_71, wa_71, al_71, ra_72, wa_72, al_72, ra_73, wa_73, al_73, ra_74, wa_74, al_74, ra_75, wa_75, al_75, e68, e8, a1, hq']
theorem agr_dry {a : Int32} : agr X (d + 6) τ S N C Q 104 191 [.int a] := by
  intro μ h
  by_cases ha : inS a (N 0)
  · obtain ⟨t, ht, rfl⟩ := ha
    have hc := cl_tree (X := X) (d := d + 3) h ht
    obtain ⟨μ1, a1, q1⟩ := cl_dryL (X := X) (d := d + 1) (τ := τ) (x1 := some (.int (nI t))) ht 61 0 μ h rfl
    have hm := mo_tree (X := X) (d := d + 4) q1 (inS_p ht)
    obtain ⟨μ2, a2, q2⟩ := mo_dryL (X := X) (d := d) (τ := τ) ht 61 0 μ1 q1 rfl
    refine ⟨_, μ1, μ2, ?_, ?_, q2⟩
    rotate_left
    · rw [← a2]
      simp (disch := first | assumption | omega | decide) only [e191, i191_0, i191_1, i191_2, i191_5, i191_8, i191_9, i191_10, i191_11, i191_13, i191_15, i191_18, i191_19, i191_20, i191_21, i191_24, i191_26, i191_27, i191_28, i191_29, i191_32, i191_35, i191_36, i191_37, i191_40, i191_43, i191_45, ix_pv_s, ix_pi_s, zpn, ix_po_s, ix_po_n, ix_ph_s, ix_bk_v, ix_bk_n, zcv, zcv_ne, ↓reduceIte, Nat.reduceEqDiff, zn_m1, zd_lt_p, zd_lt_n, zd_le_p, zd_le_n, zd_eq_p, zd_eq_n, zd_0_p, zd_0_n, zd_0lt_p, zd_0lt_n, zd_le0_p, zd_le0_n, zn_lt0, zn_le0, zn_add, zn_mul, zn_sub, zm_lt, zm_le, zm_eq, zb_1, zb_0, not_true_eq_false, not_false_eq_true, mo_c, mo_g0, mo_s0, mo_g1, mo_g2, mo_g3, mo_s3, mo_g4, mo_s4, mo_g5, mo_s5, mo_g6, mo_s6, mo_g7, mo_s7, mo_g8, mo_s8, mo_g9, mo_g10, mo_g11, mo_g12, mo_g13, mo_s13, mo_g14, mo_s14, mo_g15, mo_s15, mo_g16, mo_g17, mo_s17, mo_g18, mo_s18, mo_g19, mo_g20, mo_s20, mo_g21, mo_s21, mo_g22, mo_s22, mo_g23, mo_s23, ra_25, wa_25, al_25, ra_68, wa_68, al_68, ra_69, wa_69, al_69, ra_70, wa_70, al_70, ra_71, wa_71, al_71, ra_72, wa_72, al_72, ra_73, wa_73, al_73, ra_74, wa_74, al_74, ra_75, wa_75, al_75, hm]
    · rw [← a1]
      simp (disch := first | assumption | omega | decide) only [e104, i104_0, i104_1, i104_2, i104_5, i104_5n, i104_6, i104_6n, i104_7n, i104_7, i104_10, i104_11, i104_12, i104_13, i104_15, i104_17, i104_20, i104_20n, i104_21, i104_22, i104_25, i104_26, i104_27, i104_30, i104_33, i104_34, i104_35, i104_38, i104_41, i104_43, ix_pv_s, ix_pi_s, zpn, ix_po_s, ix_po_n, ix_ph_s, ix_bk_v, ix_bk_n, zcv, zcv_ne, ↓reduceIte, Nat.reduceEqDiff, zn_m1, zd_lt_p, zd_lt_n, zd_le_p, zd_le_n, zd_eq_p, zd_eq_n, zd_0_p, zd_0_n, zd_0lt_p, zd_0lt_n, zd_le0_p, zd_le0_n, zn_lt0, zn_le0, zn_add, zn_mul, zn_sub, zm_lt, zm_le, zm_eq, zb_1, zb_0, not_true_eq_false, not_false_eq_true, t0_c, t0_g0, t0_g1, t0_g2, t0_g3, t0_g4, t0_g5, t0_g6, t0_g7, t0_g8, t0_g9, t0_g10, t0_s11, t0_g12, t0_s12, t0_g13, t0_g14, t0_g15, t0_g16, t0_c, rw_c, hc]
  · have hc := cl_treeN (X := X) (d := d + 3) h ha
    have hm := mo_treeN (X := X) (d := d + 4) h ha
    refine ⟨-1, μ, μ, ?_, ?_, h⟩
    · simp (disch := first | assumption | omega | decide) only [e104, i104_0, i104_1, i104_2, i104_5, i104_5n, i104_6, i104_6n, i104_7n, i104_7, i104_10, i104_11, i104_12, i104_13, i104_14, i104_15, i104_17, i104_20, i104_20n, i104_21, i104_22, i104_25, i104_26, i104_27, i104_30, i104_33, i104_34, i104_35, i104_38, i104_41, i104_43, ix_pv_s, ix_pi_s, zpn, ix_po_s, ix_po_n, ix_ph_s, ix_bk_v, ix_bk_n, zcv, zcv_ne, ↓reduceIte, Nat.reduceEqDiff, zn_m1, zd_lt_p, zd_lt_n, zd_le_p, zd_le_n, zd_eq_p, zd_eq_n, zd_0_p, zd_0_n, zd_0lt_p, zd_0lt_n, zd_le0_p, zd_le0_n, zn_lt0, zn_le0, zn_add, zn_mul, zn_sub, zm_lt, zm_le, zm_eq, zb_1, zb_0, not_true_eq_false, not_false_eq_true, t0_c, t0_g0, t0_g1, t0_g2, t0_g3, t0_g4, t0_g5, t0_g6, t0_g7, t0_g8, t0_g9, t0_g10, t0_s11, t0_g12, t0_s12, t0_g13, t0_g14, t0_g15, t0_g16, t0_c, rw_c, hc]
    · simp (disch := first | assumption | omega | decide) only [e191, i191_0, i191_1, i191_2, i191_5, i191_8, i191_9, i191_10, i191_11, i191_12, i191_13, i191_15, i191_18, i191_19, i191_20, i191_21, i191_24, i191_26, i191_27, i191_28, i191_29, i191_32, i191_35, i191_36, i191_37, i191_40, i191_43, i191_45, ix_pv_s, ix_pi_s, zpn, ix_po_s, ix_po_n, ix_ph_s, ix_bk_v, ix_bk_n, zcv, zcv_ne, ↓reduceIte, Nat.reduceEqDiff, zn_m1, zd_lt_p, zd_lt_n, zd_le_p, zd_le_n, zd_eq_p, zd_eq_n, zd_0_p, zd_0_n, zd_0lt_p, zd_0lt_n, zd_le0_p, zd_le0_n, zn_lt0, zn_le0, zn_add, zn_mul, zn_sub, zm_lt, zm_le, zm_eq, zb_1, zb_0, not_true_eq_false, not_false_eq_true, mo_c, mo_g0, mo_s0, mo_g1, mo_g2, mo_g3, mo_s3, mo_g4, mo_s4, mo_g5, mo_s5, mo_g6, mo_s6, mo_g7, mo_s7, mo_g8, mo_s8, mo_g9, mo_g10, mo_g11, mo_g12, mo_g13, mo_s13, mo_g14, mo_s14, mo_g15, mo_s15, mo_g16, mo_g17, mo_s17, mo_g18, mo_s18, mo_g19, mo_g20, mo_s20, mo_g21, mo_s21, mo_g22, mo_s22, mo_g23, mo_s23, ra_25, wa_25, al_25, ra_68, wa_68, al_68, ra_69, wa_69, al_69, ra_70, wa_70, al_70, ra_71, wa_71, al_71, ra_72, wa_72, al_72, ra_73, wa_73, al_73, ra_74, wa_74, al_74, ra_75, wa_75, al_75, hm]
theorem cl_dripL {x1 : Option Value} (ht : t < N 0) : ∀ (k n c : Nat) (μ : fm_M) (x5 : Option Value), QI μ τ S N C Q → n + k = 60 → c ≤ n → ∃ μ' : fm_M, ix_sem X (d + 5) 105 17 [some (.ref 0), x1, some (.ref (Q t)), some (.int (nI c)), some (.int (nI n)), x5] [] (fm_W μ τ) = some (some (.int (nI (dripV (uS S (csN N C) t) (sS (rn S (csN N C) t)) k (N 8 + n) c))), fm_W μ' τ) ∧ QI μ' τ S N C Q
  | 0, n, c, μ, x5, h, e, hcn => by
    refine ⟨μ, ?_, h⟩
    simp (disch := first | assumption | omega | decide) only [i105_0, i105_1, i105_2, i105_5, i105_5n, i105_6, i105_6n, i105_7n, i105_7, i105_10, i105_11, i105_12, i105_13, i105_14, i105_15, i105_17, i105_19, i105_21, i105_24, i105_25, i105_28, i105_30, i105_31, i105_33, i105_33n, i105_34, i105_37, i105_39, i105_42, i105_45, i105_45n, i105_46, i105_48, i105_51, i105_54, i105_57, i105_60, i105_63, i105_64, ix_pv_s, ix_pi_s, zpn, ix_po_s, ix_po_n, ix_ph_s, ix_bk_v, ix_bk_n, zcv, zcv_ne, ↓reduceIte, Nat.reduceEqDiff, zn_m1, zd_lt_p, zd_lt_n, zd_le_p, zd_le_n, zd_eq_p, zd_eq_n, zd_0_p, zd_0_n, zd_0lt_p, zd_0lt_n, zd_le0_p, zd_le0_n, zn_lt0, zn_le0, zn_add, zn_mul, zn_sub, zm_lt, zm_le, zm_eq, zb_1, zb_0, not_true_eq_false, not_false_eq_true, t0_c, t0_g0, t0_g1, t0_g2, t0_g3, t0_g4, t0_g5, t0_g6, t0_g7, t0_g8, t0_g9, t0_g10, t0_s11, t0_g12, t0_s12, t0_g13, t0_g14, t0_g15, t0_g16, t0_c, rw_c, dripV]
  | k + 1, n, c, μ, x5, h, e, hcn => by
    have hb := QI_b h
    have hn := cl_nowQ (X := X) (d := d + 3) h
    obtain ⟨cc, rest, hO⟩ := QI_trO h ht
    have hcc := hO.2.2
    have hs := spp_O (u := t) (by omega)
    obtain ⟨μ1, a1, q1, _⟩ := cl_rainQ (X := X) (d := d + 2) (m := N 8 + n) h (Or.inl ht) (by omega)
    rw [spp_t (by omega)] at a1 hs
    obtain ⟨μ2, a2, q2, _⟩ := cl_under (X := X) (d := d) (m := N 8 + n) q1 ht (by omega)
    by_cases hr : sS (rn S (csN N C) t) (N 8 + n + 1) - sS (rn S (csN N C) t) (N 8 + n) = 0
    · by_cases hw : 0 < uS S (csN N C) t (N 8 + n)
      · have hw' : ¬ uS S (csN N C) t (N 8 + n) ≤ 0 := Int32.not_le.mpr hw
        obtain ⟨μ3, a3, q3⟩ := cl_dripL ht k (n + 1) (c + 1) μ2 (some (.int (nI (N 8 + n)))) q2 (by omega) (by omega)
        refine ⟨μ3, ?_, q3⟩
        rw [dripV, if_pos ⟨hw, hr⟩, show N 8 + n + 1 = N 8 + (n + 1) by omega, ← a3, i105_17]
        simp (disch := first | assumption | omega | decide) only [i105_0, i105_1, i105_2, i105_5, i105_5n, i105_6, i105_6n, i105_7n, i105_7, i105_10, i105_11, i105_12, i105_13, i105_14, i105_15, i105_19, i105_21, i105_24, i105_25, i105_28, i105_30, i105_31, i105_33, i105_33n, i105_34, i105_37, i105_39, i105_42, i105_45, i105_45n, i105_46, i105_48, i105_51, i105_54, i105_57, i105_60, i105_63, i105_64, ix_pv_s, ix_pi_s, zpn, ix_po_s, ix_po_n, ix_ph_s, ix_bk_v, ix_bk_n, zcv, zcv_ne, ↓reduceIte, Nat.reduceEqDiff, zn_m1, zd_lt_p, zd_lt_n, zd_le_p, zd_le_n, zd_eq_p, zd_eq_n, zd_0_p, zd_0_n, zd_0lt_p, zd_0lt_n, zd_le0_p, zd_le0_n, zn_lt0, zn_le0, zn_add, zn_mul, zn_sub, zm_lt, zm_le, zm_eq, zb_1, zb_0, not_true_eq_false, not_false_eq_true, t0_c, t0_g0, t0_g1, t0_g2, t0_g3, t0_g4, t0_g5, t0_g6, t0_g7, t0_g8, t0_g9, t0_g10, t0_s11, t0_g12, t0_s12, t0_g13, t0_g14, t0_g15, t0_g16, t0_c, rw_c, hn, tr_g0 hO, sp_c, a1, a2, hr, hw', not_true_eq_false]
      · have hw' : uS S (csN N C) t (N 8 + n) ≤ 0 := Int32.not_lt.mp hw
        obtain ⟨μ3, a3, q3⟩ := cl_dripL ht k (n + 1) c μ2 (some (.int (nI (N 8 + n)))) q2 (by omega) (by omega)
        refine ⟨μ3, ?_, q3⟩
        rw [dripV, if_neg (fun e => hw e.1), show N 8 + n + 1 = N 8 + (n + 1) by omega, ← a3, i105_17]
        simp (disch := first | assumption | omega | decide) only [i105_0, i105_1, i105_2, i105_5, i105_5n, i105_6, i105_6n, i105_7n, i105_7, i105_10, i105_11, i105_12, i105_13, i105_14, i105_15, i105_19, i105_21, i105_24, i105_25, i105_28, i105_30, i105_31, i105_33, i105_33n, i105_34, i105_37, i105_39, i105_42, i105_45, i105_45n, i105_46, i105_48, i105_51, i105_54, i105_57, i105_60, i105_63, i105_64, ix_pv_s, ix_pi_s, zpn, ix_po_s, ix_po_n, ix_ph_s, ix_bk_v, ix_bk_n, zcv, zcv_ne, ↓reduceIte, Nat.reduceEqDiff, zn_m1, zd_lt_p, zd_lt_n, zd_le_p, zd_le_n, zd_eq_p, zd_eq_n, zd_0_p, zd_0_n, zd_0lt_p, zd_0lt_n, zd_le0_p, zd_le0_n, zn_lt0, zn_le0, zn_add, zn_mul, zn_sub, zm_lt, zm_le, zm_eq, zb_1, zb_0, not_true_eq_false, not_false_eq_true, t0_c, t0_g0, t0_g1, t0_g2, t0_g3, t0_g4, t0_g5, t0_g6, t0_g7, t0_g8, t0_g9, t0_g10, t0_s11, t0_g12, t0_s12, t0_g13, t0_g14, t0_g15, t0_g16, t0_c, rw_c, hn, tr_g0 hO, sp_c, a1, a2, hr, hw', not_true_eq_false]
    · obtain ⟨μ3, a3, q3⟩ := cl_dripL ht k (n + 1) c μ1 (some (.int (nI (N 8 + n)))) q1 (by omega) (by omega)
      refine ⟨μ3, ?_, q3⟩
      rw [dripV, if_neg (fun e => hr e.2), show N 8 + n + 1 = N 8 + (n + 1) by omega, ← a3, i105_17]
      simp (disch := first | assumption | omega | decide) only [i105_0, i105_1, i105_2, i105_5, i105_5n, i105_6, i105_6n, i105_7n, i105_7, i105_10, i105_11, i105_12, i105_13, i105_14, i105_15, i105_19, i105_21, i105_24, i105_25, i105_28, i105_30, i105_31, i105_33, i105_33n, i105_34, i105_37, i105_39, i105_42, i105_45, i105_45n, i105_46, i105_48, i105_51, i105_54, i105_57, i105_60, i105_63, i105_64, ix_pv_s, ix_pi_s, zpn, ix_po_s, ix_po_n, ix_ph_s, ix_bk_v, ix_bk_n, zcv, zcv_ne, ↓reduceIte, Nat.reduceEqDiff, zn_m1, zd_lt_p, zd_lt_n, zd_le_p, zd_le_n, zd_eq_p, zd_eq_n, zd_0_p, zd_0_n, zd_0lt_p, zd_0lt_n, zd_le0_p, zd_le0_n, zn_lt0, zn_le0, zn_add, zn_mul, zn_sub, zm_lt, zm_le, zm_eq, zb_1, zb_0, not_true_eq_false, not_false_eq_true, t0_c, t0_g0, t0_g1, t0_g2, t0_g3, t0_g4, t0_g5, t0_g6, t0_g7, t0_g8, t0_g9, t0_g10, t0_s11, t0_g12, t0_s12, t0_g13, t0_g14, t0_g15, t0_g16, t0_c, rw_c, hn, tr_g0 hO, sp_c, a1, hr]
theorem mo_dripL (ht : t < N 0) : ∀ (k n c : Nat) (μ : fm_M), QI μ τ S N C Q → n + k = 60 → c ≤ n → ∃ μ' : fm_M, ix_sem X (d + 6) 192 20 [some (.ref 67), some (.int (nI t)), some (.int (nI c)), some (.int (nI (N 8 + n)))] [] (fm_W μ τ) = some (some (.int (nI (dripV (uS S (csN N C) t) (sS (rn S (csN N C) t)) k (N 8 + n) c))), fm_W μ' τ) ∧ QI μ' τ S N C Q
  | 0, n, c, μ, h, e, hcn => by
    have hb := QI_b h
    have e68 := QI_68 h
    have e8 := QI_S h (k := 8) (by decide) (by decide)
    refine ⟨μ, ?_, h⟩
    simp (disch := first | assumption | omega | decide) only [i192_0, i192_1, i192_2, i192_5, i192_8, i192_9, i192_10, i192_11, i192_12, i192_13, i192_16, i192_18, i192_19, i192_20, i192_21, i192_22, i192_25, i192_27, i192_28, i192_30, i192_31, i192_34, i192_35, i192_36, i192_37, i192_38, i192_41, i192_44, i192_45, i192_46, i192_47, i192_50, i192_53, i192_54, i192_57, i192_58, i192_59, i192_60, i192_63, i192_66, i192_67, ix_pv_s, ix_pi_s, zpn, ix_po_s, ix_po_n, ix_ph_s, ix_bk_v, ix_bk_n, zcv, zcv_ne, ↓reduceIte, Nat.reduceEqDiff, zn_m1, zd_lt_p, zd_lt_n, zd_le_p, zd_le_n, zd_eq_p, zd_eq_n, zd_0_p, zd_0_n, zd_0lt_p, zd_0lt_n, zd_le0_p, zd_le0_n, zn_lt0, zn_le0, zn_add, zn_mul, zn_sub, zm_lt, zm_le, zm_eq, zb_1, zb_0, not_true_eq_false, not_false_eq_true, mo_c, mo_g0, mo_s0, mo_g1, mo_g2, mo_g3, mo_s3, mo_g4, mo_s4, mo_g5, mo_s5, mo_g6, mo_s6, mo_g7, mo_s7, mo_g8, mo_s8, mo_g9, mo_g10, mo_g11, mo_g12, mo_g13, mo_s13, mo_g14, mo_s14, mo_g15, mo_s15, mo_g16, mo_g17, mo_s17, mo_g18, mo_s18, mo_g19, mo_g20, mo_s20, mo_g21, mo_s21, mo_g22, mo_s22, mo_g23, mo_s23, ra_25, wa_25, al_25, ra_68, wa_68, al_68, ra_69, wa_69, al_69, ra_70, wa_70, al_70, ra_71, wa_71, al_71, ra_72, wa_72, al_72, ra_73, wa_73, al_73, ra_74, wa_74, al_74, ra_75, wa_75, al_75, e68, e8, dripV]
  | k + 1, n, c, μ, h, e, hcn => by
    have hb := QI_b h
    have e68 := QI_68 h
    have e8 := QI_S h (k := 8) (by decide) (by decide)
    obtain ⟨μ1, a1, q1, _⟩ := mo_underQ (X := X) (d := d) (m := N 8 + n) h ht (by omega)
    obtain ⟨μ2, a2, q2, _⟩ := mo_rainQ (X := X) (d := d + 2) (m := N 8 + n) q1 (Or.inl ht) (by omega)
    by_cases hw : 0 < uS S (csN N C) t (N 8 + n)
    · have hw' : ¬ uS S (csN N C) t (N 8 + n) ≤ 0 := Int32.not_le.mpr hw
      by_cases hr : sS (rn S (csN N C) t) (N 8 + n + 1) - sS (rn S (csN N C) t) (N 8 + n) = 0
      · obtain ⟨μ3, a3, q3⟩ := mo_dripL ht k (n + 1) (c + 1) μ2 q2 (by omega) (by omega)
        refine ⟨μ3, ?_, q3⟩
        rw [dripV, if_pos ⟨hw, hr⟩, show N 8 + n + 1 = N 8 + (n + 1) by omega, ← a3, i192_20]
        simp (disch := first | assumption | omega | decide) only [i192_0, i192_1, i192_2, i192_5, i192_8, i192_9, i192_10, i192_11, i192_12, i192_13, i192_16, i192_18, i192_19, i192_21, i192_22, i192_25, i192_27, i192_28, i192_30, i192_31, i192_34, i192_35, i192_36, i192_37, i192_38, i192_41, i192_44, i192_45, i192_46, i192_47, i192_50, i192_53, i192_54, i192_57, i192_58, i192_59, i192_60, i192_63, i192_66, i192_67, ix_pv_s, ix_pi_s, zpn, ix_po_s, ix_po_n, ix_ph_s, ix_bk_v, ix_bk_n, zcv, zcv_ne, ↓reduceIte, Nat.reduceEqDiff, zn_m1, zd_lt_p, zd_lt_n, zd_le_p, zd_le_n, zd_eq_p, zd_eq_n, zd_0_p, zd_0_n, zd_0lt_p, zd_0lt_n, zd_le0_p, zd_le0_n, zn_lt0, zn_le0, zn_add, zn_mul, zn_sub, zm_lt, zm_le, zm_eq, zb_1, zb_0, not_true_eq_false, not_false_eq_true, mo_c, mo_g0, mo_s0, mo_g1, mo_g2, mo_g3, mo_s3, mo_g4, mo_s4, mo_g5, mo_s5, mo_g6, mo_s6, mo_g7, mo_s7, mo_g8, mo_s8, mo_g9, mo_g10, mo_g11, mo_g12, mo_g13, mo_s13, mo_g14, mo_s14, mo_g15, mo_s15, mo_g16, mo_g17, mo_s17, mo_g18, mo_s18, mo_g19, mo_g20, mo_s20, mo_g21, mo_s21, mo_g22, mo_s22, mo_g23, mo_s23, ra_25, wa_25, al_25, ra_68, wa_68, al_68, ra_69, wa_69, al_69, ra_70, wa_70, al_70, ra_71, wa_71, al_71, ra_72, wa_72, al_72, ra_73, wa_73, al_73, ra_74, wa_74, al_74, ra_75, wa_75, al_75, e68, e8, a1, a2, hr, hw', not_true_eq_false, Nat.add_assoc]
      · obtain ⟨μ3, a3, q3⟩ := mo_dripL ht k (n + 1) c μ2 q2 (by omega) (by omega)
        refine ⟨μ3, ?_, q3⟩
        rw [dripV, if_neg (fun e => hr e.2), show N 8 + n + 1 = N 8 + (n + 1) by omega, ← a3, i192_20]
        simp (disch := first | assumption | omega | decide) only [i192_0, i192_1, i192_2, i192_5, i192_8, i192_9, i192_10, i192_11, i192_12, i192_13, i192_16, i192_18, i192_19, i192_21, i192_22, i192_25, i192_27, i192_28, i192_30, i192_31, i192_34, i192_35, i192_36, i192_37, i192_38, i192_41, i192_44, i192_45, i192_46, i192_47, i192_50, i192_53, i192_54, i192_57, i192_58, i192_59, i192_60, i192_63, i192_66, i192_67, ix_pv_s, ix_pi_s, zpn, ix_po_s, ix_po_n, ix_ph_s, ix_bk_v, ix_bk_n, zcv, zcv_ne, ↓reduceIte, Nat.reduceEqDiff, zn_m1, zd_lt_p, zd_lt_n, zd_le_p, zd_le_n, zd_eq_p, zd_eq_n, zd_0_p, zd_0_n, zd_0lt_p, zd_0lt_n, zd_le0_p, zd_le0_n, zn_lt0, zn_le0, zn_add, zn_mul, zn_sub, zm_lt, zm_le, zm_eq, zb_1, zb_0, not_true_eq_false, not_false_eq_true, mo_c, mo_g0, mo_s0, mo_g1, mo_g2, mo_g3, mo_s3, mo_g4, mo_s4, mo_g5, mo_s5, mo_g6, mo_s6, mo_g7, mo_s7, mo_g8, mo_s8, mo_g9, mo_g10, mo_g11, mo_g12, mo_g13, mo_s13, mo_g14, mo_s14, mo_g15, mo_s15, mo_g16, mo_g17, mo_s17, mo_g18, mo_s18, mo_g19, mo_g20, mo_s20, mo_g21, mo_s21, mo_g22, mo_s22, mo_g23, mo_s23, ra_25, wa_25, al_25, ra_68, wa_68, al_68, ra_69, wa_69, al_69, ra_70, wa_70, al_70, ra_71, wa_71, al_71, ra_72, wa_72, al_72, ra_73, wa_73, al_73, ra_74, wa_74, al_74, ra_75, wa_75, al_75, e68, e8, a1, a2, hr, hw', Nat.add_assoc, Nat.add_zero]
    · have hw' : uS S (csN N C) t (N 8 + n) ≤ 0 := Int32.not_lt.mp hw
      obtain ⟨μ3, a3, q3⟩ := mo_dripL ht k (n + 1) c μ1 q1 (by omega) (by omega)
      refine ⟨μ3, ?_, q3⟩
      rw [dripV, if_neg (fun e => hw e.1), show N 8 + n + 1 = N 8 + (n + 1) by omega, ← a3, i192_20]
      simp (disch := first | assumption | omega | decide) only [i192_0, i192_1, i192_2, i192_5, i192_8, i192_9, i192_10, i192_11, i192_12, i192_13, i192_16, i192_18, i192_19, i192_21, i192_22, i192_25, i192_27, i192_28, i192_30, i192_31, i192_34, i192_35, i192_36, i192_37, i192_38, i192_41, i192_44, i192_45, i192_46, i192_47, i192_50, i192_53, i192_54, i192_57, i192_58, i192_59, i192_60, i192_63, i192_66, i192_67, ix_pv_s, ix_pi_s, zpn, ix_po_s, ix_po_n, ix_ph_s, ix_bk_v, ix_bk_n, zcv, zcv_ne, ↓reduceIte, Nat.reduceEqDiff, zn_m1, zd_lt_p, zd_lt_n, zd_le_p, zd_le_n, zd_eq_p, zd_eq_n, zd_0_p, zd_0_n, zd_0lt_p, zd_0lt_n, zd_le0_p, zd_le0_n, zn_lt0, zn_le0, zn_add, zn_mul, zn_sub, zm_lt, zm_le, zm_eq, zb_1, zb_0, not_true_eq_false, not_false_eq_true, mo_c, mo_g0, mo_s0, mo_g1, mo_g2, mo_g3, mo_s3, mo_g4, mo_s4, mo_g5, mo_s5, mo_g6, mo_s6, mo_g7, mo_s7, mo_g8, mo_s8, mo_g9, mo_g10, mo_g11, mo_g12, mo_g13, mo_s13, mo_g14, mo_s14, mo_g15, mo_s15, mo_g16, mo_g17, mo_s17, mo_g18, mo_s18, mo_g19, mo_g20, mo_s20, mo_g21, mo_s21, mo_g22, mo_s22, mo_g23, mo_s23, ra_25, wa_25, al_25, ra_68, wa_68, al_68, ra_69, wa_69, al_69, ra_70, wa_70, al_70, ra_71, wa_71, al_71, ra_72, wa_72, al_72, ra_73, wa_73, al_73, ra_74, wa_74, al_74, ra_75, wa_75, al_75, e68, e8, a1, hw', Nat.add_assoc, Nat.add_zero]
theorem agr_drips {a : Int32} : agr X (d + 6) τ S N C Q 105 192 [.int a] := by
  intro μ h
  by_cases ha : inS a (N 0)
  · obtain ⟨t, ht, rfl⟩ := ha
    have hc := cl_tree (X := X) (d := d + 3) h ht
    obtain ⟨μ1, a1, q1⟩ := cl_dripL (X := X) (d := d + 1) (τ := τ) (x1 := some (.int (nI t))) ht 60 0 0 μ none h rfl (Nat.le_refl _)
    have hm := mo_tree (X := X) (d := d + 4) q1 (inS_p ht)
    have f68 := QI_68 q1
    have e8 := QI_S h (k := 8) (by decide) (by decide)
    obtain ⟨μ2, a2, q2⟩ := mo_dripL (X := X) (d := d) (τ := τ) ht 60 0 0 μ1 q1 rfl (Nat.le_refl _)
    refine ⟨_, μ1, μ2, ?_, ?_, q2⟩
    rotate_left
    · rw [← a2]
      simp (disch := first | assumption | omega | decide) only [e192, i192_0, i192_1, i192_2, i192_5, i192_8, i192_9, i192_10, i192_11, i192_12, i192_13, i192_16, i192_18, i192_19, i192_21, i192_22, i192_25, i192_27, i192_28, i192_30, i192_31, i192_34, i192_35, i192_36, i192_37, i192_38, i192_41, i192_44, i192_45, i192_46, i192_47, i192_50, i192_53, i192_54, i192_57, i192_58, i192_59, i192_60, i192_63, i192_66, i192_67, ix_pv_s, ix_pi_s, zpn, ix_po_s, ix_po_n, ix_ph_s, ix_bk_v, ix_bk_n, zcv, zcv_ne, ↓reduceIte, Nat.reduceEqDiff, zn_m1, zd_lt_p, zd_lt_n, zd_le_p, zd_le_n, zd_eq_p, zd_eq_n, zd_0_p, zd_0_n, zd_0lt_p, zd_0lt_n, zd_le0_p, zd_le0_n, zn_lt0, zn_le0, zn_add, zn_mul, zn_sub, zm_lt, zm_le, zm_eq, zb_1, zb_0, not_true_eq_false, not_false_eq_true, mo_c, mo_g0, mo_s0, mo_g1, mo_g2, mo_g3, mo_s3, mo_g4, mo_s4, mo_g5, mo_s5, mo_g6, mo_s6, mo_g7, mo_s7, mo_g8, mo_s8, mo_g9, mo_g10, mo_g11, mo_g12, mo_g13, mo_s13, mo_g14, mo_s14, mo_g15, mo_s15, mo_g16, mo_g17, mo_s17, mo_g18, mo_s18, mo_g19, mo_g20, mo_s20, mo_g21, mo_s21, mo_g22, mo_s22, mo_g23, mo_s23, ra_25, wa_25, al_25, ra_68, wa_68, al_68, ra_69, wa_69, al_69, ra_70, wa_70, al_70, ra_71, wa_71, al_71, ra_72, wa_72, al_72, ra_73, wa_73, al_73, ra_74, wa_74, al_74, ra_75, wa_75, al_75, hm, f68, e8, Nat.add_zero]
    · rw [← a1]
      simp (disch := first | assumption | omega | decide) only [e105, i105_0, i105_1, i105_2, i105_5, i105_5n, i105_6, i105_6n, i105_7n, i105_7, i105_10, i105_11, i105_12, i105_13, i105_14, i105_15, i105_19, i105_21, i105_24, i105_25, i105_28, i105_30, i105_31, i105_33, i105_33n, i105_34, i105_37, i105_39, i105_42, i105_45, i105_45n, i105_46, i105_48, i105_51, i105_54, i105_57, i105_60, i105_63, i105_64, ix_pv_s, ix_pi_s, zpn, ix_po_s, ix_po_n, ix_ph_s, ix_bk_v, ix_bk_n, zcv, zcv_ne, ↓reduceIte, Nat.reduceEqDiff, zn_m1, zd_lt_p, zd_lt_n, zd_le_p, zd_le_n, zd_eq_p, zd_eq_n, zd_0_p, zd_0_n, zd_0lt_p, zd_0lt_n, zd_le0_p, zd_le0_n, zn_lt0, zn_le0, zn_add, zn_mul, zn_sub, zm_lt, zm_le, zm_eq, zb_1, zb_0, not_true_eq_false, not_false_eq_true, t0_c, t0_g0, t0_g1, t0_g2, t0_g3, t0_g4, t0_g5, t0_g6, t0_g7, t0_g8, t0_g9, t0_g10, t0_s11, t0_g12, t0_s12, t0_g13, t0_g14, t0_g15, t0_g16, t0_c, rw_c, hc]
  · have hc := cl_treeN (X := X) (d := d + 3) h ha
    have hm := mo_treeN (X := X) (d := d + 4) h ha
    refine ⟨-1, μ, μ, ?_, ?_, h⟩
    · simp (disch := first | assumption | omega | decide) only [e105, i105_0, i105_1, i105_2, i105_5, i105_5n, i105_6, i105_6n, i105_7n, i105_7, i105_10, i105_11, i105_12, i105_13, i105_14, i105_15, i105_17, i105_19, i105_21, i105_24, i105_25, i105_28, i105_30, i105_31, i105_33, i105_33n, i105_34, i105_37, i105_39, i105_42, i105_45, i105_45n, i105_46, i105_48, i105_51, i105_54, i105_57, i105_60, i105_63, i105_64, ix_pv_s, ix_pi_s, zpn, ix_po_s, ix_po_n, ix_ph_s, ix_bk_v, ix_bk_n, zcv, zcv_ne, ↓reduceIte, Nat.reduceEqDiff, zn_m1, zd_lt_p, zd_lt_n, zd_le_p, zd_le_n, zd_eq_p, zd_eq_n, zd_0_p, zd_0_n, zd_0lt_p, zd_0lt_n, zd_le0_p, zd_le0_n, zn_lt0, zn_le0, zn_add, zn_mul, zn_sub, zm_lt, zm_le, zm_eq, zb_1, zb_0, not_true_eq_false, not_false_eq_true, t0_c, t0_g0, t0_g1, t0_g2, t0_g3, t0_g4, t0_g5, t0_g6, t0_g7, t0_g8, t0_g9, t0_g10, t0_s11, t0_g12, t0_s12, t0_g13, t0_g14, t0_g15, t0_g16, t0_c, rw_c, hc]
    · simp (disch := first | assumption | omega | decide) only [e192, i192_0, i192_1, i192_2, i192_5, i192_8, i192_9, i192_10, i192_11, i192_12, i192_13, i192_16, i192_18, i192_19, i192_20, i192_21, i192_22, i192_25, i192_27, i192_28, i192_30, i192_31, i192_34, i192_35, i192_36, i192_37, i192_38, i192_41, i192_44, i192_45, i192_46, i192_47, i192_50, i192_53, i192_54, i192_57, i192_58, i192_59, i192_60, i192_63, i192_66, i192_67, ix_pv_s, ix_pi_s, zpn, ix_po_s, ix_po_n, ix_ph_s, ix_bk_v, ix_bk_n, zcv, zcv_ne, ↓reduceIte, Nat.reduceEqDiff, zn_m1, zd_lt_p, zd_lt_n, zd_le_p, zd_le_n, zd_eq_p, zd_eq_n, zd_0_p, zd_0_n, zd_0lt_p, zd_0lt_n, zd_le0_p, zd_le0_n, zn_lt0, zn_le0, zn_add, zn_mul, zn_sub, zm_lt, zm_le, zm_eq, zb_1, zb_0, not_true_eq_false, not_false_eq_true, mo_c, mo_g0, mo_s0, mo_g1, mo_g2, mo_g3, mo_s3, mo_g4, mo_s4, mo_g5, mo_s5, mo_g6, mo_s6, mo_g7, mo_s7, mo_g8, mo_s8, mo_g9, mo_g10, mo_g11, mo_g12, mo_g13, mo_s13, mo_g14, mo_s14, mo_g15, mo_s15, mo_g16, mo_g17, mo_s17, mo_g18, mo_s18, mo_g19, mo_g20, mo_s20, mo_g21, mo_s21, mo_g22, mo_s22, mo_g23, mo_s23, ra_25, wa_25, al_25, ra_68, wa_68, al_68, ra_69, wa_69, al_69, ra_70, wa_70, al_70, ra_71, wa_71, al_71, ra_72, wa_72, al_72, ra_73, wa_73, al_73, ra_74, wa_74, al_74, ra_75, wa_75, al_75, hm]
theorem cl_stopL : ∀ (k n : Nat) (μ : fm_M) (x2 : Option Value), QI μ τ S N C Q → n + k = 100 → ∃ μ' : fm_M, ix_sem X (d + 5) 113 2 [some (.ref 0), some (.int (nI n)), x2] [] (fm_W μ τ) = some (some (.int (stopV (sS (rn S (csN N C) 6)) (N 8) k n)), fm_W μ' τ) ∧ QI μ' τ S N C Q
  | 0, n, μ, x2, h, e => by
    refine ⟨μ, ?_, h⟩
    simp (disch := first | assumption | omega | decide) only [i113_0, i113_1, i113_2, i113_3, i113_5, i113_8, i113_9, i113_12, i113_13, i113_14, i113_15, i113_16, i113_19, i113_20, i113_22, i113_23, i113_26, i113_27, i113_30, i113_31, i113_34, i113_37, i113_38, i113_39, i113_42, i113_45, i113_47, ix_pv_s, ix_pi_s, zpn, ix_po_s, ix_po_n, ix_ph_s, ix_bk_v, ix_bk_n, zcv, zcv_ne, ↓reduceIte, Nat.reduceEqDiff, zn_m1, zd_lt_p, zd_lt_n, zd_le_p, zd_le_n, zd_eq_p, zd_eq_n, zd_0_p, zd_0_n, zd_0lt_p, zd_0lt_n, zd_le0_p, zd_le0_n, zn_lt0, zn_le0, zn_add, zn_mul, zn_sub, zm_lt, zm_le, zm_eq, zb_1, zb_0, not_true_eq_false, not_false_eq_true, t0_c, t0_g0, t0_g1, t0_g2, t0_g3, t0_g4, t0_g5, t0_g6, t0_g7, t0_g8, t0_g9, t0_g10, t0_s11, t0_g12, t0_s12, t0_g13, t0_g14, t0_g15, t0_g16, t0_c, rw_c, stopV]
  | k + 1, n, μ, x2, h, e => by
    have hb := QI_b h
    have hn := cl_nowQ (X := X) (d := d + 3) h
    have hs : spO 50 := spp_O (u := 6) (by omega)
    obtain ⟨μ1, a1, q1, _⟩ := cl_aheadQ (X := X) (d := d + 3) (u := 6) (m := N 8 + n + 10) h (Or.inr rfl) (by omega)
    obtain ⟨μ2, a2, q2, _⟩ := cl_aheadQ (X := X) (d := d + 3) (u := 6) (m := N 8 + n) q1 (Or.inr rfl) (by omega)
    have e50 : spp 6 = 50 := rfl
    rw [e50] at a1 a2
    by_cases hq : sS (rn S (csN N C) 6) (N 8 + n + 10) = sS (rn S (csN N C) 6) (N 8 + n)
    · refine ⟨μ2, ?_, q2⟩
      rw [stopV, if_pos hq, i113_2]
      simp (disch := first | assumption | omega | decide) only [i113_0, i113_1, i113_3, i113_5, i113_8, i113_9, i113_12, i113_13, i113_14, i113_15, i113_16, i113_19, i113_20, i113_22, i113_23, i113_26, i113_27, i113_30, i113_31, i113_34, i113_37, i113_38, i113_39, i113_42, i113_45, i113_47, ix_pv_s, ix_pi_s, zpn, ix_po_s, ix_po_n, ix_ph_s, ix_bk_v, ix_bk_n, zcv, zcv_ne, ↓reduceIte, Nat.reduceEqDiff, zn_m1, zd_lt_p, zd_lt_n, zd_le_p, zd_le_n, zd_eq_p, zd_eq_n, zd_0_p, zd_0_n, zd_0lt_p, zd_0lt_n, zd_le0_p, zd_le0_n, zn_lt0, zn_le0, zn_add, zn_mul, zn_sub, zm_lt, zm_le, zm_eq, zb_1, zb_0, not_true_eq_false, not_false_eq_true, t0_c, t0_g0, t0_g1, t0_g2, t0_g3, t0_g4, t0_g5, t0_g6, t0_g7, t0_g8, t0_g9, t0_g10, t0_s11, t0_g12, t0_s12, t0_g13, t0_g14, t0_g15, t0_g16, t0_c, rw_c, hn, sp_c, a1, a2, hq, not_true_eq_false]
    · obtain ⟨μ3, a3, q3⟩ := cl_stopL k (n + 1) μ2 (some (.int (nI (N 8 + n)))) q2 (by omega)
      refine ⟨μ3, ?_, q3⟩
      rw [stopV, if_neg hq, ← a3, i113_2]
      simp (disch := first | assumption | omega | decide) only [i113_0, i113_1, i113_3, i113_5, i113_8, i113_9, i113_12, i113_13, i113_14, i113_15, i113_16, i113_19, i113_20, i113_22, i113_23, i113_26, i113_27, i113_30, i113_31, i113_34, i113_37, i113_38, i113_39, i113_42, i113_45, i113_47, ix_pv_s, ix_pi_s, zpn, ix_po_s, ix_po_n, ix_ph_s, ix_bk_v, ix_bk_n, zcv, zcv_ne, ↓reduceIte, Nat.reduceEqDiff, zn_m1, zd_lt_p, zd_lt_n, zd_le_p, zd_le_n, zd_eq_p, zd_eq_n, zd_0_p, zd_0_n, zd_0lt_p, zd_0lt_n, zd_le0_p, zd_le0_n, zn_lt0, zn_le0, zn_add, zn_mul, zn_sub, zm_lt, zm_le, zm_eq, zb_1, zb_0, not_true_eq_false, not_false_eq_true, t0_c, t0_g0, t0_g1, t0_g2, t0_g3, t0_g4, t0_g5, t0_g6, t0_g7, t0_g8, t0_g9, t0_g10, t0_s11, t0_g12, t0_s12, t0_g13, t0_g14, t0_g15, t0_g16, t0_c, rw_c, hn, sp_c, a1, a2, hq]
theorem mo_stopL : ∀ (k n : Nat) (μ : fm_M) (x2 : Option Value), QI μ τ S N C Q → n + k = 100 → ∃ μ' : fm_M, ix_sem X (d + 5) 199 2 [some (.ref 67), some (.int (nI n)), x2] [] (fm_W μ τ) = some (some (.int (stopV (sS (rn S (csN N C) 6)) (N 8) k n)), fm_W μ' τ) ∧ QI μ' τ S N C Q
  | 0, n, μ, x2, h, e => by
    refine ⟨μ, ?_, h⟩
    simp (disch := first | assumption | omega | decide) only [i199_0, i199_1, i199_2, i199_3, i199_5, i199_8, i199_9, i199_12, i199_14, i199_15, i199_16, i199_17, i199_18, i199_19, i199_21, i199_22, i199_24, i199_25, i199_28, i199_29, i199_31, i199_32, i199_33, i199_34, i199_37, i199_40, i199_41, i199_42, i199_45, i199_48, i199_50, ix_pv_s, ix_pi_s, zpn, ix_po_s, ix_po_n, ix_ph_s, ix_bk_v, ix_bk_n, zcv, zcv_ne, ↓reduceIte, Nat.reduceEqDiff, zn_m1, zd_lt_p, zd_lt_n, zd_le_p, zd_le_n, zd_eq_p, zd_eq_n, zd_0_p, zd_0_n, zd_0lt_p, zd_0lt_n, zd_le0_p, zd_le0_n, zn_lt0, zn_le0, zn_add, zn_mul, zn_sub, zm_lt, zm_le, zm_eq, zb_1, zb_0, not_true_eq_false, not_false_eq_true, mo_c, mo_g0, mo_s0, mo_g1, mo_g2, mo_g3, mo_s3, mo_g4, mo_s4, mo_g5, mo_s5, mo_g6, mo_s6, mo_g7, mo_s7, mo_g8, mo_s8, mo_g9, mo_g10, mo_g11, mo_g12, mo_g13, mo_s13, mo_g14, mo_s14, mo_g15, mo_s15, mo_g16, mo_g17, mo_s17, mo_g18, mo_s18, mo_g19, mo_g20, mo_s20, mo_g21, mo_s21, mo_g22, mo_s22, mo_g23, mo_s23, ra_25, wa_25, al_25, ra_68, wa_68, al_68, ra_69, wa_69, al_69, ra_70, wa_70, al_70, ra_71, wa_71, al_71, ra_72, wa_72, al_72, ra_73, wa_73, al_73, ra_74, wa_74, al_74, ra_75, wa_75, al_75, stopV]
  | k + 1, n, μ, x2, h, e => by
    have hb := QI_b h
    have e68 := QI_68 h
    have e8 := QI_S h (k := 8) (by decide) (by decide)
    obtain ⟨μ1, a1, q1, _⟩ := mo_fellQ (X := X) (d := d + 2) (u := 6) (m := N 8 + n + 9) h (Or.inr rfl) (by omega)
    obtain ⟨μ2, a2, q2, _⟩ := mo_fellP (X := X) (d := d + 2) (u := 6) (m := N 8 + n) q1 (Or.inr rfl) (by omega)
    rw [show N 8 + n + 9 + 1 = N 8 + n + 10 by omega] at a1
    by_cases hq : sS (rn S (csN N C) 6) (N 8 + n + 10) = sS (rn S (csN N C) 6) (N 8 + n)
    · refine ⟨μ2, ?_, q2⟩
      rw [stopV, if_pos hq, i199_2]
      simp (disch := first | assumption | omega | decide) only [i199_0, i199_1, i199_3, i199_5, i199_8, i199_9, i199_12, i199_14, i199_15, i199_16, i199_17, i199_18, i199_19, i199_21, i199_22, i199_24, i199_25, i199_28, i199_29, i199_31, i199_32, i199_33, i199_34, i199_37, i199_40, i199_41, i199_42, i199_45, i199_48, i199_50, ix_pv_s, ix_pi_s, zpn, ix_po_s, ix_po_n, ix_ph_s, ix_bk_v, ix_bk_n, zcv, zcv_ne, ↓reduceIte, Nat.reduceEqDiff, mo_c, mo_g0, mo_s0, mo_g1, mo_g2, mo_g3, mo_s3, mo_g4, mo_s4, mo_g5, mo_s5, mo_g6, mo_s6, mo_g7, mo_s7, mo_g8, mo_s8, mo_g9, mo_g10, mo_g11, mo_g12, mo_g13, mo_s13, mo_g14, mo_s14, mo_g15, mo_s15, mo_g16, mo_g17, mo_s17, mo_g18, mo_s18, mo_g19, mo_g20, mo_s20, mo_g21, mo_s21, mo_g22, mo_s22, mo_g23, mo_s23, ra_25, wa_25, al_25, ra_68, wa_68, al_68, ra_69, wa_69, al_69, ra_70, wa_70, al_70, ra_71, wa_71, al_71, ra_72, wa_72, al_72, ra_73, wa_73, al_73, ra_74, wa_74, al_74, ra_75, wa_75, al_75, zd_lt_p, zd_lt_n, zd_le_p, zd_le_n, zn_add, e68, e8, a1, a2, hq, not_true_eq_false]
    · obtain ⟨μ3, a3, q3⟩ := mo_stopL k (n + 1) μ2 (some (.int (nI (N 8 + n)))) q2 (by omega)
      refine ⟨μ3, ?_, q3⟩
      rw [stopV, if_neg hq, ← a3, i199_2]
      simp (disch := first | assumption | omega | decide) only [i199_0, i199_1, i199_3, i199_5, i199_8, i199_9, i199_12, i199_14, i199_15, i199_16, i199_17, i199_18, i199_19, i199_21, i199_22, i199_24, i199_25, i199_28, i199_29, i199_31, i199_32, i199_33, i199_34, i199_37, i199_40, i199_41, i199_42, i199_45, i199_48, i199_50, ix_pv_s, ix_pi_s, zpn, ix_po_s, ix_po_n, ix_ph_s, ix_bk_v, ix_bk_n, zcv, zcv_ne, ↓reduceIte, Nat.reduceEqDiff, mo_c, mo_g0, mo_s0, mo_g1, mo_g2, mo_g3, mo_s3, mo_g4, mo_s4, mo_g5, mo_s5, mo_g6, mo_s6, mo_g7, mo_s7, mo_g8, mo_s8, mo_g9, mo_g10, mo_g11, mo_g12, mo_g13, mo_s13, mo_g14, mo_s14, mo_g15, mo_s15, mo_g16, mo_g17, mo_s17, mo_g18, mo_s18, mo_g19, mo_g20, mo_s20, mo_g21, mo_s21, mo_g22, mo_s22, mo_g23, mo_s23, ra_25, wa_25, al_25, ra_68, wa_68, al_68, ra_69, wa_69, al_69, ra_70, wa_70, al_70, ra_71, wa_71, al_71, ra_72, wa_72, al_72, ra_73, wa_73, al_73, ra_74, wa_74, al_74, ra_75, wa_75, al_75, zd_lt_p, zd_lt_n, zd_le_p, zd_le_n, zn_add, e68, e8, a1, a2, hq, not_false_eq_true]
theorem agr_stops : agr X (d + 6) τ S N C Q 113 199 [] := by
  intro μ h
  obtain ⟨μ1, a1, q1⟩ := cl_stopL (X := X) (d := d + 1) (τ := τ) 100 0 μ none h rfl
  obtain ⟨μ2, a2, q2⟩ := mo_stopL (X := X) (d := d + 1) (τ := τ) 100 0 μ1 none q1 rfl
  refine ⟨_, μ1, μ2, ?_, ?_, q2⟩
  rotate_left
  · rw [← a2]
    simp (disch := first | assumption | omega | decide) only [e199, i199_0, i199_1, i199_3, i199_5, i199_8, i199_9, i199_12, i199_14, i199_15, i199_16, i199_17, i199_18, i199_19, i199_21, i199_22, i199_24, i199_25, i199_28, i199_29, i199_31, i199_32, i199_33, i199_34, i199_37, i199_40, i199_41, i199_42, i199_45, i199_48, i199_50, ix_pv_s, ix_pi_s, zpn, ix_po_s, ix_po_n, ix_ph_s, ix_bk_v, ix_bk_n, zcv, zcv_ne, ↓reduceIte, Nat.reduceEqDiff, zn_m1, zd_lt_p, zd_lt_n, zd_le_p, zd_le_n, zd_eq_p, zd_eq_n, zd_0_p, zd_0_n, zd_0lt_p, zd_0lt_n, zd_le0_p, zd_le0_n, zn_lt0, zn_le0, zn_add, zn_mul, zn_sub, zm_lt, zm_le, zm_eq, zb_1, zb_0, not_true_eq_false, not_false_eq_true, mo_c, mo_g0, mo_s0, mo_g1, mo_g2, mo_g3, mo_s3, mo_g4, mo_s4, mo_g5, mo_s5, mo_g6, mo_s6, mo_g7, mo_s7, mo_g8, mo_s8, mo_g9, mo_g10, mo_g11, mo_g12, mo_g13, mo_s13, mo_g14, mo_s14, mo_g15, mo_s15, mo_g16, mo_g17, mo_s17, mo_g18, mo_s18, mo_g19, mo_g20, mo_s20, mo_g21, mo_s21, mo_g22, mo_s22, mo_g23, mo_s23, ra_25, wa_25, al_25, ra_68, wa_68, al_68, ra_69, wa_69, al_69, ra_70, wa_70, al_70, ra_71, wa_71, al_71, ra_72, wa_72, al_72, ra_73, wa_73, al_73, ra_74, wa_74, al_74, ra_75, wa_75, al_75]
  · rw [← a1]
    simp (disch := first | assumption | omega | decide) only [e113, i113_0, i113_1, i113_3, i113_5, i113_8, i113_9, i113_12, i113_13, i113_14, i113_15, i113_16, i113_19, i113_20, i113_22, i113_23, i113_26, i113_27, i113_30, i113_31, i113_34, i113_37, i113_38, i113_39, i113_42, i113_45, i113_47, ix_pv_s, ix_pi_s, zpn, ix_po_s, ix_po_n, ix_ph_s, ix_bk_v, ix_bk_n, zcv, zcv_ne, ↓reduceIte, Nat.reduceEqDiff, zn_m1, zd_lt_p, zd_lt_n, zd_le_p, zd_le_n, zd_eq_p, zd_eq_n, zd_0_p, zd_0_n, zd_0lt_p, zd_0lt_n, zd_le0_p, zd_le0_n, zn_lt0, zn_le0, zn_add, zn_mul, zn_sub, zm_lt, zm_le, zm_eq, zb_1, zb_0, not_true_eq_false, not_false_eq_true, t0_c, t0_g0, t0_g1, t0_g2, t0_g3, t0_g4, t0_g5, t0_g6, t0_g7, t0_g8, t0_g9, t0_g10, t0_s11, t0_g12, t0_s12, t0_g13, t0_g14, t0_g15, t0_g16, t0_c, rw_c]
theorem cl_soakL {i : Nat} (hi : i < N 1) : ∀ (k n : Nat) (μ : fm_M) (x3 : Option Value), QI μ τ S N C Q → n + k = 61 → ∃ μ' : fm_M, ix_sem X (d + 5) 103 15 [some (.ref 0), some (.int (nI i)), some (.int (nI n)), x3] [] (fm_W μ τ) = some (some (.int (soakV S (sS (rn S (csN N C) 6)) (N 8) (S (64 + i)) k n)), fm_W μ' τ) ∧ QI μ' τ S N C Q
  | 0, n, μ, x3, h, e => by
    refine ⟨μ, ?_, h⟩
    simp (disch := first | assumption | omega | decide) only [i103_0, i103_1, i103_4, i103_5, i103_8, i103_11, i103_12, i103_13, i103_14, i103_15, i103_16, i103_18, i103_21, i103_22, i103_25, i103_26, i103_29, i103_30, i103_31, i103_34, i103_35, i103_38, i103_39, i103_42, i103_45, i103_46, i103_47, i103_48, i103_49, i103_50, i103_51, i103_54, i103_57, i103_58, i103_61, i103_64, i103_67, i103_68, i103_69, i103_72, i103_75, i103_77, ix_pv_s, ix_pi_s, zpn, ix_po_s, ix_po_n, ix_ph_s, ix_bk_v, ix_bk_n, zcv, zcv_ne, ↓reduceIte, Nat.reduceEqDiff, zn_m1, zd_lt_p, zd_lt_n, zd_le_p, zd_le_n, zd_eq_p, zd_eq_n, zd_0_p, zd_0_n, zd_0lt_p, zd_0lt_n, zd_le0_p, zd_le0_n, zn_lt0, zn_le0, zn_add, zn_mul, zn_sub, zm_lt, zm_le, zm_eq, zb_1, zb_0, not_true_eq_false, not_false_eq_true, t0_c, t0_g0, t0_g1, t0_g2, t0_g3, t0_g4, t0_g5, t0_g6, t0_g7, t0_g8, t0_g9, t0_g10, t0_s11, t0_g12, t0_s12, t0_g13, t0_g14, t0_g15, t0_g16, t0_c, rw_c, soakV]
  | k + 1, n, μ, x3, h, e => by
    have hb := QI_b h
    have hn := cl_nowQ (X := X) (d := d + 3) h
    have hs : spO 50 := spp_O (u := 6) (by omega)
    obtain ⟨μ1, a1, q1, _⟩ := cl_aheadQ (X := X) (d := d + 3) (u := 6) (m := N 8 + n) h (Or.inr rfl) (by omega)
    have hn1 := cl_nowQ (X := X) (d := d + 3) q1
    obtain ⟨μ2, a2, q2, _⟩ := cl_aheadQ (X := X) (d := d + 3) (u := 6) (m := N 8) q1 (Or.inr rfl) (by omega)
    have hc := cl_coatQ (X := X) (d := d + 3) q2 hi
    have e50 : spp 6 = 50 := rfl
    rw [e50] at a1 a2
    obtain ⟨hO, g1, g2, g3⟩ := QI_he q2
    have h31 : 26 + 4 * N 2 < 2147483648 := by omega
    have hw := cl_wetBy (X := X) (d := d + 4) (τ := τ) (gt := sS (rn S (csN N C) 6) (N 8 + n) - sS (rn S (csN N C) 6) (N 8)) (coat := S (64 + i)) (QI_he q2)
    by_cases hq : wbS S (sS (rn S (csN N C) 6) (N 8 + n) - sS (rn S (csN N C) 6) (N 8)) (S (64 + i)) = skS S
    · refine ⟨μ2, ?_, q2⟩
      rw [soakV, if_pos hq, i103_15]
      simp (disch := first | assumption | omega | decide) only [i103_0, i103_1, i103_4, i103_5, i103_8, i103_11, i103_12, i103_13, i103_14, i103_16, i103_18, i103_21, i103_22, i103_25, i103_26, i103_29, i103_30, i103_31, i103_34, i103_35, i103_38, i103_39, i103_42, i103_45, i103_46, i103_47, i103_48, i103_49, i103_50, i103_51, i103_54, i103_57, i103_58, i103_61, i103_64, i103_67, i103_68, i103_69, i103_72, i103_75, i103_77, ix_pv_s, ix_pi_s, zpn, ix_po_s, ix_po_n, ix_ph_s, ix_bk_v, ix_bk_n, zcv, zcv_ne, ↓reduceIte, Nat.reduceEqDiff, zn_m1, zd_lt_p, zd_lt_n, zd_le_p, zd_le_n, zd_eq_p, zd_eq_n, zd_0_p, zd_0_n, zd_0lt_p, zd_0lt_n, zd_le0_p, zd_le0_n, zn_lt0, zn_le0, zn_add, zn_mul, zn_sub, zm_lt, zm_le, zm_eq, zb_1, zb_0, not_true_eq_false, not_false_eq_true, t0_c, t0_g0, t0_g1, t0_g2, t0_g3, t0_g4, t0_g5, t0_g6, t0_g7, t0_g8, t0_g9, t0_g10, t0_s11, t0_g12, t0_s12, t0_g13, t0_g14, t0_g15, t0_g16, t0_c, rw_c, hn, hn1, sp_c, a1, a2, hc, hw, t0_g11 g1, pk_g0 hO, g2, hq, not_true_eq_false]
    · obtain ⟨μ3, a3, q3⟩ := cl_soakL hi k (n + 1) μ2 (some (.int (sS (rn S (csN N C) 6) (N 8 + n) - sS (rn S (csN N C) 6) (N 8)))) q2 (by omega)
      refine ⟨μ3, ?_, q3⟩
      rw [soakV, if_neg hq, ← a3, i103_15]
      simp (disch := first | assumption | omega | decide) only [i103_0, i103_1, i103_4, i103_5, i103_8, i103_11, i103_12, i103_13, i103_14, i103_16, i103_18, i103_21, i103_22, i103_25, i103_26, i103_29, i103_30, i103_31, i103_34, i103_35, i103_38, i103_39, i103_42, i103_45, i103_46, i103_47, i103_48, i103_49, i103_50, i103_51, i103_54, i103_57, i103_58, i103_61, i103_64, i103_67, i103_68, i103_69, i103_72, i103_75, i103_77, ix_pv_s, ix_pi_s, zpn, ix_po_s, ix_po_n, ix_ph_s, ix_bk_v, ix_bk_n, zcv, zcv_ne, ↓reduceIte, Nat.reduceEqDiff, zn_m1, zd_lt_p, zd_lt_n, zd_le_p, zd_le_n, zd_eq_p, zd_eq_n, zd_0_p, zd_0_n, zd_0lt_p, zd_0lt_n, zd_le0_p, zd_le0_n, zn_lt0, zn_le0, zn_add, zn_mul, zn_sub, zm_lt, zm_le, zm_eq, zb_1, zb_0, not_true_eq_false, not_false_eq_true, t0_c, t0_g0, t0_g1, t0_g2, t0_g3, t0_g4, t0_g5, t0_g6, t0_g7, t0_g8, t0_g9, t0_g10, t0_s11, t0_g12, t0_s12, t0_g13, t0_g14, t0_g15, t0_g16, t0_c, rw_c, hn, hn1, sp_c, a1, a2, hc, hw, t0_g11 g1, pk_g0 hO, g2, hq]
theorem mo_soakL {i : Nat} (hi : i < N 1) : ∀ (k n : Nat) (μ : fm_M), QI μ τ S N C Q → mtw μ (0, N 8 + n, sS (rn S (csN N C) 6) (N 8 + n) - sS (rn S (csN N C) 6) (N 8)) → n + k = 61 → ∃ μ' : fm_M, ix_sem X (d + 5) 190 17 [some (.ref 67), some (.int (nI i)), some (.int (nI n))] [] (fm_W μ τ) = some (some (.int (soakV S (sS (rn S (csN N C) 6)) (N 8) (S (64 + i)) k n)), fm_W μ' τ) ∧ QI μ' τ S N C Q
  | 0, n, μ, h, hw, e => by
    refine ⟨μ, ?_, h⟩
    simp (disch := first | assumption | omega | decide) only [i190_0, i190_1, i190_2, i190_5, i190_8, i190_9, i190_10, i190_11, i190_12, i190_15, i190_16, i190_17, i190_18, i190_20, i190_23, i190_24, i190_25, i190_28, i190_30, i190_31, i190_32, i190_33, i190_36, i190_37, i190_40, i190_42, i190_45, i190_48, i190_49, i190_50, i190_51, i190_52, i190_55, i190_56, i190_58, i190_59, i190_62, i190_65, i190_66, i190_69, i190_70, i190_71, i190_74, i190_75, i190_76, i190_79, i190_82, i190_85, i190_87, ix_pv_s, ix_pi_s, zpn, ix_po_s, ix_po_n, ix_ph_s, ix_bk_v, ix_bk_n, zcv, zcv_ne, ↓reduceIte, Nat.reduceEqDiff, zn_m1, zd_lt_p, zd_lt_n, zd_le_p, zd_le_n, zd_eq_p, zd_eq_n, zd_0_p, zd_0_n, zd_0lt_p, zd_0lt_n, zd_le0_p, zd_le0_n, zn_lt0, zn_le0, zn_add, zn_mul, zn_sub, zm_lt, zm_le, zm_eq, zb_1, zb_0, not_true_eq_false, not_false_eq_true, mo_c, mo_g0, mo_s0, mo_g1, mo_g2, mo_g3, mo_s3, mo_g4, mo_s4, mo_g5, mo_s5, mo_g6, mo_s6, mo_g7, mo_s7, mo_g8, mo_s8, mo_g9, mo_g10, mo_g11, mo_g12, mo_g13, mo_s13, mo_g14, mo_s14, mo_g15, mo_s15, mo_g16, mo_g17, mo_s17, mo_g18, mo_s18, mo_g19, mo_g20, mo_s20, mo_g21, mo_s21, mo_g22, mo_s22, mo_g23, mo_s23, ra_25, wa_25, al_25, ra_68, wa_68, al_68, ra_69, wa_69, al_69, ra_70, wa_70, al_70, ra_71, wa_71, al_71, ra_72, wa_72, al_72, ra_73, wa_73, al_73, ra_74, wa_74, al_74, ra_75, wa_75, al_75, soakV]
  | k + 1, n, μ, h, hw, e => by
    have hb := QI_b h
    have e68 := QI_68 h
    have k1 := mo_wetQ (X := X) (d := d + 3) (coat := S (64 + i)) h hw
    have k2 := mo_soak (X := X) (d := d + 4) (τ := τ) h.2.2.2
    obtain ⟨t1, t2, t3⟩ := hw
    simp only at t1 t2 t3 k1
    by_cases hq : wbS S (sS (rn S (csN N C) 6) (N 8 + n) - sS (rn S (csN N C) 6) (N 8)) (S (64 + i)) = skS S
    · refine ⟨μ, ?_, h⟩
      rw [soakV, if_pos hq, i190_17]
      simp (disch := first | assumption | omega | decide) only [i190_0, i190_1, i190_2, i190_5, i190_8, i190_9, i190_10, i190_11, i190_12, i190_15, i190_16, i190_18, i190_20, i190_23, i190_24, i190_25, i190_28, i190_30, i190_31, i190_32, i190_33, i190_36, i190_37, i190_40, i190_42, i190_45, i190_48, i190_49, i190_50, i190_51, i190_52, i190_55, i190_56, i190_58, i190_59, i190_62, i190_65, i190_66, i190_69, i190_70, i190_71, i190_74, i190_75, i190_76, i190_79, i190_82, i190_85, i190_87, ix_pv_s, ix_pi_s, zpn, ix_po_s, ix_po_n, ix_ph_s, ix_bk_v, ix_bk_n, zcv, zcv_ne, ↓reduceIte, Nat.reduceEqDiff, zn_m1, zd_lt_p, zd_lt_n, zd_le_p, zd_le_n, zd_eq_p, zd_eq_n, zd_0_p, zd_0_n, zd_0lt_p, zd_0lt_n, zd_le0_p, zd_le0_n, zn_lt0, zn_le0, zn_add, zn_mul, zn_sub, zm_lt, zm_le, zm_eq, zb_1, zb_0, not_true_eq_false, not_false_eq_true, mo_c, mo_g0, mo_s0, mo_g1, mo_g2, mo_g3, mo_s3, mo_g4, mo_s4, mo_g5, mo_s5, mo_g6, mo_s6, mo_g7, mo_s7, mo_g8, mo_s8, mo_g9, mo_g10, mo_g11, mo_g12, mo_g13, mo_s13, mo_g14, mo_s14, mo_g15, mo_s15, mo_g16, mo_g17, mo_s17, mo_g18, mo_s18, mo_g19, mo_g20, mo_s20, mo_g21, mo_s21, mo_g22, mo_s22, mo_g23, mo_s23, ra_25, wa_25, al_25, ra_68, wa_68, al_68, ra_69, wa_69, al_69, ra_70, wa_70, al_70, ra_71, wa_71, al_71, ra_72, wa_72, al_72, ra_73, wa_73, al_73, ra_74, wa_74, al_74, ra_75, wa_75, al_75, e68, k1, k2, hq, not_true_eq_false]
    · obtain ⟨μ1, a1, q1, f1⟩ := mo_rainQ (X := X) (d := d + 1) (u := 6) (m := N 8 + n) h (Or.inr rfl) (by omega)
      have q67 : μ1 67 = μ 67 := f1 67 (by decide) (by decide) (by decide) (by decide)
      have tel := i32_tel (sS (rn S (csN N C) 6) (N 8 + n)) (sS (rn S (csN N C) 6) (N 8)) (sS (rn S (csN N C) 6) (N 8 + n + 1))
      have q2 : QI (fm_u (fm_u μ1 67 15 (sS (rn S (csN N C) 6) (N 8 + n + 1) - sS (rn S (csN N C) 6) (N 8))) 67 14 (nI (N 8 + n + 1))) τ S N C Q := QI_mg q1 (mg_trans (mg_u (by decide)) (mg_u (by decide))) (mk2_u (mk2_u q1.2.2.2))
      obtain ⟨μ3, a3, q3⟩ := mo_soakL hi k (n + 1) _ q2 ⟨by rw [fm_uk (by decide), fm_uk (by decide), q67]; exact t1, fm_us, by rw [fm_uk (by decide), fm_us]; rfl⟩ (by omega)
      refine ⟨μ3, ?_, q3⟩
      rw [soakV, if_neg hq, ← a3, i190_17]
      simp (disch := first | assumption | omega | decide) only [i190_0, i190_1, i190_2, i190_5, i190_8, i190_9, i190_10, i190_11, i190_12, i190_15, i190_16, i190_18, i190_20, i190_23, i190_24, i190_25, i190_28, i190_30, i190_31, i190_32, i190_33, i190_36, i190_37, i190_40, i190_42, i190_45, i190_48, i190_49, i190_50, i190_51, i190_52, i190_55, i190_56, i190_58, i190_59, i190_62, i190_65, i190_66, i190_69, i190_70, i190_71, i190_74, i190_75, i190_76, i190_79, i190_82, i190_85, i190_87, ix_pv_s, ix_pi_s, zpn, ix_po_s, ix_po_n, ix_ph_s, ix_bk_v, ix_bk_n, zcv, zcv_ne, ↓reduceIte, Nat.reduceEqDiff, zn_m1, zd_lt_p, zd_lt_n, zd_le_p, zd_le_n, zd_eq_p, zd_eq_n, zd_0_p, zd_0_n, zd_0lt_p, zd_0lt_n, zd_le0_p, zd_le0_n, zn_lt0, zn_le0, zn_add, zn_mul, zn_sub, zm_lt, zm_le, zm_eq, zb_1, zb_0, not_true_eq_false, not_false_eq_true, mo_c, mo_g0, mo_s0, mo_g1, mo_g2, mo_g3, mo_s3, mo_g4, mo_s4, mo_g5, mo_s5, mo_g6, mo_s6, mo_g7, mo_s7, mo_g8, mo_s8, mo_g9, mo_g10, mo_g11, mo_g12, mo_g13, mo_s13, mo_g14, mo_s14, mo_g15, mo_s15, mo_g16, mo_g17, mo_s17, mo_g18, mo_s18, mo_g19, mo_g20, mo_s20, mo_g21, mo_s21, mo_g22, mo_s22, mo_g23, mo_s23, ra_25, wa_25, al_25, ra_68, wa_68, al_68, ra_69, wa_69, al_69, ra_70, wa_70, al_70, ra_71, wa_71, al_71, ra_72, wa_72, al_72, ra_73, wa_73, al_73, ra_74, wa_74, al_74, ra_75, wa_75, al_75, e68, k1, k2, hq, t2, t3, a1, q67, tel, fm_uk, fm_us]
theorem agr_soaked {a : Int32} : agr X (d + 6) τ S N C Q 103 190 [.int a] := by
  intro μ h
  by_cases ha : inS a (N 1)
  · obtain ⟨i, hi, rfl⟩ := ha
    have hc := cl_walker (X := X) (d := d + 5) h hi
    obtain ⟨μ1, a1, q1⟩ := cl_soakL (X := X) (d := d + 1) (τ := τ) hi 61 0 μ none h rfl
    have hm := mo_walker (X := X) (d := d + 4) q1 (inS_p hi)
    obtain ⟨μ2, a2, q2, t2, _⟩ := mo_startQ (X := X) (d := d + 5) (l := 0) q1
    obtain ⟨μ3, a3, q3⟩ := mo_soakL (X := X) (d := d + 1) (τ := τ) hi 61 0 μ2 q2 (by rw [Nat.add_zero, Int32.sub_self]; exact t2) rfl
    refine ⟨_, μ1, μ3, ?_, ?_, q3⟩
    rotate_left
    · rw [← a3]
      simp (disch := first | assumption | omega | decide) only [e190, i190_0, i190_1, i190_2, i190_5, i190_8, i190_9, i190_10, i190_11, i190_12, i190_15, i190_16, i190_18, i190_20, i190_23, i190_24, i190_25, i190_28, i190_30, i190_31, i190_32, i190_33, i190_36, i190_37, i190_40, i190_42, i190_45, i190_48, i190_49, i190_50, i190_51, i190_52, i190_55, i190_56, i190_58, i190_59, i190_62, i190_65, i190_66, i190_69, i190_70, i190_71, i190_74, i190_75, i190_76, i190_79, i190_82, i190_85, i190_87, ix_pv_s, ix_pi_s, zpn, ix_po_s, ix_po_n, ix_ph_s, ix_bk_v, ix_bk_n, zcv, zcv_ne, ↓reduceIte, Nat.reduceEqDiff, zn_m1, zd_lt_p, zd_lt_n, zd_le_p, zd_le_n, zd_eq_p, zd_eq_n, zd_0_p, zd_0_n, zd_0lt_p, zd_0lt_n, zd_le0_p, zd_le0_n, zn_lt0, zn_le0, zn_add, zn_mul, zn_sub, zm_lt, zm_le, zm_eq, zb_1, zb_0, not_true_eq_false, not_false_eq_true, mo_c, mo_g0, mo_s0, mo_g1, mo_g2, mo_g3, mo_s3, mo_g4, mo_s4, mo_g5, mo_s5, mo_g6, mo_s6, mo_g7, mo_s7, mo_g8, mo_s8, mo_g9, mo_g10, mo_g11, mo_g12, mo_g13, mo_s13, mo_g14, mo_s14, mo_g15, mo_s15, mo_g16, mo_g17, mo_s17, mo_g18, mo_s18, mo_g19, mo_g20, mo_s20, mo_g21, mo_s21, mo_g22, mo_s22, mo_g23, mo_s23, ra_25, wa_25, al_25, ra_68, wa_68, al_68, ra_69, wa_69, al_69, ra_70, wa_70, al_70, ra_71, wa_71, al_71, ra_72, wa_72, al_72, ra_73, wa_73, al_73, ra_74, wa_74, al_74, ra_75, wa_75, al_75, hm, a2]
    · rw [← a1]
      simp (disch := first | assumption | omega | decide) only [e103, i103_0, i103_1, i103_4, i103_5, i103_8, i103_11, i103_12, i103_13, i103_14, i103_16, i103_18, i103_21, i103_22, i103_25, i103_26, i103_29, i103_30, i103_31, i103_34, i103_35, i103_38, i103_39, i103_42, i103_45, i103_46, i103_47, i103_48, i103_49, i103_50, i103_51, i103_54, i103_57, i103_58, i103_61, i103_64, i103_67, i103_68, i103_69, i103_72, i103_75, i103_77, ix_pv_s, ix_pi_s, zpn, ix_po_s, ix_po_n, ix_ph_s, ix_bk_v, ix_bk_n, zcv, zcv_ne, ↓reduceIte, Nat.reduceEqDiff, zn_m1, zd_lt_p, zd_lt_n, zd_le_p, zd_le_n, zd_eq_p, zd_eq_n, zd_0_p, zd_0_n, zd_0lt_p, zd_0lt_n, zd_le0_p, zd_le0_n, zn_lt0, zn_le0, zn_add, zn_mul, zn_sub, zm_lt, zm_le, zm_eq, zb_1, zb_0, not_true_eq_false, not_false_eq_true, t0_c, t0_g0, t0_g1, t0_g2, t0_g3, t0_g4, t0_g5, t0_g6, t0_g7, t0_g8, t0_g9, t0_g10, t0_s11, t0_g12, t0_s12, t0_g13, t0_g14, t0_g15, t0_g16, t0_c, rw_c, hc]
  · have hc := cl_walkerN (X := X) (d := d + 5) h ha
    have hm := mo_walkerN (X := X) (d := d + 4) h ha
    refine ⟨-1, μ, μ, ?_, ?_, h⟩
    · simp (disch := first | assumption | omega | decide) only [e103, i103_0, i103_1, i103_4, i103_5, i103_8, i103_11, i103_12, i103_13, i103_14, i103_15, i103_16, i103_18, i103_21, i103_22, i103_25, i103_26, i103_29, i103_30, i103_31, i103_34, i103_35, i103_38, i103_39, i103_42, i103_45, i103_46, i103_47, i103_48, i103_49, i103_50, i103_51, i103_54, i103_57, i103_58, i103_61, i103_64, i103_67, i103_68, i103_69, i103_72, i103_75, i103_77, ix_pv_s, ix_pi_s, zpn, ix_po_s, ix_po_n, ix_ph_s, ix_bk_v, ix_bk_n, zcv, zcv_ne, ↓reduceIte, Nat.reduceEqDiff, zn_m1, zd_lt_p, zd_lt_n, zd_le_p, zd_le_n, zd_eq_p, zd_eq_n, zd_0_p, zd_0_n, zd_0lt_p, zd_0lt_n, zd_le0_p, zd_le0_n, zn_lt0, zn_le0, zn_add, zn_mul, zn_sub, zm_lt, zm_le, zm_eq, zb_1, zb_0, not_true_eq_false, not_false_eq_true, t0_c, t0_g0, t0_g1, t0_g2, t0_g3, t0_g4, t0_g5, t0_g6, t0_g7, t0_g8, t0_g9, t0_g10, t0_s11, t0_g12, t0_s12, t0_g13, t0_g14, t0_g15, t0_g16, t0_c, rw_c, hc]
    · simp (disch := first | assumption | omega | decide) only [e190, i190_0, i190_1, i190_2, i190_5, i190_8, i190_9, i190_10, i190_11, i190_12, i190_15, i190_16, i190_17, i190_18, i190_20, i190_23, i190_24, i190_25, i190_28, i190_30, i190_31, i190_32, i190_33, i190_36, i190_37, i190_40, i190_42, i190_45, i190_48, i190_49, i190_50, i190_51, i190_52, i190_55, i190_56, i190_58, i190_59, i190_62, i190_65, i190_66, i190_69, i190_70, i190_71, i190_74, i190_75, i190_76, i190_79, i190_82, i190_85, i190_87, ix_pv_s, ix_pi_s, zpn, ix_po_s, ix_po_n, ix_ph_s, ix_bk_v, ix_bk_n, zcv, zcv_ne, ↓reduceIte, Nat.reduceEqDiff, zn_m1, zd_lt_p, zd_lt_n, zd_le_p, zd_le_n, zd_eq_p, zd_eq_n, zd_0_p, zd_0_n, zd_0lt_p, zd_0lt_n, zd_le0_p, zd_le0_n, zn_lt0, zn_le0, zn_add, zn_mul, zn_sub, zm_lt, zm_le, zm_eq, zb_1, zb_0, not_true_eq_false, not_false_eq_true, mo_c, mo_g0, mo_s0, mo_g1, mo_g2, mo_g3, mo_s3, mo_g4, mo_s4, mo_g5, mo_s5, mo_g6, mo_s6, mo_g7, mo_s7, mo_g8, mo_s8, mo_g9, mo_g10, mo_g11, mo_g12, mo_g13, mo_s13, mo_g14, mo_s14, mo_g15, mo_s15, mo_g16, mo_g17, mo_s17, mo_g18, mo_s18, mo_g19, mo_g20, mo_s20, mo_g21, mo_s21, mo_g22, mo_s22, mo_g23, mo_s23, ra_25, wa_25, al_25, ra_68, wa_68, al_68, ra_69, wa_69, al_69, ra_70, wa_70, al_70, ra_71, wa_71, al_71, ra_72, wa_72, al_72, ra_73, wa_73, al_73, ra_74, wa_74, al_74, ra_75, wa_75, al_75, hm]
theorem QI_en (h : QI μ τ S N C Q) {i : Nat} (hi : i < N 5) : S (85 + i) = nI (nS S (85 + i)) ∧ nS S (85 + i) < N 0 ∧ S (93 + i) = nI (nS S (93 + i)) ∧ nS S (93 + i) ≤ 999 := by
  obtain ⟨⟨t, h1, h2⟩, h3, _⟩ := h.1.2.2.2.2.2.2.2.1 i hi
  have hb := QI_b h
  obtain ⟨h4, h5⟩ := okN_nS h3 (by decide)
  rw [nS_of h2 (by omega)]
  exact ⟨h2, h1, h4, h5⟩
theorem cl_lookL : ∀ (k i : Nat) (μ : fm_M) (x2 : Option Value), QI μ τ S N C Q → i + k = N 5 → ∃ μ' : fm_M, ix_sem X (d + 5) 124 2 [some (.ref 0), some (.int (nI i)), x2] [] (fm_W μ τ) = some (some (.int (lookV S (csN N C) k i)), fm_W μ' τ) ∧ QI μ' τ S N C Q
  | 0, i, μ, x2, h, e => by
    have hb := QI_b h
    have hO : rwO 16 := rfl
    have hz : μ 16 4 = nI (N 5) := h.2.1.1.2.2.2.2.2.1.2.2.trans (QI_S h (by decide) (by decide))
    refine ⟨μ, ?_, h⟩
    simp (disch := first | assumption | omega | decide) only [i124_0, i124_1, i124_2, i124_3, i124_4, i124_7, i124_10, i124_13, i124_14, i124_15, i124_18, i124_19, i124_20, i124_23, i124_26, i124_26n, i124_27, i124_27n, i124_28n, i124_28, i124_31, i124_34, i124_34n, i124_35, i124_36, i124_39, i124_40, i124_41, i124_44, i124_47, i124_48, i124_51, i124_52, i124_53, i124_56, i124_59, i124_60, i124_61, i124_64, i124_67, i124_69, ix_pv_s, ix_pi_s, zpn, ix_po_s, ix_po_n, ix_ph_s, ix_bk_v, ix_bk_n, zcv, zcv_ne, ↓reduceIte, Nat.reduceEqDiff, zn_m1, zd_lt_p, zd_lt_n, zd_le_p, zd_le_n, zd_eq_p, zd_eq_n, zd_0_p, zd_0_n, zd_0lt_p, zd_0lt_n, zd_le0_p, zd_le0_n, zn_lt0, zn_le0, zn_add, zn_mul, zn_sub, zm_lt, zm_le, zm_eq, zb_1, zb_0, not_true_eq_false, not_false_eq_true, t0_c, t0_g0, t0_g1, t0_g2, t0_g3, t0_g4, t0_g5, t0_g6, t0_g7, t0_g8, t0_g9, t0_g10, t0_s11, t0_g12, t0_s12, t0_g13, t0_g14, t0_g15, t0_g16, t0_c, rw_c, rw_g4, hz, lookV]
  | k + 1, i, μ, x2, h, e => by
    have hb := QI_b h
    have hi : i < N 5 := by omega
    have hA : rwA 16 24 := ⟨rfl, rfl, rfl⟩
    have hO : rwO 16 := rfl
    obtain ⟨⟨w0, w1, w2⟩, wc⟩ := h.2.1.1.2.2.2.2.2
    have hz : μ 16 4 = nI (N 5) := w2.trans (QI_S h (by decide) (by decide))
    obtain ⟨c1, c2, c3⟩ := wc i hi
    obtain ⟨e1, e2, e3, e4⟩ := QI_en h hi
    have k0 := rw_cell (X := X) (d := d + 4) (τ := τ) (i := i) (c := 0) hA w1 hz hi (by decide) (by omega) (by decide) (by omega) (by decide)
    have k1 := rw_cell (X := X) (d := d + 4) (τ := τ) (i := i) (c := 1) hA w1 hz hi (by decide) (by omega) (by decide) (by omega) (by decide)
    rw [show μ (16 + 1) (i * 3 + 0) = nI (nS S (85 + i)) from c1.trans e1] at k0
    rw [show μ (16 + 1) (i * 3 + 1) = nI (nS S (93 + i)) from c2.trans e3] at k1
    have hc := cl_tree (X := X) (d := d + 2) h e2
    obtain ⟨μ1, a1, q1, _⟩ := cl_under (X := X) (d := d) (m := nS S (93 + i)) h e2 (by omega)
    obtain ⟨⟨v0, v1, v2⟩, vc⟩ := q1.2.1.1.2.2.2.2.2
    have hz1 : μ1 16 4 = nI (N 5) := v2.trans (QI_S h (by decide) (by decide))
    have k2 := rw_cell (X := X) (d := d + 4) (τ := τ) (μ := μ1) (i := i) (c := 2) hA v1 hz1 hi (by decide) (by omega) (by decide) (by omega) (by decide)
    rw [show μ1 (16 + 1) (i * 3 + 2) = S (101 + i) from (vc i hi).2.2] at k2
    by_cases hq : uS S (csN N C) (nS S (85 + i)) (nS S (93 + i)) = S (101 + i)
    · obtain ⟨μ3, a3, q3⟩ := cl_lookL k (i + 1) μ1 (some (.ref (Q (nS S (85 + i))))) q1 (by omega)
      refine ⟨μ3, ?_, q3⟩
      rw [lookV, if_pos hq, ← a3, i124_2]
      simp (disch := first | assumption | omega | decide) only [i124_0, i124_1, i124_3, i124_4, i124_7, i124_10, i124_13, i124_14, i124_15, i124_18, i124_19, i124_20, i124_23, i124_26, i124_26n, i124_27, i124_27n, i124_28n, i124_28, i124_31, i124_34, i124_34n, i124_35, i124_36, i124_39, i124_40, i124_41, i124_44, i124_47, i124_48, i124_51, i124_52, i124_53, i124_56, i124_59, i124_60, i124_61, i124_64, i124_67, i124_69, ix_pv_s, ix_pi_s, zpn, ix_po_s, ix_po_n, ix_ph_s, ix_bk_v, ix_bk_n, zcv, zcv_ne, ↓reduceIte, Nat.reduceEqDiff, zn_m1, zd_lt_p, zd_lt_n, zd_le_p, zd_le_n, zd_eq_p, zd_eq_n, zd_0_p, zd_0_n, zd_0lt_p, zd_0lt_n, zd_le0_p, zd_le0_n, zn_lt0, zn_le0, zn_add, zn_mul, zn_sub, zm_lt, zm_le, zm_eq, zb_1, zb_0, not_true_eq_false, not_false_eq_true, t0_c, t0_g0, t0_g1, t0_g2, t0_g3, t0_g4, t0_g5, t0_g6, t0_g7, t0_g8, t0_g9, t0_g10, t0_s11, t0_g12, t0_s12, t0_g13, t0_g14, t0_g15, t0_g16, t0_c, rw_c, rw_g4, hz, k0, k1, hc, a1, k2, hq]
    · refine ⟨μ1, ?_, q1⟩
      rw [lookV, if_neg hq, i124_2]
      simp (disch := first | assumption | omega | decide) only [i124_0, i124_1, i124_3, i124_4, i124_7, i124_10, i124_13, i124_14, i124_15, i124_18, i124_19, i124_20, i124_23, i124_26, i124_26n, i124_27, i124_27n, i124_28n, i124_28, i124_31, i124_34, i124_34n, i124_35, i124_36, i124_39, i124_40, i124_41, i124_44, i124_47, i124_48, i124_51, i124_52, i124_53, i124_56, i124_59, i124_60, i124_61, i124_64, i124_67, i124_69, ix_pv_s, ix_pi_s, zpn, ix_po_s, ix_po_n, ix_ph_s, ix_bk_v, ix_bk_n, zcv, zcv_ne, ↓reduceIte, Nat.reduceEqDiff, zn_m1, zd_lt_p, zd_lt_n, zd_le_p, zd_le_n, zd_eq_p, zd_eq_n, zd_0_p, zd_0_n, zd_0lt_p, zd_0lt_n, zd_le0_p, zd_le0_n, zn_lt0, zn_le0, zn_add, zn_mul, zn_sub, zm_lt, zm_le, zm_eq, zb_1, zb_0, not_true_eq_false, not_false_eq_true, t0_c, t0_g0, t0_g1, t0_g2, t0_g3, t0_g4, t0_g5, t0_g6, t0_g7, t0_g8, t0_g9, t0_g10, t0_s11, t0_g12, t0_s12, t0_g13, t0_g14, t0_g15, t0_g16, t0_c, rw_c, rw_g4, hz, k0, k1, hc, a1, k2, hq]
theorem mo_lookL : ∀ (k i : Nat) (μ : fm_M), QI μ τ S N C Q → i + k = N 5 → ∃ μ' : fm_M, ix_sem X (d + 6) 209 2 [some (.ref 67), some (.int (nI i))] [] (fm_W μ τ) = some (some (.int (lookV S (csN N C) k i)), fm_W μ' τ) ∧ QI μ' τ S N C Q
  | 0, i, μ, h, e => by
    have hb := QI_b h
    have e68 := QI_68 h
    have e5 := QI_S h (k := 5) (by decide) (by decide)
    refine ⟨μ, ?_, h⟩
    simp (disch := first | assumption | omega | decide) only [i209_0, i209_1, i209_2, i209_3, i209_4, i209_7, i209_8, i209_9, i209_12, i209_13, i209_14, i209_17, i209_19, i209_20, i209_21, i209_22, i209_23, i209_26, i209_28, i209_29, i209_30, i209_31, i209_34, i209_35, i209_38, i209_40, i209_41, i209_42, i209_43, i209_46, i209_47, i209_48, i209_51, i209_54, i209_56, ix_pv_s, ix_pi_s, zpn, ix_po_s, ix_po_n, ix_ph_s, ix_bk_v, ix_bk_n, zcv, zcv_ne, ↓reduceIte, Nat.reduceEqDiff, zn_m1, zd_lt_p, zd_lt_n, zd_le_p, zd_le_n, zd_eq_p, zd_eq_n, zd_0_p, zd_0_n, zd_0lt_p, zd_0lt_n, zd_le0_p, zd_le0_n, zn_lt0, zn_le0, zn_add, zn_mul, zn_sub, zm_lt, zm_le, zm_eq, zb_1, zb_0, not_true_eq_false, not_false_eq_true, mo_c, mo_g0, mo_s0, mo_g1, mo_g2, mo_g3, mo_s3, mo_g4, mo_s4, mo_g5, mo_s5, mo_g6, mo_s6, mo_g7, mo_s7, mo_g8, mo_s8, mo_g9, mo_g10, mo_g11, mo_g12, mo_g13, mo_s13, mo_g14, mo_s14, mo_g15, mo_s15, mo_g16, mo_g17, mo_s17, mo_g18, mo_s18, mo_g19, mo_g20, mo_s20, mo_g21, mo_s21, mo_g22, mo_s22, mo_g23, mo_s23, ra_25, wa_25, al_25, ra_68, wa_68, al_68, ra_69, wa_69, al_69, ra_70, wa_70, al_70, ra_71, wa_71, al_71, ra_72, wa_72, al_72, ra_73, wa_73, al_73, ra_74, wa_74, al_74, ra_75, wa_75, al_75, e68, e5, lookV]
  | k + 1, i, μ, h, e => by
    have hb := QI_b h
    have hi : i < N 5 := by omega
    have e68 := QI_68 h
    have e5 := QI_S h (k := 5) (by decide) (by decide)
    obtain ⟨e1, e2, e3, e4⟩ := QI_en h hi
    obtain ⟨μ1, a1, q1, _⟩ := mo_underQ (X := X) (d := d) (m := nS S (93 + i)) h e2 (by omega)
    have f68 := QI_68 q1
    by_cases hq : uS S (csN N C) (nS S (85 + i)) (nS S (93 + i)) = S (101 + i)
    · obtain ⟨μ3, a3, q3⟩ := mo_lookL k (i + 1) μ1 q1 (by omega)
      refine ⟨μ3, ?_, q3⟩
      rw [lookV, if_pos hq, ← a3, i209_2]
      simp (disch := first | assumption | omega | decide) only [i209_0, i209_1, i209_3, i209_4, i209_7, i209_8, i209_9, i209_12, i209_13, i209_14, i209_17, i209_19, i209_20, i209_21, i209_22, i209_23, i209_26, i209_28, i209_29, i209_30, i209_31, i209_34, i209_35, i209_38, i209_40, i209_41, i209_42, i209_43, i209_46, i209_47, i209_48, i209_51, i209_54, i209_56, ix_pv_s, ix_pi_s, zpn, ix_po_s, ix_po_n, ix_ph_s, ix_bk_v, ix_bk_n, zcv, zcv_ne, ↓reduceIte, Nat.reduceEqDiff, zn_m1, zd_lt_p, zd_lt_n, zd_le_p, zd_le_n, zd_eq_p, zd_eq_n, zd_0_p, zd_0_n, zd_0lt_p, zd_0lt_n, zd_le0_p, zd_le0_n, zn_lt0, zn_le0, zn_add, zn_mul, zn_sub, zm_lt, zm_le, zm_eq, zb_1, zb_0, not_true_eq_false, not_false_eq_true, mo_c, mo_g0, mo_s0, mo_g1, mo_g2, mo_g3, mo_s3, mo_g4, mo_s4, mo_g5, mo_s5, mo_g6, mo_s6, mo_g7, mo_s7, mo_g8, mo_s8, mo_g9, mo_g10, mo_g11, mo_g12, mo_g13, mo_s13, mo_g14, mo_s14, mo_g15, mo_s15, mo_g16, mo_g17, mo_s17, mo_g18, mo_s18, mo_g19, mo_g20, mo_s20, mo_g21, mo_s21, mo_g22, mo_s22, mo_g23, mo_s23, ra_25, wa_25, al_25, ra_68, wa_68, al_68, ra_69, wa_69, al_69, ra_70, wa_70, al_70, ra_71, wa_71, al_71, ra_72, wa_72, al_72, ra_73, wa_73, al_73, ra_74, wa_74, al_74, ra_75, wa_75, al_75, e68, e5, e1, e3, a1, f68, hq]
    · refine ⟨μ1, ?_, q1⟩
      rw [lookV, if_neg hq, i209_2]
      simp (disch := first | assumption | omega | decide) only [i209_0, i209_1, i209_3, i209_4, i209_7, i209_8, i209_9, i209_12, i209_13, i209_14, i209_17, i209_19, i209_20, i209_21, i209_22, i209_23, i209_26, i209_28, i209_29, i209_30, i209_31, i209_34, i209_35, i209_38, i209_40, i209_41, i209_42, i209_43, i209_46, i209_47, i209_48, i209_51, i209_54, i209_56, ix_pv_s, ix_pi_s, zpn, ix_po_s, ix_po_n, ix_ph_s, ix_bk_v, ix_bk_n, zcv, zcv_ne, ↓reduceIte, Nat.reduceEqDiff, zn_m1, zd_lt_p, zd_lt_n, zd_le_p, zd_le_n, zd_eq_p, zd_eq_n, zd_0_p, zd_0_n, zd_0lt_p, zd_0lt_n, zd_le0_p, zd_le0_n, zn_lt0, zn_le0, zn_add, zn_mul, zn_sub, zm_lt, zm_le, zm_eq, zb_1, zb_0, not_true_eq_false, not_false_eq_true, mo_c, mo_g0, mo_s0, mo_g1, mo_g2, mo_g3, mo_s3, mo_g4, mo_s4, mo_g5, mo_s5, mo_g6, mo_s6, mo_g7, mo_s7, mo_g8, mo_s8, mo_g9, mo_g10, mo_g11, mo_g12, mo_g13, mo_s13, mo_g14, mo_s14, mo_g15, mo_s15, mo_g16, mo_g17, mo_s17, mo_g18, mo_s18, mo_g19, mo_g20, mo_s20, mo_g21, mo_s21, mo_g22, mo_s22, mo_g23, mo_s23, ra_25, wa_25, al_25, ra_68, wa_68, al_68, ra_69, wa_69, al_69, ra_70, wa_70, al_70, ra_71, wa_71, al_71, ra_72, wa_72, al_72, ra_73, wa_73, al_73, ra_74, wa_74, al_74, ra_75, wa_75, al_75, e68, e5, e1, e3, a1, f68, hq]
theorem agr_looked : agr X (d + 6) τ S N C Q 124 209 [] := by
  intro μ h
  obtain ⟨μ1, a1, q1⟩ := cl_lookL (X := X) (d := d + 1) (τ := τ) (N 5) 0 μ none h (Nat.zero_add _)
  obtain ⟨μ2, a2, q2⟩ := mo_lookL (X := X) (d := d) (τ := τ) (N 5) 0 μ1 q1 (Nat.zero_add _)
  refine ⟨_, μ1, μ2, ?_, ?_, q2⟩
  rotate_left
  · rw [← a2]
    simp (disch := first | assumption | omega | decide) only [e209, i209_0, i209_1, i209_3, i209_4, i209_7, i209_8, i209_9, i209_12, i209_13, i209_14, i209_17, i209_19, i209_20, i209_21, i209_22, i209_23, i209_26, i209_28, i209_29, i209_30, i209_31, i209_34, i209_35, i209_38, i209_40, i209_41, i209_42, i209_43, i209_46, i209_47, i209_48, i209_51, i209_54, i209_56, ix_pv_s, ix_pi_s, zpn, ix_po_s, ix_po_n, ix_ph_s, ix_bk_v, ix_bk_n, zcv, zcv_ne, ↓reduceIte, Nat.reduceEqDiff, zn_m1, zd_lt_p, zd_lt_n, zd_le_p, zd_le_n, zd_eq_p, zd_eq_n, zd_0_p, zd_0_n, zd_0lt_p, zd_0lt_n, zd_le0_p, zd_le0_n, zn_lt0, zn_le0, zn_add, zn_mul, zn_sub, zm_lt, zm_le, zm_eq, zb_1, zb_0, not_true_eq_false, not_false_eq_true, mo_c, mo_g0, mo_s0, mo_g1, mo_g2, mo_g3, mo_s3, mo_g4, mo_s4, mo_g5, mo_s5, mo_g6, mo_s6, mo_g7, mo_s7, mo_g8, mo_s8, mo_g9, mo_g10, mo_g11, mo_g12, mo_g13, mo_s13, mo_g14, mo_s14, mo_g15, mo_s15, mo_g16, mo_g17, mo_s17, mo_g18, mo_s18, mo_g19, mo_g20, mo_s20, mo_g21, mo_s21, mo_g22, mo_s22, mo_g23, mo_s23, ra_25, wa_25, al_25, ra_68, wa_68, al_68, ra_69, wa_69, al_69, ra_70, wa_70, al_70, ra_71, wa_71, al_71, ra_72, wa_72, al_72, ra_73, wa_73, al_73, ra_74, wa_74, al_74, ra_75, wa_75, al_75]
  · rw [← a1]
    simp (disch := first | assumption | omega | decide) only [e124, i124_0, i124_1, i124_3, i124_4, i124_7, i124_10, i124_13, i124_14, i124_15, i124_18, i124_19, i124_20, i124_23, i124_26, i124_26n, i124_27, i124_27n, i124_28n, i124_28, i124_31, i124_34, i124_34n, i124_35, i124_36, i124_39, i124_40, i124_41, i124_44, i124_47, i124_48, i124_51, i124_52, i124_53, i124_56, i124_59, i124_60, i124_61, i124_64, i124_67, i124_69, ix_pv_s, ix_pi_s, zpn, ix_po_s, ix_po_n, ix_ph_s, ix_bk_v, ix_bk_n, zcv, zcv_ne, ↓reduceIte, Nat.reduceEqDiff, zn_m1, zd_lt_p, zd_lt_n, zd_le_p, zd_le_n, zd_eq_p, zd_eq_n, zd_0_p, zd_0_n, zd_0lt_p, zd_0lt_n, zd_le0_p, zd_le0_n, zn_lt0, zn_le0, zn_add, zn_mul, zn_sub, zm_lt, zm_le, zm_eq, zb_1, zb_0, not_true_eq_false, not_false_eq_true, t0_c, t0_g0, t0_g1, t0_g2, t0_g3, t0_g4, t0_g5, t0_g6, t0_g7, t0_g8, t0_g9, t0_g10, t0_s11, t0_g12, t0_s12, t0_g13, t0_g14, t0_g15, t0_g16, t0_c, rw_c]
end Q4
