/-! ===== under, rain, told, at, of ===== -/
--need 41.agree
/-- what comes through tree t in minute m -/
def uS (S : Nat → Int32) (cs : List Nat) (t m : Nat) : Int32 := wet (rn S cs t) (S (23 + t)) ((S (11 + t)).toNatClampNeg) ((S (17 + t)).toNatClampNeg) (fun k => S (35 + 4 * t + k)) m
section QU
variable {X : ix_X} {d : Nat} {τ : List fm_D} {μ : fm_M} {S : Nat → Int32} {N : Nat → Nat} {C : Nat → List Nat} {Q : Nat → Nat} {t m : Nat}
theorem QI_tree (h : QI μ τ S N C Q) (ht : t < N 0) : μ 22 t = nI (Q t) ∧ Q t < 1000000 ∧ (∃ kind, trT μ τ S (Q t) t kind) ∧ μ (52 + 2 * t) 6 = S (29 + t) := h.2.1.2.2.1.1 t ht
theorem QI_v (h : QI μ τ S N C Q) (ht : t < N 0) : okN S (11 + t) 6 ∧ okN S (17 + t) 9 ∧ okN S (23 + t) 99 ∧ okN S (29 + t) 99 := h.1.2.2.2.1 t ht
theorem cl_tree (h : QI μ τ S N C Q) (ht : t < N 0) : ix_call X (d + 2) 74 [.ref 0, .int (nI t)] (fm_W μ τ) = some (some (.ref (Q t)), fm_W μ τ) := by
  obtain ⟨a, b, _⟩ := QI_tree h ht
  exact cl_treeAt (QI_nb h) (QI_n h) (QI_b h).1 ht a (by omega)
theorem cl_treeN {a : Int32} (h : QI μ τ S N C Q) (ht : ¬ inS a (N 0)) : ix_call X (d + 2) 74 [.ref 0, .int a] (fm_W μ τ) = some (some .null, fm_W μ τ) := cl_treeNo (QI_nb h) (QI_n h) (QI_b h).1 (inS_n ht)
theorem mo_tree {a : Int32} (h : QI μ τ S N C Q) (ht : inS a (N 0)) : ix_call X (d + 1) 151 [.ref 67, .int a] (fm_W μ τ) = some (some (.int (nI 1)), fm_W μ τ) := mo_isTree (by rw [QI_68 h]; exact QI_S h (by decide) (by decide)) (QI_b h).1 ht
theorem mo_treeN {a : Int32} (h : QI μ τ S N C Q) (ht : ¬ inS a (N 0)) : ix_call X (d + 1) 151 [.ref 67, .int a] (fm_W μ τ) = some (some (.int (nI 0)), fm_W μ τ) := mo_isTreeN (by rw [QI_68 h]; exact QI_S h (by decide) (by decide)) (QI_b h).1 ht
theorem cl_walker {i : Nat} (h : QI μ τ S N C Q) (hi : i < N 1) : ix_call X d 28 [.ref 7, .int (nI i)] (fm_W μ τ) = some (some (.int (nI 1)), fm_W μ τ) := cl_has wa_A (QI_wa h).2.2.1 (by have := (QI_b h).2.1; omega) hi
theorem cl_walkerN {a : Int32} (h : QI μ τ S N C Q) (hi : ¬ inS a (N 1)) : ix_call X d 28 [.ref 7, .int a] (fm_W μ τ) = some (some (.int (nI 0)), fm_W μ τ) := cl_hasN wa_A (QI_wa h).2.2.1 (by have := (QI_b h).2.1; omega) hi
theorem mo_walker {a : Int32} (h : QI μ τ S N C Q) (ht : inS a (N 1)) : ix_call X (d + 1) 165 [.ref 67, .int a] (fm_W μ τ) = some (some (.int (nI 1)), fm_W μ τ) := mo_isWalker (by rw [QI_68 h]; exact QI_S h (by decide) (by decide)) (by have := (QI_b h).2.1; omega) ht
theorem mo_walkerN {a : Int32} (h : QI μ τ S N C Q) (ht : ¬ inS a (N 1)) : ix_call X (d + 1) 165 [.ref 67, .int a] (fm_W μ τ) = some (some (.int (nI 0)), fm_W μ τ) := mo_isWalkerN (by rw [QI_68 h]; exact QI_S h (by decide) (by decide)) (by have := (QI_b h).2.1; omega) ht
theorem cl_nowQ (h : QI μ τ S N C Q) : ix_call X (d + 1) 75 [.ref 0] (fm_W μ τ) = some (some (.int (nI (N 8))), fm_W μ τ) := by
  rw [cl_now (QI_nb h), QI_now h]
theorem cl_homeQ (h : QI μ τ S N C Q) : ix_call X (d + 1) 67 [.ref 0, .int (nI 1)] (fm_W μ τ) = some (some (.int (nI (N 9))), fm_W μ τ) := by
  rw [cl_number (QI_nb h) (by decide), QI_home h]
theorem cl_under (h : QI μ τ S N C Q) (ht : t < N 0) (hm : m < 1600) : ∃ μ' : fm_M, ix_cv X (d + 4) (ix_cls (fm_W μ τ) (Q t)) [(0, 1, 289), (1, 4, 289), (2, 7, 289), (6, 37, 289), (7, 40, 289), (8, 43, 289), (9, 50, 4)] [.ref (Q t), .int (nI m)] (fm_W μ τ) = some (some (.int (uS S (csN N C) t m)), fm_W μ' τ) ∧ QI μ' τ S N C Q ∧ cf μ μ' := by
  obtain ⟨_, _, ⟨kind, hT⟩, _⟩ := QI_tree h ht
  obtain ⟨_, ⟨v, hv9, hv⟩, _⟩ := QI_v h ht
  obtain ⟨μ', a, b, c⟩ := tr_under (X := X) (d := d) hT h.2.2.1 ht hm hv hv9
  refine ⟨μ', ?_, QI_cf h c b, c⟩
  have e1 : (S (11 + t)).toNatClampNeg = kind := by rw [hT.1]; exact nI_clamp (show kind < 2 ^ 31 by have := hT.2.1; omega)
  have e2 : (S (17 + t)).toNatClampNeg = v := by rw [hv]; exact nI_clamp (show v < 2 ^ 31 by omega)
  rw [uS, e1, e2]
  exact a
theorem mo_underQ (h : QI μ τ S N C Q) (ht : t < N 0) (hm : m < 1600) : ∃ μ' : fm_M, ix_call X (d + 5) 152 [.ref 67, .int (nI t), .int (nI m)] (fm_W μ τ) = some (some (.int (uS S (csN N C) t m)), fm_W μ' τ) ∧ QI μ' τ S N C Q ∧ mf μ μ' := by
  obtain ⟨⟨k, hk6, hk⟩, ⟨v, hv9, hv⟩, _⟩ := QI_v h ht
  obtain ⟨μ', a, b, c⟩ := mo_under (X := X) (d := d) (τ := τ) (m := m) h.2.2.2 ht (by omega) hk hk6 hv hv9
  refine ⟨μ', ?_, QI_mg h (mg_mf c) b, c⟩
  have e1 : (S (11 + t)).toNatClampNeg = k := by rw [hk]; exact nI_clamp (show k < 2 ^ 31 by omega)
  have e2 : (S (17 + t)).toNatClampNeg = v := by rw [hv]; exact nI_clamp (show v < 2 ^ 31 by omega)
  rw [uS, e1, e2]
  exact a
theorem cl_rainQ {u : Nat} (h : QI μ τ S N C Q) (hu : u < N 0 ∨ u = 6) (hm : m < 1600) : ∃ μ' : fm_M, ix_call X (d + 2) 34 [.ref (spp u), .int (nI m)] (fm_W μ τ) = some (some (.int (sS (rn S (csN N C) u) (m + 1) - sS (rn S (csN N C) u) m)), fm_W μ' τ) ∧ QI μ' τ S N C Q ∧ cf μ μ' := by
  obtain ⟨μ', a, b, c⟩ := ck_rainAt (X := X) (d := d) (τ := τ) h.2.2.1 hu hm
  exact ⟨μ', a, QI_cf h c b, c⟩
theorem mo_rainQ {u : Nat} (h : QI μ τ S N C Q) (hu : u < N 0 ∨ u = 6) (hm : m < 1600) : ∃ μ' : fm_M, ix_call X (d + 3) 159 [.ref 67, .int (nI u), .int (nI m)] (fm_W μ τ) = some (some (.int (sS (rn S (csN N C) u) (m + 1) - sS (rn S (csN N C) u) m)), fm_W μ' τ) ∧ QI μ' τ S N C Q ∧ mf μ μ' := by
  obtain ⟨μ', a, b, c⟩ := mo_rainAt (X := X) (d := d) (τ := τ) h.2.2.2 hu (show m < 1700 by omega)
  exact ⟨μ', a, QI_mg h (mg_mf c) b, c⟩
theorem QI_trO (h : QI μ τ S N C Q) (ht : t < N 0) : ∃ c rest, trO τ (Q t) c t rest := by
  obtain ⟨_, _, ⟨kind, hT⟩, _⟩ := QI_tree h ht
  exact ⟨_, hT.2.2.1⟩
theorem agr_under {a b : Int32} : agr X (d + 6) τ S N C Q 86 171 [.int a, .int b] := by
  intro μ h
  have hb := QI_b h
  have e68 := QI_68 h
  have e8 := QI_S h (k := 8) (by decide) (by decide)
  by_cases ha : inS a (N 0)
  · have hm := mo_tree (X := X) (d := d + 4) h ha
    obtain ⟨t, ht, rfl⟩ := ha
    have hc := cl_tree (X := X) (d := d + 3) h ht
    by_cases hin : nI 0 ≤ b ∧ b ≤ nI 60
    · obtain ⟨k, _, hk, rfl⟩ := in_nat hin (by decide) (by decide)
      have hn := cl_nowQ (X := X) (d := d + 4) h
      obtain ⟨μ1, a1, q1, _⟩ := cl_under (X := X) (d := d + 1) (m := N 8 + k) h ht (by omega)
      obtain ⟨μ2, a2, q2, _⟩ := mo_underQ (X := X) (d := d) (m := N 8 + k) q1 ht (by omega)
      have f68 := QI_68 q1
      have hm := mo_tree (X := X) (d := d + 4) q1 (inS_p ht)
      refine ⟨uS S (csN N C) t (N 8 + k), μ1, μ2, ?_, ?_, q2⟩
      · simp (disch := first | assumption | omega | decide) only [e86, i86_0, i86_1, i86_2, i86_5, i86_5n, i86_6, i86_6n, i86_7n, i86_7, i86_10, i86_11, i86_12, i86_13, i86_14, i86_16, i86_19, i86_22, i86_24, i86_25, i86_25n, i86_26, i86_27, i86_30, i86_31, i86_32, i86_35, ix_pv_s, ix_pi_s, zpn, ix_po_s, ix_po_n, ix_ph_s, ix_bk_v, ix_bk_n, zcv, zcv_ne, ↓reduceIte, Nat.reduceEqDiff, zn_m1, zd_lt_p, zd_lt_n, zd_le_p, zd_le_n, zd_eq_p, zd_eq_n, zd_0_p, zd_0_n, zd_0lt_p, zd_0lt_n, zd_le0_p, zd_le0_n, zn_lt0, zn_le0, zn_add, zn_mul, zn_sub, zm_lt, zm_le, zm_eq, zb_1, zb_0, not_true_eq_false, not_false_eq_true, t0_c, hc, cl_within, hin, and_self, hn, a1]
      · simp (disch := first | assumption | omega | decide) only [e171, i171_0, i171_1, i171_2, i171_5, i171_8, i171_9, i171_10, i171_11, i171_12, i171_14, i171_17, i171_20, i171_21, i171_22, i171_23, i171_26, i171_28, i171_29, i171_30, i171_31, i171_34, i171_37, i171_39, ix_pv_s, ix_pi_s, zpn, ix_po_s, ix_po_n, ix_ph_s, ix_bk_v, ix_bk_n, zcv, zcv_ne, ↓reduceIte, Nat.reduceEqDiff, zn_m1, zd_lt_p, zd_lt_n, zd_le_p, zd_le_n, zd_eq_p, zd_eq_n, zd_0_p, zd_0_n, zd_0lt_p, zd_0lt_n, zd_le0_p, zd_le0_n, zn_lt0, zn_le0, zn_add, zn_mul, zn_sub, zm_lt, zm_le, zm_eq, zb_1, zb_0, not_true_eq_false, not_false_eq_true, mo_c, mo_g0, mo_s0, mo_g1, mo_g2, mo_g3, mo_s3, mo_g4, mo_s4, mo_g5, mo_s5, mo_g6, mo_s6, mo_g7, mo_s7, mo_g8, mo_s8, mo_g9, mo_g10, mo_g11, mo_g12, mo_g13, mo_s13, mo_g14, mo_s14, mo_g15, mo_s15, mo_g16, mo_g17, mo_s17, mo_g18, mo_s18, mo_g19, mo_g20, mo_s20, mo_g21, mo_s21, mo_g22, mo_s22, mo_g23, mo_s23, ra_25, wa_25, al_25, ra_68, wa_68, al_68, ra_69, wa_69, al_69, ra_70, wa_70, al_70, ra_71, wa_71, al_71, ra_72, wa_72, al_72, ra_73, wa_73, al_73, ra_74, wa_74, al_74, ra_75, wa_75, al_75, hm, mo_in, hin, and_self, f68, e8, a2]
    · refine ⟨-2, μ, μ, ?_, ?_, h⟩
      · simp (disch := first | assumption | omega | decide) only [e86, i86_0, i86_1, i86_2, i86_5, i86_5n, i86_6, i86_6n, i86_7n, i86_7, i86_10, i86_11, i86_12, i86_13, i86_14, i86_16, i86_19, i86_22, i86_24, i86_25, i86_25n, i86_26, i86_27, i86_30, i86_31, i86_32, i86_35, ix_pv_s, ix_pi_s, zpn, ix_po_s, ix_po_n, ix_ph_s, ix_bk_v, ix_bk_n, zcv, zcv_ne, ↓reduceIte, Nat.reduceEqDiff, zn_m1, zd_lt_p, zd_lt_n, zd_le_p, zd_le_n, zd_eq_p, zd_eq_n, zd_0_p, zd_0_n, zd_0lt_p, zd_0lt_n, zd_le0_p, zd_le0_n, zn_lt0, zn_le0, zn_add, zn_mul, zn_sub, zm_lt, zm_le, zm_eq, zb_1, zb_0, not_true_eq_false, not_false_eq_true, t0_c, hc, cl_within, hin]
      · simp (disch := first | assumption | omega | decide) only [e171, i171_0, i171_1, i171_2, i171_5, i171_8, i171_9, i171_10, i171_11, i171_12, i171_14, i171_17, i171_20, i171_21, i171_22, i171_23, i171_26, i171_28, i171_29, i171_30, i171_31, i171_34, i171_37, i171_39, ix_pv_s, ix_pi_s, zpn, ix_po_s, ix_po_n, ix_ph_s, ix_bk_v, ix_bk_n, zcv, zcv_ne, ↓reduceIte, Nat.reduceEqDiff, zn_m1, zd_lt_p, zd_lt_n, zd_le_p, zd_le_n, zd_eq_p, zd_eq_n, zd_0_p, zd_0_n, zd_0lt_p, zd_0lt_n, zd_le0_p, zd_le0_n, zn_lt0, zn_le0, zn_add, zn_mul, zn_sub, zm_lt, zm_le, zm_eq, zb_1, zb_0, not_true_eq_false, not_false_eq_true, mo_c, mo_g0, mo_s0, mo_g1, mo_g2, mo_g3, mo_s3, mo_g4, mo_s4, mo_g5, mo_s5, mo_g6, mo_s6, mo_g7, mo_s7, mo_g8, mo_s8, mo_g9, mo_g10, mo_g11, mo_g12, mo_g13, mo_s13, mo_g14, mo_s14, mo_g15, mo_s15, mo_g16, mo_g17, mo_s17, mo_g18, mo_s18, mo_g19, mo_g20, mo_s20, mo_g21, mo_s21, mo_g22, mo_s22, mo_g23, mo_s23, hm, mo_in, hin]
  · have hc := cl_treeN (X := X) (d := d + 3) h ha
    have hm := mo_treeN (X := X) (d := d + 4) h ha
    refine ⟨-1, μ, μ, ?_, ?_, h⟩
    · simp (disch := first | assumption | omega | decide) only [e86, i86_0, i86_1, i86_2, i86_5, i86_5n, i86_6, i86_6n, i86_7n, i86_7, i86_10, i86_11, i86_12, i86_13, i86_14, i86_16, i86_19, i86_22, i86_24, i86_25, i86_25n, i86_26, i86_27, i86_30, i86_31, i86_32, i86_35, ix_pv_s, ix_pi_s, zpn, ix_po_s, ix_po_n, ix_ph_s, ix_bk_v, ix_bk_n, zcv, zcv_ne, ↓reduceIte, Nat.reduceEqDiff, zn_m1, zd_lt_p, zd_lt_n, zd_le_p, zd_le_n, zd_eq_p, zd_eq_n, zd_0_p, zd_0_n, zd_0lt_p, zd_0lt_n, zd_le0_p, zd_le0_n, zn_lt0, zn_le0, zn_add, zn_mul, zn_sub, zm_lt, zm_le, zm_eq, zb_1, zb_0, not_true_eq_false, not_false_eq_true, t0_c, hc]
    · simp (disch := first | assumption | omega | decide) only [e171, i171_0, i171_1, i171_2, i171_5, i171_8, i171_9, i171_10, i171_11, i171_12, i171_14, i171_17, i171_20, i171_21, i171_22, i171_23, i171_26, i171_28, i171_29, i171_30, i171_31, i171_34, i171_37, i171_39, ix_pv_s, ix_pi_s, zpn, ix_po_s, ix_po_n, ix_ph_s, ix_bk_v, ix_bk_n, zcv, zcv_ne, ↓reduceIte, Nat.reduceEqDiff, zn_m1, zd_lt_p, zd_lt_n, zd_le_p, zd_le_n, zd_eq_p, zd_eq_n, zd_0_p, zd_0_n, zd_0lt_p, zd_0lt_n, zd_le0_p, zd_le0_n, zn_lt0, zn_le0, zn_add, zn_mul, zn_sub, zm_lt, zm_le, zm_eq, zb_1, zb_0, not_true_eq_false, not_false_eq_true, mo_c, mo_g0, mo_s0, mo_g1, mo_g2, mo_g3, mo_s3, mo_g4, mo_s4, mo_g5, mo_s5, mo_g6, mo_s6, mo_g7, mo_s7, mo_g8, mo_s8, mo_g9, mo_g10, mo_g11, mo_g12, mo_g13, mo_s13, mo_g14, mo_s14, mo_g15, mo_s15, mo_g16, mo_g17, mo_s17, mo_g18, mo_s18, mo_g19, mo_g20, mo_s20, mo_g21, mo_s21, mo_g22, mo_s22, mo_g23, mo_s23, hm]
end QU
