/-! ===== acts: the model's side; act ===== -/
--need 59.acts
section MA
variable {X : ix_X} {d : Nat} {τ : List fm_D} {μ : fm_M} {kind : Nat} {l : List Int32} {i v x : Int32}
def mT (μ : fm_M) (kind : Nat) (i v : Int32) : Prop := μ 67 21 = nI kind ∧ μ 67 22 = i ∧ μ 67 23 = v
theorem mT_bm {μ' : fm_M} (h : mT μ kind i v) (hf : bm μ μ') : mT μ' kind i v := by
  unfold mT at h ⊢
  rw [hf.2 21 (by decide), hf.2 22 (by decide), hf.2 23 (by decide)]
  exact h
theorem m_ran {y : Int32} (h : boM μ l) (hl : l.length < 20) : ∃ μ' : fm_M, ix_call X d 213 [.ref 67, .int y] (fm_W μ τ) = some (none, fm_W μ' τ) ∧ boM μ' (l ++ [y]) ∧ bm μ μ' := by
  obtain ⟨z0, zc⟩ := h
  refine ⟨fm_u (fm_u μ 75 l.length y) 67 20 (nI (l.length + 1)), ?_, ⟨?_, fun j hj => ?_⟩, fun r a b => ?_, fun k a => ?_⟩
  · simp (disch := first | assumption | omega | decide) only [e213, i213_0, i213_1, i213_4, i213_6, i213_9, i213_10, i213_13, i213_14, i213_17, i213_18, i213_19, i213_20, i213_21, i213_24, i213_25, i213_26, i213_29, ix_pv_s, ix_pi_s, zpn, ix_po_s, ix_po_n, ix_ph_s, ix_bk_v, ix_bk_n, zcv, zcv_ne, ↓reduceIte, Nat.reduceEqDiff, zn_m1, zd_lt_p, zd_lt_n, zd_le_p, zd_le_n, zd_eq_p, zd_eq_n, zd_0_p, zd_0_n, zd_0lt_p, zd_0lt_n, zd_le0_p, zd_le0_n, zn_lt0, zn_le0, zn_add, zn_mul, zn_sub, zm_lt, zm_le, zm_eq, zb_1, zb_0, not_true_eq_false, not_false_eq_true, mo_c, mo_g0, mo_s0, mo_g1, mo_g2, mo_g3, mo_s3, mo_g4, mo_s4, mo_g5, mo_s5, mo_g6, mo_s6, mo_g7, mo_s7, mo_g8, mo_s8, mo_g9, mo_g10, mo_g11, mo_g12, mo_g13, mo_s13, mo_g14, mo_s14, mo_g15, mo_s15, mo_g16, mo_g17, mo_s17, mo_g18, mo_s18, mo_g19, mo_g20, mo_s20, mo_g21, mo_s21, mo_g22, mo_s22, mo_g23, mo_s23, ra_25, wa_25, al_25, ra_68, wa_68, al_68, ra_69, wa_69, al_69, ra_70, wa_70, al_70, ra_71, wa_71, al_71, ra_72, wa_72, al_72, ra_73, wa_73, al_73, ra_74, wa_74, al_74, ra_75, wa_75, al_75, z0, fm_un]
  · rw [fm_us, List.length_append]; rfl
  · rw [fm_un (by decide), fm_uu, gd_app hj]
    simp only [List.length_append, List.length_cons, List.length_nil] at hj
    by_cases e : j = l.length
    · rw [if_pos e, e, pk_us]
    · rw [if_neg e, pk_un e]
      exact zc j (by omega)
  · rw [fm_un a, fm_un b]
  · rw [fm_uk a, fm_un (by decide)]
theorem m_h0 (ha : mT μ kind i v) (h : boM μ l) (hl : l.length < 20) : ∃ μ' : fm_M, ix_call X (d + 1) 214 [.ref 67, .int x] (fm_W μ τ) = some (some (.int (x + i)), fm_W μ' τ) ∧ boM μ' (l ++ [nI 1]) ∧ bm μ μ' := by
  obtain ⟨μ1, a1, b1, c1⟩ := m_ran (X := X) (d := d) (τ := τ) (y := nI 1) h hl
  obtain ⟨s1, s2, s3⟩ := mT_bm ha c1
  refine ⟨μ1, ?_, b1, c1⟩
  simp (disch := first | assumption | omega | decide) only [e214, i214_0, i214_1, i214_2, i214_5, i214_6, i214_7, i214_10, i214_11, ix_pv_s, ix_pi_s, zpn, ix_po_s, ix_po_n, ix_ph_s, ix_bk_v, ix_bk_n, zcv, zcv_ne, ↓reduceIte, Nat.reduceEqDiff, mo_c, mo_g0, mo_s0, mo_g1, mo_g2, mo_g3, mo_s3, mo_g4, mo_s4, mo_g5, mo_s5, mo_g6, mo_s6, mo_g7, mo_s7, mo_g8, mo_s8, mo_g9, mo_g10, mo_g11, mo_g12, mo_g13, mo_s13, mo_g14, mo_s14, mo_g15, mo_s15, mo_g16, mo_g17, mo_s17, mo_g18, mo_s18, mo_g19, mo_g20, mo_s20, mo_g21, mo_s21, mo_g22, mo_s22, mo_g23, mo_s23, a1, s2]
theorem m_is {k : Nat} {H : ix_H} (h1 : kind ≤ 6) (h2 : 1 ≤ k ∧ k ≤ 3) : ix_call X d 212 [.int (nI kind), .int (nI k)] H = some (some (.int (if kind = k ∨ kind = k + 3 then nI 1 else nI 0)), H) := by
  rw [mo_isUnder h1 (by omega)]
  have e : isU kind k = decide (kind = k ∨ kind = k + 3) := by
    unfold isU
    apply decide_eq_decide.mpr
    omega
  rw [e]
  by_cases q : kind = k ∨ kind = k + 3
  · simp [q]
  · simp [q]
theorem m_holds (hk6 : kind ≤ 6) (ha : mT μ kind i v) (h : boM μ l) (hl : l.length < 19) : ∃ μ' : fm_M, ix_call X (d + 2) 211 [.ref 67, .int x] (fm_W μ τ) = some (some (.int (hoV kind i x)), fm_W μ' τ) ∧ boM μ' (l ++ hoB kind) ∧ bm μ μ' := by
  have hu := m_is (X := X) (d := d + 1) (k := 1) (H := fm_W μ τ) hk6 (by decide)
  have s0 := ha.1
  unfold hoV hoB
  by_cases q : kind = 1 ∨ kind = 4
  · simp only [if_pos q, show (1 : Nat) + 3 = 4 from rfl] at hu ⊢
    obtain ⟨μ1, a1, b1, c1⟩ := m_ran (X := X) (d := d + 1) (τ := τ) (y := nI 11) h (by omega)
    obtain ⟨μ2, a2, b2, c2⟩ := m_h0 (X := X) (d := d) (τ := τ) (x := x * nI 3) (mT_bm ha c1) b1 (by simp; omega)
    refine ⟨μ2, ?_, by rw [List.append_assoc] at b2; exact b2, bm_trans c1 c2⟩
    simp (disch := first | assumption | omega | decide) only [e211, i211_0, i211_1, i211_4, i211_5, i211_8, i211_11, i211_12, i211_14, i211_17, i211_18, i211_19, i211_20, i211_21, i211_24, i211_25, i211_26, i211_29, i211_30, i211_33, i211_34, i211_36, i211_39, i211_40, i211_41, i211_44, i211_45, i211_48, i211_49, i211_50, i211_51, i211_52, i211_55, ix_pv_s, ix_pi_s, zpn, ix_po_s, ix_po_n, ix_ph_s, ix_bk_v, ix_bk_n, zcv, zcv_ne, ↓reduceIte, Nat.reduceEqDiff, mo_c, mo_g0, mo_s0, mo_g1, mo_g2, mo_g3, mo_s3, mo_g4, mo_s4, mo_g5, mo_s5, mo_g6, mo_s6, mo_g7, mo_s7, mo_g8, mo_s8, mo_g9, mo_g10, mo_g11, mo_g12, mo_g13, mo_s13, mo_g14, mo_s14, mo_g15, mo_s15, mo_g16, mo_g17, mo_s17, mo_g18, mo_s18, mo_g19, mo_g20, mo_s20, mo_g21, mo_s21, mo_g22, mo_s22, mo_g23, mo_s23, zb_1, zb_0, s0, hu, a1, a2, zd_0_n, zd_0_p]
  · simp only [if_neg q, show (1 : Nat) + 3 = 4 from rfl] at hu ⊢
    by_cases q5 : kind = 5
    · simp only [if_pos q5]
      obtain ⟨μ1, a1, b1, c1⟩ := m_ran (X := X) (d := d + 1) (τ := τ) (y := nI 51) h (by omega)
      obtain ⟨μ2, a2, b2, c2⟩ := m_h0 (X := X) (d := d) (τ := τ) (x := x) (mT_bm ha c1) b1 (by simp; omega)
      obtain ⟨s1, s2, s3⟩ := mT_bm (mT_bm ha c1) c2
      refine ⟨μ2, ?_, by rw [List.append_assoc] at b2; exact b2, bm_trans c1 c2⟩
      simp (disch := first | assumption | omega | decide) only [e211, i211_0, i211_1, i211_4, i211_5, i211_8, i211_11, i211_12, i211_14, i211_17, i211_18, i211_19, i211_20, i211_21, i211_24, i211_25, i211_26, i211_29, i211_30, i211_33, i211_34, i211_36, i211_39, i211_40, i211_41, i211_44, i211_45, i211_48, i211_49, i211_50, i211_51, i211_52, i211_55, ix_pv_s, ix_pi_s, zpn, ix_po_s, ix_po_n, ix_ph_s, ix_bk_v, ix_bk_n, zcv, zcv_ne, ↓reduceIte, Nat.reduceEqDiff, mo_c, mo_g0, mo_s0, mo_g1, mo_g2, mo_g3, mo_s3, mo_g4, mo_s4, mo_g5, mo_s5, mo_g6, mo_s6, mo_g7, mo_s7, mo_g8, mo_s8, mo_g9, mo_g10, mo_g11, mo_g12, mo_g13, mo_s13, mo_g14, mo_s14, mo_g15, mo_s15, mo_g16, mo_g17, mo_s17, mo_g18, mo_s18, mo_g19, mo_g20, mo_s20, mo_g21, mo_s21, mo_g22, mo_s22, mo_g23, mo_s23, s0, hu, a1, a2, s2, zd_0_n, zd_0_p, zd_eq_p, not_true_eq_false]
    · simp only [if_neg q5]
      obtain ⟨μ2, a2, b2, c2⟩ := m_h0 (X := X) (d := d) (τ := τ) (x := x) ha h (by omega)
      refine ⟨μ2, ?_, b2, c2⟩
      simp (disch := first | assumption | omega | decide) only [e211, i211_0, i211_1, i211_4, i211_5, i211_8, i211_11, i211_12, i211_14, i211_17, i211_18, i211_19, i211_20, i211_21, i211_24, i211_25, i211_26, i211_29, i211_30, i211_33, i211_34, i211_36, i211_39, i211_40, i211_41, i211_44, i211_45, i211_48, i211_49, i211_50, i211_51, i211_52, i211_55, ix_pv_s, ix_pi_s, zpn, ix_po_s, ix_po_n, ix_ph_s, ix_bk_v, ix_bk_n, zcv, zcv_ne, ↓reduceIte, Nat.reduceEqDiff, mo_c, mo_g0, mo_s0, mo_g1, mo_g2, mo_g3, mo_s3, mo_g4, mo_s4, mo_g5, mo_s5, mo_g6, mo_s6, mo_g7, mo_s7, mo_g8, mo_s8, mo_g9, mo_g10, mo_g11, mo_g12, mo_g13, mo_s13, mo_g14, mo_s14, mo_g15, mo_s15, mo_g16, mo_g17, mo_s17, mo_g18, mo_s18, mo_g19, mo_g20, mo_s20, mo_g21, mo_s21, mo_g22, mo_s22, mo_g23, mo_s23, s0, hu, a2, zd_0_n, zd_0_p, zd_eq_n, not_false_eq_true]
theorem m_d0 (hk6 : kind ≤ 6) (ha : mT μ kind i v) (h : boM μ l) (hl : l.length < 18) : ∃ μ' : fm_M, ix_call X (d + 3) 216 [.ref 67, .int x] (fm_W μ τ) = some (some (.int (hoV kind i x - v)), fm_W μ' τ) ∧ boM μ' (l ++ [nI 2] ++ hoB kind) ∧ bm μ μ' := by
  obtain ⟨μ1, a1, b1, c1⟩ := m_ran (X := X) (d := d + 2) (τ := τ) (y := nI 2) h (by omega)
  obtain ⟨μ2, a2, b2, c2⟩ := m_holds (X := X) (d := d) (τ := τ) (x := x) hk6 (mT_bm ha c1) b1 (by simp; omega)
  obtain ⟨s1, s2, s3⟩ := mT_bm (mT_bm ha c1) c2
  refine ⟨μ2, ?_, b2, bm_trans c1 c2⟩
  simp (disch := first | assumption | omega | decide) only [e216, i216_0, i216_1, i216_2, i216_5, i216_6, i216_7, i216_10, i216_11, i216_14, i216_15, ix_pv_s, ix_pi_s, zpn, ix_po_s, ix_po_n, ix_ph_s, ix_bk_v, ix_bk_n, zcv, zcv_ne, ↓reduceIte, Nat.reduceEqDiff, mo_c, mo_g0, mo_s0, mo_g1, mo_g2, mo_g3, mo_s3, mo_g4, mo_s4, mo_g5, mo_s5, mo_g6, mo_s6, mo_g7, mo_s7, mo_g8, mo_s8, mo_g9, mo_g10, mo_g11, mo_g12, mo_g13, mo_s13, mo_g14, mo_s14, mo_g15, mo_s15, mo_g16, mo_g17, mo_s17, mo_g18, mo_s18, mo_g19, mo_g20, mo_s20, mo_g21, mo_s21, mo_g22, mo_s22, mo_g23, mo_s23, a1, a2, s3]
theorem m_drips (hk6 : kind ≤ 6) (ha : mT μ kind i v) (h : boM μ l) (hl : l.length < 17) : ∃ μ' : fm_M, ix_call X (d + 4) 215 [.ref 67, .int x] (fm_W μ τ) = some (some (.int (drV kind i v x)), fm_W μ' τ) ∧ boM μ' (l ++ drB kind) ∧ bm μ μ' := by
  have hu := m_is (X := X) (d := d + 3) (k := 2) (H := fm_W μ τ) hk6 (by decide)
  have s0 := ha.1
  unfold drV drB
  by_cases q : kind = 2 ∨ kind = 5
  · simp only [if_pos q, show (2 : Nat) + 3 = 5 from rfl] at hu ⊢
    obtain ⟨μ1, a1, b1, c1⟩ := m_ran (X := X) (d := d + 3) (τ := τ) (y := nI 21) h (by omega)
    obtain ⟨μ2, a2, b2, c2⟩ := m_d0 (X := X) (d := d) (τ := τ) (x := x) hk6 (mT_bm ha c1) b1 (by simp; omega)
    refine ⟨μ2, ?_, by simp only [List.append_assoc] at b2; exact b2, bm_trans c1 c2⟩
    simp (disch := first | assumption | omega | decide) only [e215, i215_0, i215_1, i215_4, i215_5, i215_8, i215_11, i215_12, i215_14, i215_17, i215_18, i215_19, i215_22, i215_23, i215_24, i215_25, i215_28, i215_30, i215_33, i215_34, i215_36, i215_39, i215_40, i215_41, i215_44, i215_45, i215_48, i215_49, i215_50, i215_51, i215_52, i215_55, ix_pv_s, ix_pi_s, zpn, ix_po_s, ix_po_n, ix_ph_s, ix_bk_v, ix_bk_n, zcv, zcv_ne, ↓reduceIte, Nat.reduceEqDiff, mo_c, mo_g0, mo_s0, mo_g1, mo_g2, mo_g3, mo_s3, mo_g4, mo_s4, mo_g5, mo_s5, mo_g6, mo_s6, mo_g7, mo_s7, mo_g8, mo_s8, mo_g9, mo_g10, mo_g11, mo_g12, mo_g13, mo_s13, mo_g14, mo_s14, mo_g15, mo_s15, mo_g16, mo_g17, mo_s17, mo_g18, mo_s18, mo_g19, mo_g20, mo_s20, mo_g21, mo_s21, mo_g22, mo_s22, mo_g23, mo_s23, s0, hu, a1, a2, zd_0_n, zd_0_p]
  · simp only [if_neg q, show (2 : Nat) + 3 = 5 from rfl] at hu ⊢
    by_cases q5 : kind = 6
    · simp only [if_pos q5]
      obtain ⟨μ1, a1, b1, c1⟩ := m_ran (X := X) (d := d + 3) (τ := τ) (y := nI 61) h (by omega)
      obtain ⟨μ2, a2, b2, c2⟩ := m_d0 (X := X) (d := d) (τ := τ) (x := x) hk6 (mT_bm ha c1) b1 (by simp; omega)
      obtain ⟨s1, s2, s3⟩ := mT_bm (mT_bm ha c1) c2
      refine ⟨μ2, ?_, by simp only [List.append_assoc] at b2; exact b2, bm_trans c1 c2⟩
      simp (disch := first | assumption | omega | decide) only [e215, i215_0, i215_1, i215_4, i215_5, i215_8, i215_11, i215_12, i215_14, i215_17, i215_18, i215_19, i215_22, i215_23, i215_24, i215_25, i215_28, i215_30, i215_33, i215_34, i215_36, i215_39, i215_40, i215_41, i215_44, i215_45, i215_48, i215_49, i215_50, i215_51, i215_52, i215_55, ix_pv_s, ix_pi_s, zpn, ix_po_s, ix_po_n, ix_ph_s, ix_bk_v, ix_bk_n, zcv, zcv_ne, ↓reduceIte, Nat.reduceEqDiff, mo_c, mo_g0, mo_s0, mo_g1, mo_g2, mo_g3, mo_s3, mo_g4, mo_s4, mo_g5, mo_s5, mo_g6, mo_s6, mo_g7, mo_s7, mo_g8, mo_s8, mo_g9, mo_g10, mo_g11, mo_g12, mo_g13, mo_s13, mo_g14, mo_s14, mo_g15, mo_s15, mo_g16, mo_g17, mo_s17, mo_g18, mo_s18, mo_g19, mo_g20, mo_s20, mo_g21, mo_s21, mo_g22, mo_s22, mo_g23, mo_s23, s0, hu, a1, a2, s3, zd_0_n, zd_0_p, zd_eq_p, not_true_eq_false]
    · simp only [if_neg q5]
      obtain ⟨μ2, a2, b2, c2⟩ := m_d0 (X := X) (d := d) (τ := τ) (x := x) hk6 ha h (by omega)
      refine ⟨μ2, ?_, by simp only [List.append_assoc] at b2; exact b2, c2⟩
      simp (disch := first | assumption | omega | decide) only [e215, i215_0, i215_1, i215_4, i215_5, i215_8, i215_11, i215_12, i215_14, i215_17, i215_18, i215_19, i215_22, i215_23, i215_24, i215_25, i215_28, i215_30, i215_33, i215_34, i215_36, i215_39, i215_40, i215_41, i215_44, i215_45, i215_48, i215_49, i215_50, i215_51, i215_52, i215_55, ix_pv_s, ix_pi_s, zpn, ix_po_s, ix_po_n, ix_ph_s, ix_bk_v, ix_bk_n, zcv, zcv_ne, ↓reduceIte, Nat.reduceEqDiff, mo_c, mo_g0, mo_s0, mo_g1, mo_g2, mo_g3, mo_s3, mo_g4, mo_s4, mo_g5, mo_s5, mo_g6, mo_s6, mo_g7, mo_s7, mo_g8, mo_s8, mo_g9, mo_g10, mo_g11, mo_g12, mo_g13, mo_s13, mo_g14, mo_s14, mo_g15, mo_s15, mo_g16, mo_g17, mo_s17, mo_g18, mo_s18, mo_g19, mo_g20, mo_s20, mo_g21, mo_s21, mo_g22, mo_s22, mo_g23, mo_s23, s0, hu, a2, zd_0_n, zd_0_p, zd_eq_n, not_false_eq_true]
theorem m_t0 (hk6 : kind ≤ 6) (ha : mT μ kind i v) (h : boM μ l) (hl : l.length < 16) : ∃ μ' : fm_M, ix_call X (d + 5) 218 [.ref 67, .int x] (fm_W μ τ) = some (some (.int (drV kind i v x * nI 2)), fm_W μ' τ) ∧ boM μ' (l ++ [nI 3] ++ drB kind) ∧ bm μ μ' := by
  obtain ⟨μ1, a1, b1, c1⟩ := m_ran (X := X) (d := d + 4) (τ := τ) (y := nI 3) h (by omega)
  obtain ⟨μ2, a2, b2, c2⟩ := m_drips (X := X) (d := d) (τ := τ) (x := x) hk6 (mT_bm ha c1) b1 (by simp; omega)
  refine ⟨μ2, ?_, b2, bm_trans c1 c2⟩
  simp (disch := first | assumption | omega | decide) only [e218, i218_0, i218_1, i218_2, i218_5, i218_6, i218_7, i218_10, i218_11, i218_12, ix_pv_s, ix_pi_s, zpn, ix_po_s, ix_po_n, ix_ph_s, ix_bk_v, ix_bk_n, zcv, zcv_ne, ↓reduceIte, Nat.reduceEqDiff, mo_c, mo_g0, mo_s0, mo_g1, mo_g2, mo_g3, mo_s3, mo_g4, mo_s4, mo_g5, mo_s5, mo_g6, mo_s6, mo_g7, mo_s7, mo_g8, mo_s8, mo_g9, mo_g10, mo_g11, mo_g12, mo_g13, mo_s13, mo_g14, mo_s14, mo_g15, mo_s15, mo_g16, mo_g17, mo_s17, mo_g18, mo_s18, mo_g19, mo_g20, mo_s20, mo_g21, mo_s21, mo_g22, mo_s22, mo_g23, mo_s23, a1, a2]
theorem m_tells (hk6 : kind ≤ 6) (ha : mT μ kind i v) (h : boM μ l) (hl : l.length < 10) : ∃ μ' : fm_M, ix_call X (d + 6) 217 [.ref 67, .int x] (fm_W μ τ) = some (some (.int (teV kind i v x)), fm_W μ' τ) ∧ boM μ' (l ++ teB kind) ∧ bm μ μ' := by
  have hu := m_is (X := X) (d := d + 5) (k := 3) (H := fm_W μ τ) hk6 (by decide)
  have s0 := ha.1
  have hd := drB_l kind
  unfold teV teB
  by_cases q : kind = 3 ∨ kind = 6
  · simp only [if_pos q, show (3 : Nat) + 3 = 6 from rfl] at hu ⊢
    obtain ⟨μ1, a1, b1, c1⟩ := m_ran (X := X) (d := d + 5) (τ := τ) (y := nI 31) h (by omega)
    obtain ⟨μ2, a2, b2, c2⟩ := m_t0 (X := X) (d := d) (τ := τ) (x := x) hk6 (mT_bm ha c1) b1 (by simp; omega)
    refine ⟨μ2, ?_, by simp only [List.append_assoc] at b2; exact b2, bm_trans c1 c2⟩
    simp (disch := first | assumption | omega | decide) only [e217, i217_0, i217_1, i217_4, i217_5, i217_8, i217_11, i217_12, i217_14, i217_17, i217_18, i217_19, i217_22, i217_24, i217_25, i217_26, i217_27, i217_30, i217_31, i217_34, i217_35, i217_37, i217_40, i217_41, i217_42, i217_43, i217_44, i217_47, i217_48, i217_49, i217_50, i217_51, i217_54, i217_55, i217_56, i217_57, i217_58, i217_61, ix_pv_s, ix_pi_s, zpn, ix_po_s, ix_po_n, ix_ph_s, ix_bk_v, ix_bk_n, zcv, zcv_ne, ↓reduceIte, Nat.reduceEqDiff, mo_c, mo_g0, mo_s0, mo_g1, mo_g2, mo_g3, mo_s3, mo_g4, mo_s4, mo_g5, mo_s5, mo_g6, mo_s6, mo_g7, mo_s7, mo_g8, mo_s8, mo_g9, mo_g10, mo_g11, mo_g12, mo_g13, mo_s13, mo_g14, mo_s14, mo_g15, mo_s15, mo_g16, mo_g17, mo_s17, mo_g18, mo_s18, mo_g19, mo_g20, mo_s20, mo_g21, mo_s21, mo_g22, mo_s22, mo_g23, mo_s23, s0, hu, a1, a2, zd_0_n, zd_0_p]
  · simp only [if_neg q, show (3 : Nat) + 3 = 6 from rfl] at hu ⊢
    by_cases q5 : kind = 4
    · simp only [if_pos q5]
      obtain ⟨μ1, a1, b1, c1⟩ := m_ran (X := X) (d := d + 5) (τ := τ) (y := nI 41) h (by omega)
      obtain ⟨μ2, a2, b2, c2⟩ := m_t0 (X := X) (d := d) (τ := τ) (x := x - nI 1) hk6 (mT_bm ha c1) b1 (by simp; omega)
      obtain ⟨μ3, a3, b3, c3⟩ := m_holds (X := X) (d := d + 3) (τ := τ) (x := nI 2) hk6 (mT_bm (mT_bm ha c1) c2) b2 (by simp; omega)
      refine ⟨μ3, ?_, by simp only [List.append_assoc] at b3; exact b3, bm_trans (bm_trans c1 c2) c3⟩
      simp (disch := first | assumption | omega | decide) only [e217, i217_0, i217_1, i217_4, i217_5, i217_8, i217_11, i217_12, i217_14, i217_17, i217_18, i217_19, i217_22, i217_24, i217_25, i217_26, i217_27, i217_30, i217_31, i217_34, i217_35, i217_37, i217_40, i217_41, i217_42, i217_43, i217_44, i217_47, i217_48, i217_49, i217_50, i217_51, i217_54, i217_55, i217_56, i217_57, i217_58, i217_61, ix_pv_s, ix_pi_s, zpn, ix_po_s, ix_po_n, ix_ph_s, ix_bk_v, ix_bk_n, zcv, zcv_ne, ↓reduceIte, Nat.reduceEqDiff, mo_c, mo_g0, mo_s0, mo_g1, mo_g2, mo_g3, mo_s3, mo_g4, mo_s4, mo_g5, mo_s5, mo_g6, mo_s6, mo_g7, mo_s7, mo_g8, mo_s8, mo_g9, mo_g10, mo_g11, mo_g12, mo_g13, mo_s13, mo_g14, mo_s14, mo_g15, mo_s15, mo_g16, mo_g17, mo_s17, mo_g18, mo_s18, mo_g19, mo_g20, mo_s20, mo_g21, mo_s21, mo_g22, mo_s22, mo_g23, mo_s23, s0, hu, a1, a2, a3, zd_0_n, zd_0_p, zd_eq_p, not_true_eq_false]
    · simp only [if_neg q5]
      obtain ⟨μ2, a2, b2, c2⟩ := m_t0 (X := X) (d := d) (τ := τ) (x := x) hk6 ha h (by omega)
      refine ⟨μ2, ?_, by simp only [List.append_assoc] at b2; exact b2, c2⟩
      simp (disch := first | assumption | omega | decide) only [e217, i217_0, i217_1, i217_4, i217_5, i217_8, i217_11, i217_12, i217_14, i217_17, i217_18, i217_19, i217_22, i217_24, i217_25, i217_26, i217_27, i217_30, i217_31, i217_34, i217_35, i217_37, i217_40, i217_41, i217_42, i217_43, i217_44, i217_47, i217_48, i217_49, i217_50, i217_51, i217_54, i217_55, i217_56, i217_57, i217_58, i217_61, ix_pv_s, ix_pi_s, zpn, ix_po_s, ix_po_n, ix_ph_s, ix_bk_v, ix_bk_n, zcv, zcv_ne, ↓reduceIte, Nat.reduceEqDiff, mo_c, mo_g0, mo_s0, mo_g1, mo_g2, mo_g3, mo_s3, mo_g4, mo_s4, mo_g5, mo_s5, mo_g6, mo_s6, mo_g7, mo_s7, mo_g8, mo_s8, mo_g9, mo_g10, mo_g11, mo_g12, mo_g13, mo_s13, mo_g14, mo_s14, mo_g15, mo_s15, mo_g16, mo_g17, mo_s17, mo_g18, mo_s18, mo_g19, mo_g20, mo_s20, mo_g21, mo_s21, mo_g22, mo_s22, mo_g23, mo_s23, s0, hu, a2, zd_0_n, zd_0_p, zd_eq_n, not_false_eq_true]
end MA
theorem teB_l (kind : Nat) : (teB kind).length ≤ 10 := by
  have := hoB_l kind
  have := drB_l kind
  unfold teB
  split
  · simp only [List.length_cons]; omega
  · split
    · simp only [List.length_cons, List.length_append]; omega
    · simp only [List.length_cons]; omega
section MB
variable {X : ix_X} {d : Nat} {τ : List fm_D} {μ μ' : fm_M} {S : Nat → Int32} {N : Nat → Nat} {C : Nat → List Nat} {Q : Nat → Nat}
theorem boI_of {l : List Int32} (h1 : boC μ l) (h2 : boM μ l) (hl : l.length ≤ 20) : boI μ := ⟨l.length, hl, h1.1, h2.1, fun i hi => (h1.2 i hi).trans (h2.2 i hi).symm⟩
theorem QI_bo (h : QI μ τ S N C Q) (hr : ∀ r, r ≠ 19 → r ≠ 20 → r ≠ 67 → r ≠ 75 → μ' r = μ r) (h67 : ∀ k, k < 20 → μ' 67 k = μ 67 k) (hbo : boI μ') : QI μ' τ S N C Q := by
  obtain ⟨i, ⟨j1, j2, j3, j4, j5⟩, hc, hm⟩ := h
  obtain ⟨b0, b1, b2, b3, b4, b5, b6, b8, b9, b10⟩ := id i.2.1
  refine ⟨i, ⟨?_, hbo, ?_, ?_, ?_⟩, ck_rows hc (fun x a b => hr x (by omega) (by omega) (by omega) (by omega)), mk2_row hm (hr 68 (by decide) (by decide) (by decide) (by decide)) (hr 72 (by decide) (by decide) (by decide) (by decide)) (hr 73 (by decide) (by decide) (by decide) (by decide))⟩
  · unfold rsI rwI at j1 ⊢
    rw [hr 1 (by decide) (by decide) (by decide) (by decide), hr 2 (by decide) (by decide) (by decide) (by decide), hr 4 (by decide) (by decide) (by decide) (by decide), hr 5 (by decide) (by decide) (by decide) (by decide), hr 7 (by decide) (by decide) (by decide) (by decide), hr 8 (by decide) (by decide) (by decide) (by decide), hr 10 (by decide) (by decide) (by decide) (by decide), hr 11 (by decide) (by decide) (by decide) (by decide), hr 13 (by decide) (by decide) (by decide) (by decide), hr 14 (by decide) (by decide) (by decide) (by decide), hr 16 (by decide) (by decide) (by decide) (by decide), hr 17 (by decide) (by decide) (by decide) (by decide)]
    exact j1
  · refine ⟨fun t ht => ?_, j3.2⟩
    obtain ⟨a, b, ⟨kind, c⟩, e⟩ := j3.1 t ht
    have h76 := trT_76 c
    refine ⟨by rw [hr 22 (by decide) (by decide) (by decide) (by decide)]; exact a, b, ⟨kind, trT_of c (hr _ (by omega) (by omega) (by omega) (by omega)) (hr _ (by omega) (by omega) (by omega) (by omega))⟩, by rw [hr (52 + 2 * t) (by omega) (by omega) (by omega) (by omega)]; exact e⟩
  · obtain ⟨a, b, c, e, f, g⟩ := j4
    refine ⟨fun i hi => by rw [hr 23 (by decide) (by decide) (by decide) (by decide), hr 24 (by decide) (by decide) (by decide) (by decide), hr (52 + 2 * i) (by omega) (by omega) (by omega) (by omega), hr (53 + 2 * i) (by omega) (by omega) (by omega) (by omega)]; exact a i hi, by rw [hr 0 (by decide) (by decide) (by decide) (by decide)]; exact b, pr_cs_of c (hr 26 (by decide) (by decide) (by decide) (by decide)) (hr 27 (by decide) (by decide) (by decide) (by decide)), by rw [hr 26 (by decide) (by decide) (by decide) (by decide)]; exact e, by rw [hr 26 (by decide) (by decide) (by decide) (by decide)]; exact f, fun x hx => ?_⟩
    obtain ⟨y1, y2, y3⟩ := g x hx
    have r1 := hr (30 + 4 * x) (by omega) (by omega) (by omega) (by omega)
    refine ⟨pr_cs_of y1 r1 (hr _ (by omega) (by omega) (by omega) (by omega)), by rw [r1]; exact y2, by rw [r1]; exact y3⟩
  · unfold imI at j5 ⊢
    rw [hr 0 (by decide) (by decide) (by decide) (by decide), h67 3 (by decide)]
    rcases j5 with j5 | ⟨y1, y2, I, M, hk'⟩
    · exact Or.inl j5
    · refine Or.inr ⟨y1, y2, I, M, ?_⟩
      unfold kpI at hk' ⊢
      obtain ⟨k1, k2, k3, k4, k5, k6, k7, k8, k9, k10, k11, k12⟩ := hk'
      rw [hr 69 (by decide) (by decide) (by decide) (by decide), hr 1 (by decide) (by decide) (by decide) (by decide), hr 3 (by decide) (by decide) (by decide) (by decide), hr 4 (by decide) (by decide) (by decide) (by decide), hr 6 (by decide) (by decide) (by decide) (by decide), hr 7 (by decide) (by decide) (by decide) (by decide), hr 9 (by decide) (by decide) (by decide) (by decide), hr 10 (by decide) (by decide) (by decide) (by decide), hr 12 (by decide) (by decide) (by decide) (by decide), hr 13 (by decide) (by decide) (by decide) (by decide), hr 15 (by decide) (by decide) (by decide) (by decide), hr 16 (by decide) (by decide) (by decide) (by decide), hr 18 (by decide) (by decide) (by decide) (by decide)]
      refine ⟨k1, k2, k3, k4, k5, k6, k7, k8, k9, k10, fun t ht => ?_, k12⟩
      obtain ⟨_, _, ⟨kind, c⟩, _⟩ := j3.1 t (by omega)
      have h76 := trT_76 c
      rw [hr (Q t) (by omega) (by omega) (by omega) (by omega), hr (Q t + 2) (by omega) (by omega) (by omega) (by omega)]
      exact k11 t ht
theorem agm_act {a b x : Int32} : agm X (d + 8) τ S N C Q 125 210 [.int a, .int b, .int x] := by
  intro μ h
  have hO : rwO 19 := rfl
  have hA : rwA 19 20 := ⟨rfl, rfl, rfl⟩
  have hb := QI_b h
  have e68 := QI_68 h
  have e0 := QI_S h (k := 0) (by decide) (by decide)
  obtain ⟨ran, hran, ⟨r0, r1, r2⟩, m20, hbo⟩ := h.2.1.2.1
  have k0 := rw_clear (X := X) (d := d + 7) (τ := τ) (μ := μ) hA
  obtain ⟨μ0, hμ0⟩ : ∃ μ0, μ0 = fm_u μ 19 4 (nI 0) := ⟨_, rfl⟩
  rw [← hμ0] at k0
  have g0 : ∀ r, r ≠ 19 → μ0 r = μ r := fun r hr => by rw [hμ0, fm_un hr]
  have bc0 : boC μ0 [] := ⟨⟨by rw [hμ0, fm_uk (by decide)]; exact r0, by rw [hμ0, fm_uk (by decide)]; exact r1, by rw [hμ0, fm_us]; rfl⟩, fun i hi => absurd hi (by simp)⟩
  -- trees are found as before
  have nb0 : nbS μ0 := by unfold nbS; rw [g0 1 (by decide)]; exact QI_nb h
  have n0 : μ0 2 4 = nI (N 0) := by rw [g0 2 (by decide)]; exact QI_n h
  have none1 : ∀ μ1 : fm_M, μ1 = μ0 → ∀ v67 : fm_M, v67 = fm_u μ1 67 20 (nI 0) → QI v67 τ S N C Q := by
    intro μ1 e1 μ2 e2
    refine QI_bo h (fun r a b c e => by rw [e2, fm_un c, e1, g0 r a]) (fun k hk => by rw [e2, fm_uk (by omega), e1, g0 67 (by decide)]) (boI_of (l := []) ?_ ⟨by rw [e2, fm_us]; rfl, fun i hi => absurd hi (by simp)⟩ (by simp))
    unfold boC rwI
    rw [e2, fm_un (by decide), fm_un (by decide), e1]
    exact bc0
  by_cases ha : inS a (N 0)
  · obtain ⟨t, ht, rfl⟩ := ha
    obtain ⟨w1, w2, ⟨kind, hT⟩, w4⟩ := QI_tree h ht
    obtain ⟨rest, hO2⟩ := hT.2.2.1
    have hk6 := hT.2.1
    have hkd := hT.1
    have hc := cl_treeAt (X := X) (d := d + 5) (τ := τ) (μ := μ0) (i := t) (q := Q t) nb0 n0 hb.1 ht (by rw [g0 22 (by decide)]; exact w1) (by omega)
    obtain ⟨s1, s2, s3, s4⟩ := sp_num h.2.2.1 ht
    have ha0 : aT μ0 t (nI t) (S (17 + t)) := ⟨s4, by rw [g0 _ (by omega)]; exact s1, by rw [g0 _ (by omega)]; exact s3⟩
    by_cases hin : nI 0 ≤ b ∧ b ≤ nI 2
    · obtain ⟨k, _, hk, rfl⟩ := in_nat hin (by decide) (by decide)
      -- the model's start, over any memory that the program leaves
      have fin : ∀ (μ1 : fm_M) (l : List Int32) (v : Int32), boC μ1 l → l.length ≤ 20 → bf μ0 μ1 → (∀ μ2 : fm_M, mT μ2 kind (nI t) (S (17 + t)) → boM μ2 [] → ∃ μ3 : fm_M, ix_call X (d + 7) (if k = 0 then 211 else if k = 1 then 215 else 217) [.ref 67, .int x] (fm_W μ2 τ) = some (some (.int v), fm_W μ3 τ) ∧ boM μ3 l ∧ bm μ2 μ3) → ∃ μ3, ix_call X (d + 8) 210 [.ref 67, .int (nI t), .int (nI k), .int x] (fm_W μ1 τ) = some (some (.int v), fm_W μ3 τ) ∧ QI μ3 τ S N C Q := by
        intro μ1 l v b1 hl c1 hm
        have f68 : μ1 68 = S := by rw [c1 68 (by decide) (by decide), g0 68 (by decide), e68]
        have ht1 := mo_isTree (X := X) (d := d + 6) (τ := τ) (μ := fm_u μ1 67 20 (nI 0)) (a := nI t) (n := N 0) (by rw [fm_un (by decide), f68]; exact e0) (by omega) (inS_p ht)
        obtain ⟨μ3, a3, b3, c3⟩ := hm (fm_u (fm_u (fm_u (fm_u μ1 67 20 (nI 0)) 67 21 (nI kind)) 67 22 (nI t)) 67 23 (S (17 + t))) ⟨by rw [fm_uk (by decide), fm_uk (by decide), fm_us], by rw [fm_uk (by decide), fm_us], fm_us⟩ ⟨by rw [fm_uk (by decide), fm_uk (by decide), fm_uk (by decide), fm_us]; rfl, fun i hi => absurd hi (by simp)⟩
        have row3 : ∀ r, r ≠ 67 → r ≠ 75 → μ3 r = μ1 r := fun r x y => by rw [c3.1 r x y, fm_un x, fm_un x, fm_un x, fm_un x]
        refine ⟨μ3, ?_, QI_bo h (fun r x y z w => by rw [row3 r z w, c1 r x y, g0 r x]) (fun j hj => by rw [c3.2 j (by omega), fm_uk (by omega), fm_uk (by omega), fm_uk (by omega), fm_uk (by omega), c1 67 (by decide) (by decide), g0 67 (by decide)]) (boI_of (l := l) ?_ b3 hl)⟩
        · rcases (by omega : k = 0 ∨ k = 1 ∨ k = 2) with rfl | rfl | rfl
          · simp only [↓reduceIte] at a3
            simp (disch := first | assumption | omega | decide) only [e210, i210_0, i210_1, i210_2, i210_5, i210_6, i210_7, i210_10, i210_13, i210_14, i210_15, i210_16, i210_19, i210_22, i210_23, i210_24, i210_25, i210_26, i210_29, i210_31, i210_32, i210_33, i210_34, i210_37, i210_38, i210_39, i210_42, i210_43, i210_44, i210_47, i210_49, i210_50, i210_51, i210_52, i210_55, i210_56, i210_59, i210_60, i210_61, i210_64, i210_67, i210_68, i210_69, i210_72, i210_73, i210_74, i210_77, i210_80, i210_81, i210_82, i210_85, ix_pv_s, ix_pi_s, zpn, ix_po_s, ix_po_n, ix_ph_s, ix_bk_v, ix_bk_n, zcv, zcv_ne, ↓reduceIte, Nat.reduceEqDiff, zn_m1, zd_lt_p, zd_lt_n, zd_le_p, zd_le_n, zd_eq_p, zd_eq_n, zd_0_p, zd_0_n, zd_0lt_p, zd_0lt_n, zd_le0_p, zd_le0_n, zn_lt0, zn_le0, zn_add, zn_mul, zn_sub, zm_lt, zm_le, zm_eq, zb_1, zb_0, not_true_eq_false, not_false_eq_true, mo_c, mo_g0, mo_s0, mo_g1, mo_g2, mo_g3, mo_s3, mo_g4, mo_s4, mo_g5, mo_s5, mo_g6, mo_s6, mo_g7, mo_s7, mo_g8, mo_s8, mo_g9, mo_g10, mo_g11, mo_g12, mo_g13, mo_s13, mo_g14, mo_s14, mo_g15, mo_s15, mo_g16, mo_g17, mo_s17, mo_g18, mo_s18, mo_g19, mo_g20, mo_s20, mo_g21, mo_s21, mo_g22, mo_s22, mo_g23, mo_s23, ra_25, wa_25, al_25, ra_68, wa_68, al_68, ra_69, wa_69, al_69, ra_70, wa_70, al_70, ra_71, wa_71, al_71, ra_72, wa_72, al_72, ra_73, wa_73, al_73, ra_74, wa_74, al_74, ra_75, wa_75, al_75, ht1, mo_in, hin, and_self, fm_un, f68, hkd, a3, not_true_eq_false]
          · simp only [↓reduceIte, Nat.one_ne_zero] at a3
            simp (disch := first | assumption | omega | decide) only [e210, i210_0, i210_1, i210_2, i210_5, i210_6, i210_7, i210_10, i210_13, i210_14, i210_15, i210_16, i210_19, i210_22, i210_23, i210_24, i210_25, i210_26, i210_29, i210_31, i210_32, i210_33, i210_34, i210_37, i210_38, i210_39, i210_42, i210_43, i210_44, i210_47, i210_49, i210_50, i210_51, i210_52, i210_55, i210_56, i210_59, i210_60, i210_61, i210_64, i210_67, i210_68, i210_69, i210_72, i210_73, i210_74, i210_77, i210_80, i210_81, i210_82, i210_85, ix_pv_s, ix_pi_s, zpn, ix_po_s, ix_po_n, ix_ph_s, ix_bk_v, ix_bk_n, zcv, zcv_ne, ↓reduceIte, Nat.reduceEqDiff, zn_m1, zd_lt_p, zd_lt_n, zd_le_p, zd_le_n, zd_eq_p, zd_eq_n, zd_0_p, zd_0_n, zd_0lt_p, zd_0lt_n, zd_le0_p, zd_le0_n, zn_lt0, zn_le0, zn_add, zn_mul, zn_sub, zm_lt, zm_le, zm_eq, zb_1, zb_0, not_true_eq_false, not_false_eq_true, mo_c, mo_g0, mo_s0, mo_g1, mo_g2, mo_g3, mo_s3, mo_g4, mo_s4, mo_g5, mo_s5, mo_g6, mo_s6, mo_g7, mo_s7, mo_g8, mo_s8, mo_g9, mo_g10, mo_g11, mo_g12, mo_g13, mo_s13, mo_g14, mo_s14, mo_g15, mo_s15, mo_g16, mo_g17, mo_s17, mo_g18, mo_s18, mo_g19, mo_g20, mo_s20, mo_g21, mo_s21, mo_g22, mo_s22, mo_g23, mo_s23, ra_25, wa_25, al_25, ra_68, wa_68, al_68, ra_69, wa_69, al_69, ra_70, wa_70, al_70, ra_71, wa_71, al_71, ra_72, wa_72, al_72, ra_73, wa_73, al_73, ra_74, wa_74, al_74, ra_75, wa_75, al_75, ht1, mo_in, hin, and_self, fm_un, f68, hkd, a3]
          · simp only [↓reduceIte, Nat.reduceEqDiff] at a3
            simp (disch := first | assumption | omega | decide) only [e210, i210_0, i210_1, i210_2, i210_5, i210_6, i210_7, i210_10, i210_13, i210_14, i210_15, i210_16, i210_19, i210_22, i210_23, i210_24, i210_25, i210_26, i210_29, i210_31, i210_32, i210_33, i210_34, i210_37, i210_38, i210_39, i210_42, i210_43, i210_44, i210_47, i210_49, i210_50, i210_51, i210_52, i210_55, i210_56, i210_59, i210_60, i210_61, i210_64, i210_67, i210_68, i210_69, i210_72, i210_73, i210_74, i210_77, i210_80, i210_81, i210_82, i210_85, ix_pv_s, ix_pi_s, zpn, ix_po_s, ix_po_n, ix_ph_s, ix_bk_v, ix_bk_n, zcv, zcv_ne, ↓reduceIte, Nat.reduceEqDiff, zn_m1, zd_lt_p, zd_lt_n, zd_le_p, zd_le_n, zd_eq_p, zd_eq_n, zd_0_p, zd_0_n, zd_0lt_p, zd_0lt_n, zd_le0_p, zd_le0_n, zn_lt0, zn_le0, zn_add, zn_mul, zn_sub, zm_lt, zm_le, zm_eq, zb_1, zb_0, not_true_eq_false, not_false_eq_true, mo_c, mo_g0, mo_s0, mo_g1, mo_g2, mo_g3, mo_s3, mo_g4, mo_s4, mo_g5, mo_s5, mo_g6, mo_s6, mo_g7, mo_s7, mo_g8, mo_s8, mo_g9, mo_g10, mo_g11, mo_g12, mo_g13, mo_s13, mo_g14, mo_s14, mo_g15, mo_s15, mo_g16, mo_g17, mo_s17, mo_g18, mo_s18, mo_g19, mo_g20, mo_s20, mo_g21, mo_s21, mo_g22, mo_s22, mo_g23, mo_s23, ra_25, wa_25, al_25, ra_68, wa_68, al_68, ra_69, wa_69, al_69, ra_70, wa_70, al_70, ra_71, wa_71, al_71, ra_72, wa_72, al_72, ra_73, wa_73, al_73, ra_74, wa_74, al_74, ra_75, wa_75, al_75, ht1, mo_in, hin, and_self, fm_un, f68, hkd, a3]
        · unfold boC rwI
          rw [row3 19 (by decide) (by decide), row3 20 (by decide) (by decide)]
          exact b1
      rcases (by omega : k = 0 ∨ k = 1 ∨ k = 2) with rfl | rfl | rfl
      · obtain ⟨μ1, a1, b1, c1⟩ := a_holds (X := X) (d := d + 5) (x := x) hk6 hO2 ha0 bc0 (by simp)
        rw [List.nil_append] at b1
        obtain ⟨μ3, a3, q3⟩ := fin μ1 _ _ b1 (by have := hoB_l kind; omega) c1 (fun μ2 m1 m2 => m_holds (X := X) (d := d + 5) (τ := τ) (x := x) (l := []) hk6 m1 m2 (by simp))
        refine ⟨_, μ1, μ3, S, N, C, Q, ?_, a3, q3⟩
        simp (disch := first | assumption | omega | decide) only [e125, i125_0, i125_1, i125_4, i125_7, i125_8, i125_9, i125_12, i125_12n, i125_14, i125_14n, i125_16n, i125_16, i125_19, i125_20, i125_21, i125_22, i125_48, i125_48n, i125_50, i125_51, i125_54, i125_55, i125_58, i125_59, i125_59n, i125_61, i125_62, i125_65, i125_66, i125_69, i125_70, i125_70n, i125_72, i125_73, i125_76, i125_77, i125_80, i125_81, i125_82, ix_pv_s, ix_pi_s, zpn, ix_po_s, ix_po_n, ix_ph_s, ix_bk_v, ix_bk_n, zcv, zcv_ne, ↓reduceIte, Nat.reduceEqDiff, zn_m1, zd_lt_p, zd_lt_n, zd_le_p, zd_le_n, zd_eq_p, zd_eq_n, zd_0_p, zd_0_n, zd_0lt_p, zd_0lt_n, zd_le0_p, zd_le0_n, zn_lt0, zn_le0, zn_add, zn_mul, zn_sub, zm_lt, zm_le, zm_eq, zb_1, zb_0, not_true_eq_false, not_false_eq_true, t0_c, t0_g0, t0_g1, t0_g2, t0_g3, t0_g4, t0_g5, t0_g6, t0_g7, t0_g8, t0_g9, t0_g10, t0_s11, t0_g12, t0_s12, t0_g13, t0_g14, t0_g15, t0_g16, t0_c, rw_c, k0, hc, a1]
      · obtain ⟨μ1, a1, b1, c1⟩ := a_drips (X := X) (d := d + 3) (x := x) hk6 hO2 ha0 bc0 (by simp)
        rw [List.nil_append] at b1
        obtain ⟨μ3, a3, q3⟩ := fin μ1 _ _ b1 (by have := drB_l kind; omega) c1 (fun μ2 m1 m2 => m_drips (X := X) (d := d + 3) (τ := τ) (x := x) (l := []) hk6 m1 m2 (by simp))
        refine ⟨_, μ1, μ3, S, N, C, Q, ?_, a3, q3⟩
        simp (disch := first | assumption | omega | decide) only [e125, i125_0, i125_1, i125_4, i125_7, i125_8, i125_9, i125_12, i125_12n, i125_14, i125_14n, i125_16n, i125_16, i125_19, i125_20, i125_21, i125_22, i125_48, i125_48n, i125_50, i125_51, i125_54, i125_55, i125_58, i125_59, i125_59n, i125_61, i125_62, i125_65, i125_66, i125_69, i125_70, i125_70n, i125_72, i125_73, i125_76, i125_77, i125_80, i125_81, i125_82, ix_pv_s, ix_pi_s, zpn, ix_po_s, ix_po_n, ix_ph_s, ix_bk_v, ix_bk_n, zcv, zcv_ne, ↓reduceIte, Nat.reduceEqDiff, zn_m1, zd_lt_p, zd_lt_n, zd_le_p, zd_le_n, zd_eq_p, zd_eq_n, zd_0_p, zd_0_n, zd_0lt_p, zd_0lt_n, zd_le0_p, zd_le0_n, zn_lt0, zn_le0, zn_add, zn_mul, zn_sub, zm_lt, zm_le, zm_eq, zb_1, zb_0, not_true_eq_false, not_false_eq_true, t0_c, t0_g0, t0_g1, t0_g2, t0_g3, t0_g4, t0_g5, t0_g6, t0_g7, t0_g8, t0_g9, t0_g10, t0_s11, t0_g12, t0_s12, t0_g13, t0_g14, t0_g15, t0_g16, t0_c, rw_c, k0, hc, a1]
      · obtain ⟨μ1, a1, b1, c1⟩ := a_tells (X := X) (d := d + 1) (x := x) hk6 hO2 ha0 bc0 (by simp)
        rw [List.nil_append] at b1
        obtain ⟨μ3, a3, q3⟩ := fin μ1 _ _ b1 (by have := teB_l kind; omega) c1 (fun μ2 m1 m2 => m_tells (X := X) (d := d + 1) (τ := τ) (x := x) (l := []) hk6 m1 m2 (by simp))
        refine ⟨_, μ1, μ3, S, N, C, Q, ?_, a3, q3⟩
        simp (disch := first | assumption | omega | decide) only [e125, i125_0, i125_1, i125_4, i125_7, i125_8, i125_9, i125_12, i125_12n, i125_14, i125_14n, i125_16n, i125_16, i125_19, i125_20, i125_21, i125_22, i125_48, i125_48n, i125_50, i125_51, i125_54, i125_55, i125_58, i125_59, i125_59n, i125_61, i125_62, i125_65, i125_66, i125_69, i125_70, i125_70n, i125_72, i125_73, i125_76, i125_77, i125_80, i125_81, i125_82, ix_pv_s, ix_pi_s, zpn, ix_po_s, ix_po_n, ix_ph_s, ix_bk_v, ix_bk_n, zcv, zcv_ne, ↓reduceIte, Nat.reduceEqDiff, zn_m1, zd_lt_p, zd_lt_n, zd_le_p, zd_le_n, zd_eq_p, zd_eq_n, zd_0_p, zd_0_n, zd_0lt_p, zd_0lt_n, zd_le0_p, zd_le0_n, zn_lt0, zn_le0, zn_add, zn_mul, zn_sub, zm_lt, zm_le, zm_eq, zb_1, zb_0, not_true_eq_false, not_false_eq_true, t0_c, t0_g0, t0_g1, t0_g2, t0_g3, t0_g4, t0_g5, t0_g6, t0_g7, t0_g8, t0_g9, t0_g10, t0_s11, t0_g12, t0_s12, t0_g13, t0_g14, t0_g15, t0_g16, t0_c, rw_c, k0, hc, a1]
    · have q0 := in_ne (k := 0) hin (by decide) (by decide) (by decide)
      have q1 := in_ne (k := 1) hin (by decide) (by decide) (by decide)
      have q2 := in_ne (k := 2) hin (by decide) (by decide) (by decide)
      have ht1 := mo_isTree (X := X) (d := d + 6) (τ := τ) (μ := fm_u μ0 67 20 (nI 0)) (a := nI t) (n := N 0) (by rw [fm_un (by decide), g0 68 (by decide), e68]; exact e0) (by omega) (inS_p ht)
      refine ⟨nI 0, μ0, _, S, N, C, Q, ?_, ?_, none1 μ0 rfl _ rfl⟩
      · simp (disch := first | assumption | omega | decide) only [e125, i125_0, i125_1, i125_4, i125_7, i125_8, i125_9, i125_12, i125_12n, i125_14, i125_14n, i125_16n, i125_16, i125_19, i125_20, i125_21, i125_22, i125_48, i125_48n, i125_50, i125_51, i125_54, i125_55, i125_58, i125_59, i125_59n, i125_61, i125_62, i125_65, i125_66, i125_69, i125_70, i125_70n, i125_72, i125_73, i125_76, i125_77, i125_80, i125_81, i125_82, ix_pv_s, ix_pi_s, zpn, ix_po_s, ix_po_n, ix_ph_s, ix_bk_v, ix_bk_n, zcv, zcv_ne, ↓reduceIte, Nat.reduceEqDiff, zn_m1, zd_lt_p, zd_lt_n, zd_le_p, zd_le_n, zd_eq_p, zd_eq_n, zd_0_p, zd_0_n, zd_0lt_p, zd_0lt_n, zd_le0_p, zd_le0_n, zn_lt0, zn_le0, zn_add, zn_mul, zn_sub, zm_lt, zm_le, zm_eq, zb_1, zb_0, not_true_eq_false, not_false_eq_true, t0_c, t0_g0, t0_g1, t0_g2, t0_g3, t0_g4, t0_g5, t0_g6, t0_g7, t0_g8, t0_g9, t0_g10, t0_s11, t0_g12, t0_s12, t0_g13, t0_g14, t0_g15, t0_g16, t0_c, rw_c, k0, hc, q0, q1, q2]
      · simp (disch := first | assumption | omega | decide) only [e210, i210_0, i210_1, i210_2, i210_5, i210_6, i210_7, i210_10, i210_13, i210_14, i210_15, i210_16, i210_19, i210_22, i210_23, i210_24, i210_25, i210_26, i210_29, i210_31, i210_32, i210_33, i210_34, i210_37, i210_38, i210_39, i210_42, i210_43, i210_44, i210_47, i210_49, i210_50, i210_51, i210_52, i210_55, i210_56, i210_59, i210_60, i210_61, i210_64, i210_67, i210_68, i210_69, i210_72, i210_73, i210_74, i210_77, i210_80, i210_81, i210_82, i210_85, ix_pv_s, ix_pi_s, zpn, ix_po_s, ix_po_n, ix_ph_s, ix_bk_v, ix_bk_n, zcv, zcv_ne, ↓reduceIte, Nat.reduceEqDiff, zn_m1, zd_lt_p, zd_lt_n, zd_le_p, zd_le_n, zd_eq_p, zd_eq_n, zd_0_p, zd_0_n, zd_0lt_p, zd_0lt_n, zd_le0_p, zd_le0_n, zn_lt0, zn_le0, zn_add, zn_mul, zn_sub, zm_lt, zm_le, zm_eq, zb_1, zb_0, not_true_eq_false, not_false_eq_true, mo_c, mo_g0, mo_s0, mo_g1, mo_g2, mo_g3, mo_s3, mo_g4, mo_s4, mo_g5, mo_s5, mo_g6, mo_s6, mo_g7, mo_s7, mo_g8, mo_s8, mo_g9, mo_g10, mo_g11, mo_g12, mo_g13, mo_s13, mo_g14, mo_s14, mo_g15, mo_s15, mo_g16, mo_g17, mo_s17, mo_g18, mo_s18, mo_g19, mo_g20, mo_s20, mo_g21, mo_s21, mo_g22, mo_s22, mo_g23, mo_s23, ra_25, wa_25, al_25, ra_68, wa_68, al_68, ra_69, wa_69, al_69, ra_70, wa_70, al_70, ra_71, wa_71, al_71, ra_72, wa_72, al_72, ra_73, wa_73, al_73, ra_74, wa_74, al_74, ra_75, wa_75, al_75, ht1, mo_in, hin]
  · have hc := cl_treeNo (X := X) (d := d + 5) (τ := τ) (μ := μ0) (i := a) nb0 n0 hb.1 (inS_n ha)
    have ht1 := mo_isTreeN (X := X) (d := d + 6) (τ := τ) (μ := fm_u μ0 67 20 (nI 0)) (a := a) (n := N 0) (by rw [fm_un (by decide), g0 68 (by decide), e68]; exact e0) (by omega) ha
    refine ⟨nI 0, μ0, _, S, N, C, Q, ?_, ?_, none1 μ0 rfl _ rfl⟩
    · simp (disch := first | assumption | omega | decide) only [e125, i125_0, i125_1, i125_4, i125_7, i125_8, i125_9, i125_12, i125_12n, i125_14, i125_14n, i125_16n, i125_16, i125_19, i125_20, i125_21, i125_22, i125_48, i125_48n, i125_50, i125_51, i125_54, i125_55, i125_58, i125_59, i125_59n, i125_61, i125_62, i125_65, i125_66, i125_69, i125_70, i125_70n, i125_72, i125_73, i125_76, i125_77, i125_80, i125_81, i125_82, ix_pv_s, ix_pi_s, zpn, ix_po_s, ix_po_n, ix_ph_s, ix_bk_v, ix_bk_n, zcv, zcv_ne, ↓reduceIte, Nat.reduceEqDiff, zn_m1, zd_lt_p, zd_lt_n, zd_le_p, zd_le_n, zd_eq_p, zd_eq_n, zd_0_p, zd_0_n, zd_0lt_p, zd_0lt_n, zd_le0_p, zd_le0_n, zn_lt0, zn_le0, zn_add, zn_mul, zn_sub, zm_lt, zm_le, zm_eq, zb_1, zb_0, not_true_eq_false, not_false_eq_true, t0_c, t0_g0, t0_g1, t0_g2, t0_g3, t0_g4, t0_g5, t0_g6, t0_g7, t0_g8, t0_g9, t0_g10, t0_s11, t0_g12, t0_s12, t0_g13, t0_g14, t0_g15, t0_g16, t0_c, rw_c, k0, hc]
    · simp (disch := first | assumption | omega | decide) only [e210, i210_0, i210_1, i210_2, i210_5, i210_6, i210_7, i210_10, i210_13, i210_14, i210_15, i210_16, i210_19, i210_22, i210_23, i210_24, i210_25, i210_26, i210_29, i210_31, i210_32, i210_33, i210_34, i210_37, i210_38, i210_39, i210_42, i210_43, i210_44, i210_47, i210_49, i210_50, i210_51, i210_52, i210_55, i210_56, i210_59, i210_60, i210_61, i210_64, i210_67, i210_68, i210_69, i210_72, i210_73, i210_74, i210_77, i210_80, i210_81, i210_82, i210_85, ix_pv_s, ix_pi_s, zpn, ix_po_s, ix_po_n, ix_ph_s, ix_bk_v, ix_bk_n, zcv, zcv_ne, ↓reduceIte, Nat.reduceEqDiff, zn_m1, zd_lt_p, zd_lt_n, zd_le_p, zd_le_n, zd_eq_p, zd_eq_n, zd_0_p, zd_0_n, zd_0lt_p, zd_0lt_n, zd_le0_p, zd_le0_n, zn_lt0, zn_le0, zn_add, zn_mul, zn_sub, zm_lt, zm_le, zm_eq, zb_1, zb_0, not_true_eq_false, not_false_eq_true, mo_c, mo_g0, mo_s0, mo_g1, mo_g2, mo_g3, mo_s3, mo_g4, mo_s4, mo_g5, mo_s5, mo_g6, mo_s6, mo_g7, mo_s7, mo_g8, mo_s8, mo_g9, mo_g10, mo_g11, mo_g12, mo_g13, mo_s13, mo_g14, mo_s14, mo_g15, mo_s15, mo_g16, mo_g17, mo_s17, mo_g18, mo_s18, mo_g19, mo_g20, mo_s20, mo_g21, mo_s21, mo_g22, mo_s22, mo_g23, mo_s23, ra_25, wa_25, al_25, ra_68, wa_68, al_68, ra_69, wa_69, al_69, ra_70, wa_70, al_70, ra_71, wa_71, al_71, ra_72, wa_72, al_72, ra_73, wa_73, al_73, ra_74, wa_74, al_74, ra_75, wa_75, al_75, ht1]
end MB
