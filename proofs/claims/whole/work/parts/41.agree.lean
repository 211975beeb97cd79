/-! ===== one call, both sides ===== -/
--need 40.mstr
/-- asked the same, both answer the same, and all is kept -/
def agr (X : ix_X) (d : Nat) (τ : List fm_D) (S : Nat → Int32) (N : Nat → Nat) (C : Nat → List Nat) (Q : Nat → Nat) (j1 j2 : Nat) (as : List Value) : Prop := ∀ μ, QI μ τ S N C Q → ∃ (v : Int32) (μ1 μ2 : fm_M), ix_call X d j1 (.ref 0 :: as) (fm_W μ τ) = some (some (.int v), fm_W μ1 τ) ∧ ix_call X d j2 (.ref 67 :: as) (fm_W μ1 τ) = some (some (.int v), fm_W μ2 τ) ∧ QI μ2 τ S N C Q
section AG
variable {X : ix_X} {d : Nat} {τ : List fm_D} {S : Nat → Int32} {N : Nat → Nat} {C : Nat → List Nat} {Q : Nat → Nat}
theorem agr_straight {a b : Int32} : agr X (d + 5) τ S N C Q 87 172 [.int a, .int b] := by
  intro μ h
  obtain ⟨b0, b1, b2, b3, b4, b5, b6, b8, b9, b10⟩ := QI_b h
  have hO : rwO 7 := rfl
  have e68 := QI_68 h
  by_cases ha : inS a (N 1)
  · by_cases hb : nI 0 ≤ b ∧ b ≤ nI 2
    · obtain ⟨i, hi, rfl⟩ := ha
      obtain ⟨w, _, hw, rfl⟩ := in_nat hb (by decide) (by decide)
      obtain ⟨pace, p1, p2, hp⟩ := QI_pace h hi
      obtain ⟨μ1, a1, q1⟩ := cl_straight (X := X) (d := d + 1) h hi hp p1 p2 hw
      obtain ⟨μ2, a2, q2⟩ := mo_straight (X := X) (d := d) q1 hi hp p1 p2 hw
      exact ⟨_, μ1, μ2, a1, a2, q2⟩
    · obtain ⟨i, hi, rfl⟩ := ha
      have hh := cl_has (X := X) (d := d + 4) (τ := τ) (μ := μ) wa_A (QI_wa h).2.2.1 (by omega) hi
      have hm := mo_isWalker (X := X) (d := d + 3) (τ := τ) (μ := μ) (n := N 1) (by rw [e68]; exact QI_S h (by decide) (by decide)) (by omega) (inS_p hi)
      refine ⟨-1, μ, μ, ?_, ?_, h⟩
      · simp (disch := first | assumption | omega | decide) only [e87, i87_0, i87_1, i87_4, i87_5, i87_8, i87_11, i87_12, i87_13, i87_14, i87_17, i87_20, i87_21, i87_22, i87_23, i87_24, i87_27, i87_28, i87_31, i87_32, i87_35, i87_36, i87_37, i87_40, i87_43, i87_44, i87_45, i87_48, i87_49, i87_50, i87_53, ix_pv_s, ix_pi_s, zpn, ix_po_s, ix_po_n, ix_ph_s, ix_bk_v, ix_bk_n, zcv, zcv_ne, ↓reduceIte, Nat.reduceEqDiff, zn_m1, zd_lt_p, zd_lt_n, zd_le_p, zd_le_n, zd_eq_p, zd_eq_n, zd_0_p, zd_0_n, zd_0lt_p, zd_0lt_n, zd_le0_p, zd_le0_n, zn_lt0, zn_le0, zn_add, zn_mul, zn_sub, zm_lt, zm_le, zm_eq, zb_1, zb_0, not_true_eq_false, not_false_eq_true, t0_c, t0_g0, t0_g1, t0_g2, t0_g3, t0_g4, t0_g5, t0_g6, t0_g7, t0_g8, t0_g9, t0_g10, t0_s11, t0_g12, t0_s12, t0_g13, t0_g14, t0_g15, t0_g16, t0_c, rw_c, hh, cl_within, hb]
      · simp (disch := first | assumption | omega | decide) only [e172, i172_0, i172_1, i172_2, i172_5, i172_8, i172_9, i172_10, i172_11, i172_14, i172_17, i172_18, i172_19, i172_20, i172_21, i172_24, i172_26, i172_27, i172_28, i172_29, i172_30, i172_33, i172_34, i172_35, i172_36, i172_39, ix_pv_s, ix_pi_s, zpn, ix_po_s, ix_po_n, ix_ph_s, ix_bk_v, ix_bk_n, zcv, zcv_ne, ↓reduceIte, Nat.reduceEqDiff, zn_m1, zd_lt_p, zd_lt_n, zd_le_p, zd_le_n, zd_eq_p, zd_eq_n, zd_0_p, zd_0_n, zd_0lt_p, zd_0lt_n, zd_le0_p, zd_le0_n, zn_lt0, zn_le0, zn_add, zn_mul, zn_sub, zm_lt, zm_le, zm_eq, zb_1, zb_0, not_true_eq_false, not_false_eq_true, mo_c, mo_g0, mo_s0, mo_g1, mo_g2, mo_g3, mo_s3, mo_g4, mo_s4, mo_g5, mo_s5, mo_g6, mo_s6, mo_g7, mo_s7, mo_g8, mo_s8, mo_g9, mo_g10, mo_g11, mo_g12, mo_g13, mo_s13, mo_g14, mo_s14, mo_g15, mo_s15, mo_g16, mo_g17, mo_s17, mo_g18, mo_s18, mo_g19, mo_g20, mo_s20, mo_g21, mo_s21, mo_g22, mo_s22, mo_g23, mo_s23, hm, mo_in, hb]
  · have hh := cl_hasN (X := X) (d := d + 4) (τ := τ) (μ := μ) wa_A (QI_wa h).2.2.1 (by omega) ha
    have hm := mo_isWalkerN (X := X) (d := d + 3) (τ := τ) (μ := μ) (n := N 1) (by rw [e68]; exact QI_S h (by decide) (by decide)) (by omega) ha
    refine ⟨-1, μ, μ, ?_, ?_, h⟩
    · simp (disch := first | assumption | omega | decide) only [e87, i87_0, i87_1, i87_4, i87_5, i87_8, i87_11, i87_12, i87_13, i87_14, i87_17, i87_20, i87_21, i87_22, i87_23, i87_24, i87_27, i87_28, i87_31, i87_32, i87_35, i87_36, i87_37, i87_40, i87_43, i87_44, i87_45, i87_48, i87_49, i87_50, i87_53, ix_pv_s, ix_pi_s, zpn, ix_po_s, ix_po_n, ix_ph_s, ix_bk_v, ix_bk_n, zcv, zcv_ne, ↓reduceIte, Nat.reduceEqDiff, zn_m1, zd_lt_p, zd_lt_n, zd_le_p, zd_le_n, zd_eq_p, zd_eq_n, zd_0_p, zd_0_n, zd_0lt_p, zd_0lt_n, zd_le0_p, zd_le0_n, zn_lt0, zn_le0, zn_add, zn_mul, zn_sub, zm_lt, zm_le, zm_eq, zb_1, zb_0, not_true_eq_false, not_false_eq_true, t0_c, t0_g0, t0_g1, t0_g2, t0_g3, t0_g4, t0_g5, t0_g6, t0_g7, t0_g8, t0_g9, t0_g10, t0_s11, t0_g12, t0_s12, t0_g13, t0_g14, t0_g15, t0_g16, t0_c, rw_c, hh]
    · simp (disch := first | assumption | omega | decide) only [e172, i172_0, i172_1, i172_2, i172_5, i172_8, i172_9, i172_10, i172_11, i172_14, i172_17, i172_18, i172_19, i172_20, i172_21, i172_24, i172_26, i172_27, i172_28, i172_29, i172_30, i172_33, i172_34, i172_35, i172_36, i172_39, ix_pv_s, ix_pi_s, zpn, ix_po_s, ix_po_n, ix_ph_s, ix_bk_v, ix_bk_n, zcv, zcv_ne, ↓reduceIte, Nat.reduceEqDiff, zn_m1, zd_lt_p, zd_lt_n, zd_le_p, zd_le_n, zd_eq_p, zd_eq_n, zd_0_p, zd_0_n, zd_0lt_p, zd_0lt_n, zd_le0_p, zd_le0_n, zn_lt0, zn_le0, zn_add, zn_mul, zn_sub, zm_lt, zm_le, zm_eq, zb_1, zb_0, not_true_eq_false, not_false_eq_true, mo_c, mo_g0, mo_s0, mo_g1, mo_g2, mo_g3, mo_s3, mo_g4, mo_s4, mo_g5, mo_s5, mo_g6, mo_s6, mo_g7, mo_s7, mo_g8, mo_s8, mo_g9, mo_g10, mo_g11, mo_g12, mo_g13, mo_s13, mo_g14, mo_s14, mo_g15, mo_s15, mo_g16, mo_g17, mo_s17, mo_g18, mo_s18, mo_g19, mo_g20, mo_s20, mo_g21, mo_s21, mo_g22, mo_s22, mo_g23, mo_s23, hm]
end AG
