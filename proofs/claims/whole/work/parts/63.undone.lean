/-! ===== undo ===== -/
--need 62.undo
section UN2
variable {X : ix_X} {d : Nat} {τ : List fm_D} {μ μ' : fm_M} {S I : Nat → Int32} {N : Nat → Nat} {C : Nat → List Nat} {Q : Nat → Nat}
theorem agm_undo : agm X (d + 6) τ S N C Q 130 222 [] := by
  intro μ h
  have hb := QI_b h
  have e68 := QI_68 h
  have hO1 : rwO 1 := rfl
  have hO4 : rwO 4 := rfl
  have hO7 : rwO 7 := rfl
  have hO10 : rwO 10 := rfl
  have hO13 : rwO 13 := rfl
  have hO16 : rwO 16 := rfl
  rcases id h.2.1.2.2.2.2 with ⟨d1, d2⟩ | ⟨d1, d2, I, M, k0, kM0, kM2, k69, ⟨t1, t2⟩, ⟨t3, t4⟩, ⟨t5, t6⟩, ⟨t7, t8⟩, ⟨t9, t10⟩, ⟨t11, t12⟩, ktr, kpk⟩
  · refine ⟨-3, μ, μ, S, N, C, Q, ?_, ?_, h⟩
    · simp (disch := first | assumption | omega | decide) only [e130, i130_0, i130_1, i130_4, i130_7, i130_9, i130_10, i130_11, i130_12, i130_15, i130_16, i130_17, i130_20, i130_23, i130_24, i130_27, i130_30, i130_31, i130_34, i130_37, i130_38, i130_41, i130_44, i130_45, i130_48, i130_51, i130_52, i130_55, i130_58, i130_59, i130_60, i130_61, i130_62, i130_63, i130_66, i130_69, i130_70, i130_71, i130_74, i130_74n, i130_75, i130_75n, i130_76n, i130_76, i130_79, i130_79n, i130_80, i130_83, i130_86, i130_89, i130_90, i130_91, i130_94, i130_95, i130_98, i130_99, i130_102, i130_103, i130_104, i130_107, ix_pv_s, ix_pi_s, zpn, ix_po_s, ix_po_n, ix_ph_s, ix_bk_v, ix_bk_n, zcv, zcv_ne, ↓reduceIte, Nat.reduceEqDiff, zn_m1, zd_lt_p, zd_lt_n, zd_le_p, zd_le_n, zd_eq_p, zd_eq_n, zd_0_p, zd_0_n, zd_0lt_p, zd_0lt_n, zd_le0_p, zd_le0_n, zn_lt0, zn_le0, zn_add, zn_mul, zn_sub, zm_lt, zm_le, zm_eq, zb_1, zb_0, not_true_eq_false, not_false_eq_true, t0_c, t0_g0, t0_g1, t0_g2, t0_g3, t0_g4, t0_g5, t0_g6, t0_g7, t0_g8, t0_g9, t0_g10, t0_s11, t0_g12, t0_s12, t0_g13, t0_g14, t0_g15, t0_g16, t0_c, rw_c, d1]
    · simp (disch := first | assumption | omega | decide) only [e222, i222_0, i222_1, i222_4, i222_7, i222_9, i222_10, i222_11, i222_12, i222_13, i222_16, i222_19, i222_20, i222_23, i222_24, i222_25, i222_28, i222_29, i222_30, i222_31, i222_34, i222_37, i222_38, i222_41, i222_42, i222_45, i222_46, i222_47, ix_pv_s, ix_pi_s, zpn, ix_po_s, ix_po_n, ix_ph_s, ix_bk_v, ix_bk_n, zcv, zcv_ne, ↓reduceIte, Nat.reduceEqDiff, zn_m1, zd_lt_p, zd_lt_n, zd_le_p, zd_le_n, zd_eq_p, zd_eq_n, zd_0_p, zd_0_n, zd_0lt_p, zd_0lt_n, zd_le0_p, zd_le0_n, zn_lt0, zn_le0, zn_add, zn_mul, zn_sub, zm_lt, zm_le, zm_eq, zb_1, zb_0, not_true_eq_false, not_false_eq_true, mo_c, mo_g0, mo_s0, mo_g1, mo_g2, mo_g3, mo_s3, mo_g4, mo_s4, mo_g5, mo_s5, mo_g6, mo_s6, mo_g7, mo_s7, mo_g8, mo_s8, mo_g9, mo_g10, mo_g11, mo_g12, mo_g13, mo_s13, mo_g14, mo_s14, mo_g15, mo_s15, mo_g16, mo_g17, mo_s17, mo_g18, mo_s18, mo_g19, mo_g20, mo_s20, mo_g21, mo_s21, mo_g22, mo_s22, mo_g23, mo_s23, ra_25, wa_25, al_25, ra_68, wa_68, al_68, ra_69, wa_69, al_69, ra_70, wa_70, al_70, ra_71, wa_71, al_71, ra_72, wa_72, al_72, ra_73, wa_73, al_73, ra_74, wa_74, al_74, ra_75, wa_75, al_75, d2]
  obtain ⟨i1, i2, i3, i4, i5, i6, i7, i8, i9, i10⟩ := id k0
  obtain ⟨b0, b1, b2, b3, b4, b5, b6, b8, b9, b10⟩ := id i2
  have eI : ∀ k, k < 11 → k ≠ 7 → I k = nI (M k) := i1
  have kb := cl_number (X := X) (d := d + 4) (τ := τ) (k := 3) (QI_nb h) (by decide)
  have m23 : μ 2 3 = nI (N 2) := h.2.1.1.1.2.2.2.2.1.trans (QI_S h (by decide) (by decide))
  rw [m23] at kb
  obtain ⟨μ1, a1, k1⟩ := cl_back (X := X) (d := d + 5) (τ := τ) (μ := μ) (r := 1) (n := 5) ⟨rfl, rfl, rfl⟩ (by decide)
  obtain ⟨μ2, a2, k2⟩ := cl_back (X := X) (d := d + 5) (τ := τ) (μ := μ1) (r := 4) (n := 100) ⟨rfl, rfl, rfl⟩ (by decide)
  obtain ⟨μ3, a3, k3⟩ := cl_back (X := X) (d := d + 5) (τ := τ) (μ := μ2) (r := 7) (n := 10) ⟨rfl, rfl, rfl⟩ (by decide)
  obtain ⟨μ4, a4, k4⟩ := cl_back (X := X) (d := d + 5) (τ := τ) (μ := μ3) (r := 10) (n := 8) ⟨rfl, rfl, rfl⟩ (by decide)
  obtain ⟨μ5, a5, k5⟩ := cl_back (X := X) (d := d + 5) (τ := τ) (μ := μ4) (r := 13) (n := 8) ⟨rfl, rfl, rfl⟩ (by decide)
  obtain ⟨μ6, a6, k6⟩ := cl_back (X := X) (d := d + 5) (τ := τ) (μ := μ5) (r := 16) (n := 24) ⟨rfl, rfl, rfl⟩ (by decide)
  have all6 : ∀ q, q ≠ 1 → q ≠ 2 → q ≠ 4 → q ≠ 5 → q ≠ 7 → q ≠ 8 → q ≠ 10 → q ≠ 11 → q ≠ 13 → q ≠ 14 → q ≠ 16 → q ≠ 17 → μ6 q = μ q := fun q c1 c3 c4 c6 c7 c9 c10 c12 c13 c15 c16 c18 => by rw [k6.1 q c16 c18, k5.1 q c13 c15, k4.1 q c10 c12, k3.1 q c7 c9, k2.1 q c4 c6, k1.1 q c1 c3]
  have hi6 : ∀ q, 18 ≤ q → μ6 q = μ q := fun q hq => all6 q (by omega) (by omega) (by omega) (by omega) (by omega) (by omega) (by omega) (by omega) (by omega) (by omega) (by omega) (by omega)
  have g1 : μ6 1 = μ1 1 := by rw [k6.1 1 (by decide) (by decide), k5.1 1 (by decide) (by decide), k4.1 1 (by decide) (by decide), k3.1 1 (by decide) (by decide), k2.1 1 (by decide) (by decide)]
  have g2 : μ6 2 = μ1 2 := by rw [k6.1 2 (by decide) (by decide), k5.1 2 (by decide) (by decide), k4.1 2 (by decide) (by decide), k3.1 2 (by decide) (by decide), k2.1 2 (by decide) (by decide)]
  have g4 : μ6 4 = μ2 4 := by rw [k6.1 4 (by decide) (by decide), k5.1 4 (by decide) (by decide), k4.1 4 (by decide) (by decide), k3.1 4 (by decide) (by decide)]
  have g5 : μ6 5 = μ2 5 := by rw [k6.1 5 (by decide) (by decide), k5.1 5 (by decide) (by decide), k4.1 5 (by decide) (by decide), k3.1 5 (by decide) (by decide)]
  have g7 : μ6 7 = μ3 7 := by rw [k6.1 7 (by decide) (by decide), k5.1 7 (by decide) (by decide), k4.1 7 (by decide) (by decide)]
  have g8 : μ6 8 = μ3 8 := by rw [k6.1 8 (by decide) (by decide), k5.1 8 (by decide) (by decide), k4.1 8 (by decide) (by decide)]
  have g10 : μ6 10 = μ4 10 := by rw [k6.1 10 (by decide) (by decide), k5.1 10 (by decide) (by decide)]
  have g11 : μ6 11 = μ4 11 := by rw [k6.1 11 (by decide) (by decide), k5.1 11 (by decide) (by decide)]
  have g13 : μ6 13 = μ5 13 := by rw [k6.1 13 (by decide) (by decide)]
  have g14 : μ6 14 = μ5 14 := by rw [k6.1 14 (by decide) (by decide)]
  have l4 : μ1 4 = μ 4 := k1.1 4 (by decide) (by decide)
  have l6 : μ1 6 = μ 6 := k1.1 6 (by decide) (by decide)
  have l7 : μ2 7 = μ 7 := by rw [k2.1 7 (by decide) (by decide), k1.1 7 (by decide) (by decide)]
  have l9 : μ2 9 = μ 9 := by rw [k2.1 9 (by decide) (by decide), k1.1 9 (by decide) (by decide)]
  have l10 : μ3 10 = μ 10 := by rw [k3.1 10 (by decide) (by decide), k2.1 10 (by decide) (by decide), k1.1 10 (by decide) (by decide)]
  have l12 : μ3 12 = μ 12 := by rw [k3.1 12 (by decide) (by decide), k2.1 12 (by decide) (by decide), k1.1 12 (by decide) (by decide)]
  have l13 : μ4 13 = μ 13 := by rw [k4.1 13 (by decide) (by decide), k3.1 13 (by decide) (by decide), k2.1 13 (by decide) (by decide), k1.1 13 (by decide) (by decide)]
  have l15 : μ4 15 = μ 15 := by rw [k4.1 15 (by decide) (by decide), k3.1 15 (by decide) (by decide), k2.1 15 (by decide) (by decide), k1.1 15 (by decide) (by decide)]
  have l16 : μ5 16 = μ 16 := by rw [k5.1 16 (by decide) (by decide), k4.1 16 (by decide) (by decide), k3.1 16 (by decide) (by decide), k2.1 16 (by decide) (by decide), k1.1 16 (by decide) (by decide)]
  have l18 : μ5 18 = μ 18 := by rw [k5.1 18 (by decide) (by decide), k4.1 18 (by decide) (by decide), k3.1 18 (by decide) (by decide), k2.1 18 (by decide) (by decide), k1.1 18 (by decide) (by decide)]
  have v3 : ∀ j, j < 5 → μ6 2 j = μ 3 j := fun j hj => by rw [g2]; exact k1.2.2.2 j hj
  have nb6 : nbS μ6 := by
    unfold nbS
    rw [g1, k1.2.1 1 (by decide), k1.2.2.1]
    exact ⟨(QI_nb h).1, t1⟩
  have n64 : μ6 2 4 = nI (M 0) := by rw [v3 4 (by decide), t2.2.2.2.2]; exact eI 0 (by decide) (by decide)
  have n63 : μ6 2 3 = nI (M 2) := by rw [v3 3 (by decide), t2.2.2.2.1]; exact eI 2 (by decide) (by decide)
  obtain ⟨y2, y3, μ7, a7, kt⟩ := cl_bkL (X := X) (d := d) (β := μ6) (m := M 0) (x1 := some (.int (nI (N 2)))) h kM0 nb6 n64 (hi6 22 (by decide)) (M 0) 0 μ6 none ⟨fun _ _ => rfl, fun _ _ => ⟨rfl, fun _ => rfl⟩, fun t ht => absurd ht (by omega)⟩ (by omega)
  have nb7 : nbS μ7 := by unfold nbS; rw [kt.1 1 (by decide)]; exact nb6
  have n73 : μ7 2 3 = nI (M 2) := by rw [kt.1 2 (by decide)]; exact n63
  have n74 : μ7 2 4 = nI (M 0) := by rw [kt.1 2 (by decide)]; exact n64
  have kn3 := cl_number (X := X) (d := d + 4) (τ := τ) (μ := μ7) (k := 3) nb7 (by decide)
  rw [n73] at kn3
  obtain ⟨j1, j2, j3, ⟨s1, s2, s3, s4, s5, s6⟩, j5⟩ := id h.2.1
  have lo7 : ∀ q, 18 ≤ q → q < 76 → μ7 q = μ q := fun q h1 h2 => by rw [kt.1 q h2, hi6 q h1]
  have z07 : μ7 0 = μ 0 := by rw [kt.1 0 (by decide), all6 0 (by decide) (by decide) (by decide) (by decide) (by decide) (by decide) (by decide) (by decide) (by decide) (by decide) (by decide) (by decide)]
  -- following the park that holds now
  have fol : ∃ μ8 : fm_M, ix_sem X (d + 6) 130 89 [some (.ref 0), some (.int (nI (N 2))), y2, y3] [] (fm_W μ7 τ) = some (some (.int (nI (M 0))), fm_W μ8 τ) ∧ (∀ r, r ≠ 0 → (∀ j, j < 7 → r ≠ 50 + 2 * j) → μ8 r = μ7 r) ∧ μ8 0 11 = nI (26 + 4 * M 2) ∧ (∀ k, k ≠ 11 → μ8 0 k = μ7 0 k) ∧ (∀ j k, j < 7 → k ≠ 1 → k ≠ 2 → μ8 (50 + 2 * j) k = μ7 (50 + 2 * j) k) ∧ (∀ j, 1 ≤ j → j < 7 → μ8 (50 + 2 * j) 2 = nI (26 + 4 * M 2)) ∧ ((M 2 = N 2 ∧ μ8 = μ7) ∨ ∀ j, j < 7 → μ8 (50 + 2 * j) 2 = nI (26 + 4 * M 2) ∧ μ8 (50 + 2 * j) 1 = nI 0) := by
    by_cases hm : M 2 = N 2
    · have kn4 := cl_number (X := X) (d := d + 4) (τ := τ) (μ := μ7) (k := 4) nb7 (by decide)
      rw [n74] at kn4
      refine ⟨μ7, ?_, fun _ _ _ => rfl, by rw [z07, s2, hm], fun _ _ => rfl, fun _ _ _ _ _ => rfl, fun j j1 j2 => ?_, Or.inl ⟨hm, rfl⟩⟩
      · simp (disch := first | assumption | omega | decide) only [i130_0, i130_1, i130_4, i130_7, i130_9, i130_10, i130_11, i130_12, i130_15, i130_16, i130_17, i130_20, i130_23, i130_24, i130_27, i130_30, i130_31, i130_34, i130_37, i130_38, i130_41, i130_44, i130_45, i130_48, i130_51, i130_52, i130_55, i130_58, i130_59, i130_60, i130_61, i130_62, i130_63, i130_66, i130_69, i130_70, i130_71, i130_74, i130_74n, i130_75, i130_75n, i130_76n, i130_76, i130_79, i130_79n, i130_80, i130_83, i130_86, i130_89, i130_90, i130_91, i130_94, i130_95, i130_98, i130_99, i130_102, i130_103, i130_104, i130_107, ix_pv_s, ix_pi_s, zpn, ix_po_s, ix_po_n, ix_ph_s, ix_bk_v, ix_bk_n, zcv, zcv_ne, ↓reduceIte, Nat.reduceEqDiff, zn_m1, zd_lt_p, zd_lt_n, zd_le_p, zd_le_n, zd_eq_p, zd_eq_n, zd_0_p, zd_0_n, zd_0lt_p, zd_0lt_n, zd_le0_p, zd_le0_n, zn_lt0, zn_le0, zn_add, zn_mul, zn_sub, zm_lt, zm_le, zm_eq, zb_1, zb_0, not_true_eq_false, not_false_eq_true, t0_c, t0_g0, t0_g1, t0_g2, t0_g3, t0_g4, t0_g5, t0_g6, t0_g7, t0_g8, t0_g9, t0_g10, t0_s11, t0_g12, t0_s12, t0_g13, t0_g14, t0_g15, t0_g16, t0_c, rw_c, kn3, hm, kn4]
      · obtain ⟨j', rfl⟩ : ∃ j', j = j' + 1 := ⟨j - 1, by omega⟩
        rw [show 50 + 2 * (j' + 1) = 52 + 2 * j' by omega, lo7 _ (by omega) (by omega), hm]
        exact (s1 j' (by omega)).2.2.1
    · obtain ⟨μ8, a8, f1, f2, f3, f4⟩ := cl_newest (X := X) (d := d + 2) (τ := τ) (μ := μ7) (m := M 2) b2 nb7 n73 (fun i hi => by rw [lo7 24 (by decide) (by decide)]; exact (s1 i hi).2.1) (fun i hi => by rw [lo7 23 (by decide) (by decide)]; exact (s1 i hi).1)
      have nb8 : nbS μ8 := by unfold nbS; rw [f1 1 (by decide) (fun j hj => by omega)]; exact nb7
      have kn4 := cl_number (X := X) (d := d + 4) (τ := τ) (μ := μ8) (k := 4) nb8 (by decide)
      rw [f1 2 (by decide) (fun j hj => by omega), n74] at kn4
      refine ⟨μ8, ?_, f1, f2, f3, fun j k hj k1 k2 => (f4 j hj).2.2 k k1 k2, fun j _ hj => (f4 j hj).1, Or.inr (fun j hj => ⟨(f4 j hj).1, (f4 j hj).2.1⟩)⟩
      simp (disch := first | assumption | omega | decide) only [i130_0, i130_1, i130_4, i130_7, i130_9, i130_10, i130_11, i130_12, i130_15, i130_16, i130_17, i130_20, i130_23, i130_24, i130_27, i130_30, i130_31, i130_34, i130_37, i130_38, i130_41, i130_44, i130_45, i130_48, i130_51, i130_52, i130_55, i130_58, i130_59, i130_60, i130_61, i130_62, i130_63, i130_66, i130_69, i130_70, i130_71, i130_74, i130_74n, i130_75, i130_75n, i130_76n, i130_76, i130_79, i130_79n, i130_80, i130_83, i130_86, i130_89, i130_90, i130_91, i130_94, i130_95, i130_98, i130_99, i130_102, i130_103, i130_104, i130_107, ix_pv_s, ix_pi_s, zpn, ix_po_s, ix_po_n, ix_ph_s, ix_bk_v, ix_bk_n, zcv, zcv_ne, ↓reduceIte, Nat.reduceEqDiff, zn_m1, zd_lt_p, zd_lt_n, zd_le_p, zd_le_n, zd_eq_p, zd_eq_n, zd_0_p, zd_0_n, zd_0lt_p, zd_0lt_n, zd_le0_p, zd_le0_n, zn_lt0, zn_le0, zn_add, zn_mul, zn_sub, zm_lt, zm_le, zm_eq, zb_1, zb_0, not_true_eq_false, not_false_eq_true, t0_c, t0_g0, t0_g1, t0_g2, t0_g3, t0_g4, t0_g5, t0_g6, t0_g7, t0_g8, t0_g9, t0_g10, t0_s11, t0_g12, t0_s12, t0_g13, t0_g14, t0_g15, t0_g16, t0_c, rw_c, kn3, hm, a8, kn4]
  obtain ⟨μ8, a8, f1, f2, f3, f4, f5, f6⟩ := fol
  -- the model
  have l67 : μ8 67 = μ 67 := by rw [f1 67 (by decide) (fun j hj => by omega), lo7 67 (by decide) (by decide)]
  have l68 : μ8 68 = S := by rw [f1 68 (by decide) (fun j hj => by omega), lo7 68 (by decide) (by decide), e68]
  have l69 : μ8 69 = I := by rw [f1 69 (by decide) (fun j hj => by omega), lo7 69 (by decide) (by decide), k69]
  obtain ⟨μ9, a9, h9, _, v9⟩ := mo_udL (X := X) (d := d + 5) (τ := τ) 924 0 μ8 rfl
  obtain ⟨μ10, a10, h10, w10⟩ := mo_forgets (X := X) (d := d + 5) (τ := τ) (μ := μ9)
  obtain ⟨S', hS'⟩ : ∃ S', S' = μ10 68 := ⟨_, rfl⟩
  have vS : ∀ j, j < 924 → S' j = I j := fun j hj => by rw [hS', h10 68 (by decide), v9 j (by omega) hj, l69]
  have sI' : sI S' M C := sI_ext k0 vS
  have row : ∀ r, r ≠ 68 → r ≠ 73 → r ≠ 0 → (∀ j, j < 7 → r ≠ 50 + 2 * j) → μ10 r = μ7 r := fun r c1 c2 c3 c4 => by rw [h10 r c2, h9 r c1, f1 r c3 c4]
  have low : ∀ r, r < 50 → r ≠ 0 → μ10 r = μ6 r := fun r hr h0 => by rw [row r (by omega) (by omega) h0 (fun j hj => by omega), kt.1 r (by omega)]
  have mid : ∀ r, 18 ≤ r → r < 50 → μ10 r = μ r := fun r h1 h2 => by rw [low r h2 (by omega), hi6 r h1]
  have odd : ∀ j, j < 7 → μ10 (51 + 2 * j) = μ (51 + 2 * j) := fun j hj => by rw [row _ (by omega) (by omega) (by omega) (fun j hj => by omega), lo7 _ (by omega) (by omega)]
  have spt : ∀ j, j < 7 → μ10 (50 + 2 * j) = μ8 (50 + 2 * j) := fun j hj => by rw [h10 _ (by omega), h9 _ (by omega)]
  have big : ∀ r, 76 ≤ r → μ10 r = μ7 r := fun r hr => row r (by omega) (by omega) (by omega) (fun j hj => by omega)
  have z0 : ∀ k, k ≠ 11 → μ10 0 k = μ 0 k := fun k hk => by rw [h10 0 (by decide), h9 0 (by decide), f3 k hk, z07]
  have z11 : μ10 0 11 = nI (26 + 4 * M 2) := by rw [h10 0 (by decide), h9 0 (by decide), f2]
  have z67 : μ10 67 = μ 67 := by rw [h10 67 (by decide), h9 67 (by decide), l67]
  have z69 : μ10 69 = I := by rw [h10 69 (by decide), h9 69 (by decide), l69]
  have L1 : ∀ k, k ≠ 4 → μ10 1 k = μ 1 k := fun k hk => by rw [low 1 (by decide) (by decide), g1, k1.2.1 k hk]
  have L4 : ∀ k, k ≠ 4 → μ10 4 k = μ 4 k := fun k hk => by rw [low 4 (by decide) (by decide), g4, k2.2.1 k hk, l4]
  have L7 : ∀ k, k ≠ 4 → μ10 7 k = μ 7 k := fun k hk => by rw [low 7 (by decide) (by decide), g7, k3.2.1 k hk, l7]
  have L10 : ∀ k, k ≠ 4 → μ10 10 k = μ 10 k := fun k hk => by rw [low 10 (by decide) (by decide), g10, k4.2.1 k hk, l10]
  have L13 : ∀ k, k ≠ 4 → μ10 13 k = μ 13 k := fun k hk => by rw [low 13 (by decide) (by decide), g13, k5.2.1 k hk, l13]
  have L16 : ∀ k, k ≠ 4 → μ10 16 k = μ 16 k := fun k hk => by rw [low 16 (by decide) (by decide), k6.2.1 k hk, l16]
  have kp3 : ∀ r, (r = 3 ∨ r = 6 ∨ r = 9 ∨ r = 12 ∨ r = 15 ∨ r = 18) → μ10 r = μ r := fun r hr => by rw [low r (by omega) (by omega), all6 r (by omega) (by omega) (by omega) (by omega) (by omega) (by omega) (by omega) (by omega) (by omega) (by omega) (by omega) (by omega)]
  obtain ⟨⟨⟨o1, o2, o3⟩, _⟩, ⟨⟨o4, o5, o6⟩, _⟩, ⟨⟨o7, o8, o9⟩, _⟩, ⟨⟨o10, o11, o12⟩, _⟩, ⟨⟨o13, o14, o15⟩, _⟩, ⟨⟨o16, o17, o18⟩, _⟩⟩ := id j1
  have numS : ∀ u, u < M 0 → S' (11 + u) = S (11 + u) ∧ S' (17 + u) = S (17 + u) ∧ S' (29 + u) = S (29 + u) := fun u hu => by
    obtain ⟨y1, y2, y3, _, _⟩ := ktr u hu
    exact ⟨(vS _ (by omega)).trans y1, (vS _ (by omega)).trans y2, (vS _ (by omega)).trans y3⟩
  have hpc : pr_cs μ10 (26 + 4 * M 2) (csN M C) := by
    unfold csN
    rcases Nat.eq_zero_or_pos (M 2) with h0 | h0
    · rw [if_pos h0, h0]
      exact pr_cs_of s3 (mid 26 (by decide) (by decide)) (mid 27 (by decide) (by decide))
    · rw [if_neg (by omega)]
      obtain ⟨y1, _, _⟩ := s6 (M 2 - 1) (by omega)
      rw [show 30 + 4 * (M 2 - 1) = 26 + 4 * M 2 by omega] at y1
      exact pr_cs_of y1 (mid _ (by omega) (by omega)) (mid _ (by omega) (by omega))
  obtain ⟨ck1, ck2, ck3⟩ := id h.2.2.1
  refine ⟨nI (M 0), μ8, μ10, S', M, C, Q, ?_, ?_, sI', ⟨⟨?_, ?_, ?_, ?_, ?_, ?_⟩, ?_, ?_, ?_, ?_⟩, ?_, ?_⟩
  · refine Eq.trans ?_ a8
    refine Eq.trans ?_ a7
    simp (disch := first | assumption | omega | decide) only [e130, i130_0, i130_1, i130_4, i130_7, i130_9, i130_10, i130_11, i130_12, i130_15, i130_16, i130_17, i130_20, i130_23, i130_24, i130_27, i130_30, i130_31, i130_34, i130_37, i130_38, i130_41, i130_44, i130_45, i130_48, i130_51, i130_52, i130_55, i130_58, i130_59, i130_61, i130_62, i130_63, i130_66, i130_69, i130_70, i130_71, i130_74, i130_74n, i130_75, i130_75n, i130_76n, i130_76, i130_79, i130_79n, i130_80, i130_83, i130_86, i130_89, i130_90, i130_91, i130_94, i130_95, i130_98, i130_99, i130_102, i130_103, i130_104, i130_107, ix_pv_s, ix_pi_s, zpn, ix_po_s, ix_po_n, ix_ph_s, ix_bk_v, ix_bk_n, zcv, zcv_ne, ↓reduceIte, Nat.reduceEqDiff, zn_m1, zd_lt_p, zd_lt_n, zd_le_p, zd_le_n, zd_eq_p, zd_eq_n, zd_0_p, zd_0_n, zd_0lt_p, zd_0lt_n, zd_le0_p, zd_le0_n, zn_lt0, zn_le0, zn_add, zn_mul, zn_sub, zm_lt, zm_le, zm_eq, zb_1, zb_0, not_true_eq_false, not_false_eq_true, t0_c, t0_g0, t0_g1, t0_g2, t0_g3, t0_g4, t0_g5, t0_g6, t0_g7, t0_g8, t0_g9, t0_g10, t0_s11, t0_g12, t0_s12, t0_g13, t0_g14, t0_g15, t0_g16, t0_c, rw_c, d1, kb, a1, a2, a3, a4, a5, a6]
  · refine Eq.trans ?_ (b := ix_sem X (d + 6) 222 37 [some (.ref 67), some (.int (nI 924))] [] (fm_W μ9 τ)) ?_
    · refine Eq.trans ?_ a9
      have d2' : μ8 67 3 = nI 1 := by rw [l67]; exact d2
      simp (disch := first | assumption | omega | decide) only [e222, i222_0, i222_1, i222_4, i222_7, i222_9, i222_10, i222_11, i222_13, i222_16, i222_19, i222_20, i222_23, i222_24, i222_25, i222_28, i222_29, i222_30, i222_31, i222_34, i222_37, i222_38, i222_41, i222_42, i222_45, i222_46, i222_47, ix_pv_s, ix_pi_s, zpn, ix_po_s, ix_po_n, ix_ph_s, ix_bk_v, ix_bk_n, zcv, zcv_ne, ↓reduceIte, Nat.reduceEqDiff, zn_m1, zd_lt_p, zd_lt_n, zd_le_p, zd_le_n, zd_eq_p, zd_eq_n, zd_0_p, zd_0_n, zd_0lt_p, zd_0lt_n, zd_le0_p, zd_le0_n, zn_lt0, zn_le0, zn_add, zn_mul, zn_sub, zm_lt, zm_le, zm_eq, zb_1, zb_0, not_true_eq_false, not_false_eq_true, mo_c, mo_g0, mo_s0, mo_g1, mo_g2, mo_g3, mo_s3, mo_g4, mo_s4, mo_g5, mo_s5, mo_g6, mo_s6, mo_g7, mo_s7, mo_g8, mo_s8, mo_g9, mo_g10, mo_g11, mo_g12, mo_g13, mo_s13, mo_g14, mo_s14, mo_g15, mo_s15, mo_g16, mo_g17, mo_s17, mo_g18, mo_s18, mo_g19, mo_g20, mo_s20, mo_g21, mo_s21, mo_g22, mo_s22, mo_g23, mo_s23, ra_25, wa_25, al_25, ra_68, wa_68, al_68, ra_69, wa_69, al_69, ra_70, wa_70, al_70, ra_71, wa_71, al_71, ra_72, wa_72, al_72, ra_73, wa_73, al_73, ra_74, wa_74, al_74, ra_75, wa_75, al_75, d2']
    · have v0 : μ10 68 0 = nI (M 0) := by rw [h10 68 (by decide), v9 0 (by decide) (by decide), l69]; exact eI 0 (by decide) (by decide)
      simp (disch := first | assumption | omega | decide) only [i222_0, i222_1, i222_4, i222_7, i222_9, i222_10, i222_11, i222_12, i222_13, i222_16, i222_19, i222_20, i222_23, i222_24, i222_25, i222_28, i222_29, i222_30, i222_31, i222_34, i222_37, i222_38, i222_41, i222_42, i222_45, i222_46, i222_47, ix_pv_s, ix_pi_s, zpn, ix_po_s, ix_po_n, ix_ph_s, ix_bk_v, ix_bk_n, zcv, zcv_ne, ↓reduceIte, Nat.reduceEqDiff, zn_m1, zd_lt_p, zd_lt_n, zd_le_p, zd_le_n, zd_eq_p, zd_eq_n, zd_0_p, zd_0_n, zd_0lt_p, zd_0lt_n, zd_le0_p, zd_le0_n, zn_lt0, zn_le0, zn_add, zn_mul, zn_sub, zm_lt, zm_le, zm_eq, zb_1, zb_0, not_true_eq_false, not_false_eq_true, mo_c, mo_g0, mo_s0, mo_g1, mo_g2, mo_g3, mo_s3, mo_g4, mo_s4, mo_g5, mo_s5, mo_g6, mo_s6, mo_g7, mo_s7, mo_g8, mo_s8, mo_g9, mo_g10, mo_g11, mo_g12, mo_g13, mo_s13, mo_g14, mo_s14, mo_g15, mo_s15, mo_g16, mo_g17, mo_s17, mo_g18, mo_s18, mo_g19, mo_g20, mo_s20, mo_g21, mo_s21, mo_g22, mo_s22, mo_g23, mo_s23, ra_25, wa_25, al_25, ra_68, wa_68, al_68, ra_69, wa_69, al_69, ra_70, wa_70, al_70, ra_71, wa_71, al_71, ra_72, wa_72, al_72, ra_73, wa_73, al_73, ra_74, wa_74, al_74, ra_75, wa_75, al_75, a10, v0]
  · have r2 : μ10 2 = μ6 2 := low 2 (by decide) (by decide)
    refine ⟨⟨(L1 0 (by decide)).trans o1, (L1 1 (by decide)).trans o2, ?_⟩, ?_⟩
    · rw [low 1 (by decide) (by decide), g1, k1.2.2.1]; exact t1
    · rw [r2, v3 0 (by decide), v3 1 (by decide), v3 2 (by decide), v3 3 (by decide), v3 4 (by decide), vS 8 (by decide), vS 9 (by decide), vS 10 (by decide), vS 2 (by decide), vS 0 (by decide)]
      exact t2
  · refine ⟨⟨(L4 0 (by decide)).trans o4, (L4 1 (by decide)).trans o5, ?_⟩, fun j hj => ?_⟩
    · rw [low 4 (by decide) (by decide), g4, k2.2.2.1, l4, vS 6 (by decide)]; exact t3
    · rw [low 5 (by decide) (by decide), g5, k2.2.2.2 j (by omega), l6, vS _ (by omega)]
      exact t4 j hj
  · refine ⟨⟨(L7 0 (by decide)).trans o7, (L7 1 (by decide)).trans o8, ?_⟩, fun j hj => ?_⟩
    · rw [low 7 (by decide) (by decide), g7, k3.2.2.1, l7, vS 1 (by decide)]; exact t5
    · rw [low 8 (by decide) (by decide), g8, k3.2.2.2 (j * 2) (by omega), k3.2.2.2 (j * 2 + 1) (by omega), l9, vS _ (by omega), vS _ (by omega)]
      exact t6 j hj
  · refine ⟨⟨(L10 0 (by decide)).trans o10, (L10 1 (by decide)).trans o11, ?_⟩, fun j hj => ?_⟩
    · rw [low 10 (by decide) (by decide), g10, k4.2.2.1, l10, vS 3 (by decide)]; exact t7
    · rw [low 11 (by decide) (by decide), g11, k4.2.2.2 (j * 2) (by omega), k4.2.2.2 (j * 2 + 1) (by omega), l12, vS _ (by omega), vS _ (by omega)]
      exact t8 j hj
  · refine ⟨⟨(L13 0 (by decide)).trans o13, (L13 1 (by decide)).trans o14, ?_⟩, fun j hj => ?_⟩
    · rw [low 13 (by decide) (by decide), g13, k5.2.2.1, l13, vS 4 (by decide)]; exact t9
    · rw [low 14 (by decide) (by decide), g14, k5.2.2.2 (j * 2) (by omega), k5.2.2.2 (j * 2 + 1) (by omega), l15, vS _ (by omega), vS _ (by omega)]
      exact t10 j hj
  · refine ⟨⟨(L16 0 (by decide)).trans o16, (L16 1 (by decide)).trans o17, ?_⟩, fun j hj => ?_⟩
    · rw [low 16 (by decide) (by decide), k6.2.2.1, l16, vS 5 (by decide)]; exact t11
    · rw [low 17 (by decide) (by decide), k6.2.2.2 (j * 3) (by omega), k6.2.2.2 (j * 3 + 1) (by omega), k6.2.2.2 (j * 3 + 2) (by omega), l18, vS _ (by omega), vS _ (by omega), vS _ (by omega)]
      exact t12 j hj
  · unfold boI rwI at j2 ⊢
    have r75 : μ10 75 = μ 75 := by rw [row 75 (by decide) (by decide) (by decide) (fun j hj => by omega), lo7 75 (by decide) (by decide)]
    rw [mid 19 (by decide) (by decide), mid 20 (by decide) (by decide), r75, z67]
    exact j2
  · refine ⟨fun t ht => ?_, fun t t' h1 h2 => j3.2 t t' h1 (by omega)⟩
    obtain ⟨a, b, ⟨kind, c1, c2, c3, c4, c5⟩, e⟩ := j3.1 t (by omega)
    obtain ⟨_, q3⟩ := c3
    have h76 := q3.2.1
    obtain ⟨n1, n2, n3⟩ := numS t ht
    obtain ⟨_, _, _, y4, y5⟩ := ktr t ht
    obtain ⟨p1, p2⟩ := kt.2.2 t ht
    refine ⟨by rw [mid 22 (by decide) (by decide)]; exact a, b, ⟨kind, n1.trans c1, c2, ⟨_, q3⟩, ?_, fun h6 => ⟨(c5 h6).1, fun k hk => ?_⟩⟩, ?_⟩
    · rw [big _ h76, p1, hi6 _ (by omega), vS _ (by omega)]
      exact y4
    · have h6' : S (11 + t) = nI 6 := by rw [c1, h6]
      rw [big _ (by omega), p2 h6' k hk, hi6 _ (by omega), vS _ (by omega)]
      exact y5 h6' k hk
    · have := spt (t + 1) (by omega)
      rw [show 50 + 2 * (t + 1) = 52 + 2 * t by omega] at this
      have f := f4 (t + 1) 6 (by omega) (by decide) (by decide)
      rw [show 50 + 2 * (t + 1) = 52 + 2 * t by omega] at f
      rw [this, f, lo7 _ (by omega) (by omega), n3]
      exact e
  · refine ⟨fun i hi => ?_, z11, pr_cs_of s3 (mid 26 (by decide) (by decide)) (mid 27 (by decide) (by decide)), by rw [mid 26 (by decide) (by decide)]; exact s4, by rw [mid 26 (by decide) (by decide)]; exact s5, fun x hx => ?_⟩
    · obtain ⟨w1, w2, w3, w4⟩ := s1 i hi
      have q1 := spt (i + 1) (by omega)
      have q2 := odd (i + 1) (by omega)
      have q3 := f5 (i + 1) (by omega) (by omega)
      rw [show 50 + 2 * (i + 1) = 52 + 2 * i by omega] at q1 q3
      rw [show 51 + 2 * (i + 1) = 53 + 2 * i by omega] at q2
      rw [mid 23 (by decide) (by decide), mid 24 (by decide) (by decide), q1, q2]
      exact ⟨w1, w2, q3, w4⟩
    · obtain ⟨y1, y2, y3⟩ := s6 x (by omega)
      obtain ⟨x1, x2⟩ := kpk x hx
      have r1 := mid (30 + 4 * x) (by omega) (by omega)
      refine ⟨pr_cs_of y1 r1 (mid _ (by omega) (by omega)), ?_, ?_⟩
      · rw [r1, vS _ (by omega), x1]; exact y2
      · rw [r1, vS _ (by omega), x2]; exact y3
  · refine Or.inr ⟨by rw [z0 12 (by decide)]; exact d1, by rw [z67]; exact d2, I, M, k0, Nat.le_refl _, Nat.le_refl _, z69, ?_, ?_, ?_, ?_, ?_, ?_, fun t ht => ?_, fun a ha => ⟨(vS _ (by omega)).symm, (vS _ (by omega)).symm⟩⟩
    · rw [L1 5 (by decide), kp3 3 (by omega)]; exact ⟨t1, t2⟩
    · rw [L4 5 (by decide), kp3 6 (by omega)]; exact ⟨t3, t4⟩
    · rw [L7 5 (by decide), kp3 9 (by omega)]; exact ⟨t5, t6⟩
    · rw [L10 5 (by decide), kp3 12 (by omega)]; exact ⟨t7, t8⟩
    · rw [L13 5 (by decide), kp3 15 (by omega)]; exact ⟨t9, t10⟩
    · rw [L16 5 (by decide), kp3 18 (by omega)]; exact ⟨t11, t12⟩
    · obtain ⟨y1, y2, y3, y4, y5⟩ := ktr t ht
      obtain ⟨c, rest, hO⟩ := QI_trO h (show t < N 0 by omega)
      have h76 := hO.2.1
      obtain ⟨p1, p2⟩ := kt.2.1 t (by omega)
      refine ⟨(vS _ (by omega)).symm, (vS _ (by omega)).symm, (vS _ (by omega)).symm, ?_, fun h6 k hk => ?_⟩
      · rw [big _ h76, p1, hi6 _ (by omega)]; exact y4
      · have h6' : S (11 + t) = nI 6 := by rw [← y1, ← vS (11 + t) (by omega)]; exact h6
        rw [big _ (by omega), p2 h6', hi6 _ (by omega)]
        exact y5 h6' k hk
  · rcases f6 with ⟨hm, e87⟩ | f6
    · refine ⟨b0, hpc, fun u hu => ?_⟩
      have hcs : csN M C = csN N C := by unfold csN; rw [hm]
      obtain ⟨y1, y2, y3, y4, kn, y5, y6, y7⟩ := ck3 u (by omega)
      have hsu : μ10 (spp u) = μ (spp u) := by
        have : ∃ j, j < 7 ∧ spp u = 50 + 2 * j := by
          unfold spp
          split
          · exact ⟨0, by decide, rfl⟩
          · exact ⟨u + 1, by omega, by omega⟩
        obtain ⟨j, hj, ej⟩ := this
        rw [ej, spt j hj, e87, lo7 _ (by omega) (by omega)]
      have hsu1 : μ10 (spp u + 1) = μ (spp u + 1) := by
        have : ∃ j, j < 7 ∧ spp u + 1 = 51 + 2 * j := by
          unfold spp
          split
          · exact ⟨0, by decide, rfl⟩
          · exact ⟨u + 1, by omega, by omega⟩
        obtain ⟨j, hj, ej⟩ := this
        rw [ej, odd j hj]
      have hrn : rn S' (csN M C) u = rn S (csN N C) u := by
        rw [hcs]
        funext mm
        unfold rn
        rcases hu with hu | hu
        · obtain ⟨n1, n2, _⟩ := numS u hu
          rw [n1, n2]
        · simp only [if_pos hu]
      unfold spK
      rw [hsu, hsu1, hrn, hm]
      refine ⟨y1, y2, ?_, ?_, kn, y5, y6, y7⟩
      · rcases hu with hu | hu
        · rw [(numS u hu).1]; exact y3
        · rw [if_pos hu] at y3 ⊢; exact y3
      · rcases hu with hu | hu
        · rw [(numS u hu).2.1]; exact y4
        · rw [if_pos hu] at y4 ⊢; exact y4
    · refine ck_new b0 hpc (fun u hu => ?_)
      obtain ⟨y1, y2, y3, y4, kn, y5, y6, y7⟩ := ck3 u (by omega)
      have : ∃ j, j < 7 ∧ spp u = 50 + 2 * j := by
        unfold spp
        split
        · exact ⟨0, by decide, rfl⟩
        · exact ⟨u + 1, by omega, by omega⟩
      obtain ⟨j, hj, ej⟩ := this
      rw [ej] at y2 y3 y4 y7 ⊢
      have r1 : ∀ k, k ≠ 1 → k ≠ 2 → μ10 (50 + 2 * j) k = μ (50 + 2 * j) k := fun k c1 c2 => by rw [spt j hj, f4 j k hj c1 c2, lo7 _ (by omega) (by omega)]
      rw [r1 3 (by decide) (by decide), r1 4 (by decide) (by decide), r1 5 (by decide) (by decide), spt j hj, show 50 + 2 * j + 1 = 51 + 2 * j by omega, odd j hj]
      refine ⟨(f6 j hj).1, y2, ?_, ?_, (f6 j hj).2, ?_⟩
      · rcases hu with hu | hu
        · rw [(numS u hu).1]; exact y3
        · rw [if_pos hu] at y3 ⊢; exact y3
      · rcases hu with hu | hu
        · rw [(numS u hu).2.1]; exact y4
        · rw [if_pos hu] at y4 ⊢; exact y4
      · have := y7 0 (by omega)
        rw [show 50 + 2 * j + 1 = 51 + 2 * j by omega] at this
        exact this
  · exact mk2_new b0 hS'.symm (sI_mp sI') w10
end UN2
