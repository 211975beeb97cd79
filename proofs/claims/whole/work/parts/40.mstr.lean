/-! ===== straight: the model's side ===== -/
--need 39.straight
section ST10
variable {X : ix_X} {d : Nat} {τ : List fm_D} {μ : fm_M} {S : Nat → Int32} {N : Nat → Nat} {C : Nat → List Nat} {Q : Nat → Nat}
theorem mo_goS {pace l : Nat} (h : QI μ τ S N C Q) (h1 : 1 ≤ pace) (h2 : pace ≤ 20) (hl : l ≤ 400) : ∃ μ' : fm_M, ix_call X (d + 4) 173 [.ref 67, .int (nI pace), .int (nI l)] (fm_W μ τ) = some (none, fm_W μ' τ) ∧ QI μ' τ S N C Q ∧ mtr μ' (N 9) (N 8 + l + wkM pace 0 (N 9)) (nI 0 + (sS (rn S (csN N C) 6) (N 8 + l + wkM pace 0 (N 9)) - sS (rn S (csN N C) 6) (N 8 + l))) := by
  obtain ⟨b0, b1, b2, b3, b4, b5, b6, b8, b9, b10⟩ := QI_b h
  obtain ⟨μ1, a1, c1, t1, f1⟩ := mo_starts (X := X) (d := d + 3) (τ := τ) (l := l) h.2.2.2 (QI_S h (k := 8) (by decide) (by decide))
  have q1 := QI_mg h f1 c1
  have hm := wkM_le (pl := 0) (to := N 9) h1 (by omega) b9
  obtain ⟨μ2, a2, c2, t2, f2⟩ := mo_walks (X := X) (d := d) (τ := τ) (to := N 9) c1 t1 h1 (by omega) (by omega) b9 (by omega)
  have e0 := QI_68 q1
  have e9 := QI_S h (k := 9) (by decide) (by decide)
  refine ⟨μ2, ?_, QI_mg q1 f2 c2, t2⟩
  simp (disch := first | assumption | omega | decide) only [e173, i173_0, i173_1, i173_2, i173_5, i173_6, i173_7, i173_10, i173_12, i173_13, i173_14, i173_17, ix_pv_s, ix_pi_s, zpn, ix_po_s, ix_po_n, ix_ph_s, ix_bk_v, ix_bk_n, zcv, zcv_ne, ↓reduceIte, Nat.reduceEqDiff, mo_c, mo_g0, mo_s0, mo_g1, mo_g2, mo_g3, mo_s3, mo_g4, mo_s4, mo_g5, mo_s5, mo_g6, mo_s6, mo_g7, mo_s7, mo_g8, mo_s8, mo_g9, mo_g10, mo_g11, mo_g12, mo_g13, mo_s13, mo_g14, mo_s14, mo_g15, mo_s15, mo_g16, mo_g17, mo_s17, mo_g18, mo_s18, mo_g19, mo_g20, mo_s20, mo_g21, mo_s21, mo_g22, mo_s22, mo_g23, mo_s23, ra_25, wa_25, al_25, ra_68, wa_68, al_68, ra_69, wa_69, al_69, ra_70, wa_70, al_70, ra_71, wa_71, al_71, ra_72, wa_72, al_72, ra_73, wa_73, al_73, ra_74, wa_74, al_74, ra_75, wa_75, al_75, a1, e0, e9, a2]
theorem mo_straight {i what pace : Nat} (h : QI μ τ S N C Q) (hi : i < N 1) (hp : S (59 + i) = nI pace) (h1 : 1 ≤ pace) (h2 : pace ≤ 20) (hwh : what ≤ 2) : ∃ μ' : fm_M, ix_call X (d + 5) 172 [.ref 67, .int (nI i), .int (nI what)] (fm_W μ τ) = some (some (.int (stS S N (csN N C) pace i what)), fm_W μ' τ) ∧ QI μ' τ S N C Q := by
  obtain ⟨b0, b1, b2, b3, b4, b5, b6, b8, b9, b10⟩ := QI_b h
  obtain ⟨μ1, a1, q1, t1⟩ := mo_goS (X := X) (d := d) (l := 0) h h1 h2 (by decide)
  have k2 := mo_tellsW (X := X) (d := d + 2) (τ := τ) (w := i) (what := what) q1.2.2.2 t1 (QI_S h (k := 8) (by decide) (by decide)) (by omega) (by omega) hwh
  have hh := mo_isWalker (X := X) (d := d + 3) (τ := τ) (μ := μ) (n := N 1) (by rw [QI_68 h]; exact QI_S h (by decide) (by decide)) (by omega) (inS_p hi)
  have hin : nI 0 ≤ nI what ∧ nI what ≤ nI 2 := in_p (by omega) hwh (by omega)
  have e0 := QI_68 h
  refine ⟨μ1, ?_, q1⟩
  simp only [Nat.add_zero] at k2
  simp (disch := first | assumption | omega | decide) only [e172, i172_0, i172_1, i172_2, i172_5, i172_8, i172_9, i172_10, i172_11, i172_14, i172_17, i172_18, i172_19, i172_20, i172_21, i172_24, i172_26, i172_27, i172_28, i172_29, i172_30, i172_33, i172_34, i172_35, i172_36, i172_39, ix_pv_s, ix_pi_s, zpn, ix_po_s, ix_po_n, ix_ph_s, ix_bk_v, ix_bk_n, zcv, zcv_ne, ↓reduceIte, Nat.reduceEqDiff, zn_m1, zd_lt_p, zd_lt_n, zd_le_p, zd_le_n, zd_eq_p, zd_eq_n, zd_0_p, zd_0_n, zd_0lt_p, zd_0lt_n, zd_le0_p, zd_le0_n, zn_lt0, zn_le0, zn_add, zn_mul, zn_sub, zm_lt, zm_le, zm_eq, zb_1, zb_0, not_true_eq_false, not_false_eq_true, mo_c, mo_g0, mo_s0, mo_g1, mo_g2, mo_g3, mo_s3, mo_g4, mo_s4, mo_g5, mo_s5, mo_g6, mo_s6, mo_g7, mo_s7, mo_g8, mo_s8, mo_g9, mo_g10, mo_g11, mo_g12, mo_g13, mo_s13, mo_g14, mo_s14, mo_g15, mo_s15, mo_g16, mo_g17, mo_s17, mo_g18, mo_s18, mo_g19, mo_g20, mo_s20, mo_g21, mo_s21, mo_g22, mo_s22, mo_g23, mo_s23, ra_25, wa_25, al_25, ra_68, wa_68, al_68, ra_69, wa_69, al_69, ra_70, wa_70, al_70, ra_71, wa_71, al_71, ra_72, wa_72, al_72, ra_73, wa_73, al_73, ra_74, wa_74, al_74, ra_75, wa_75, al_75, hh, mo_in, hin, and_self, e0, hp, a1, k2, stS]
end ST10
