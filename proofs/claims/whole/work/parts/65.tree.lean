/-! ===== tree ===== -/
--need 64.plant
def agt (X : ix_X) (d : Nat) (τ : List fm_D) (S : Nat → Int32) (N : Nat → Nat) (C : Nat → List Nat) (Q : Nat → Nat) (j1 j2 : Nat) (as : List Value) : Prop := ∀ μ, QI μ τ S N C Q → ∃ (v : Int32) (μ1 μ2 : fm_M) (τ' : List fm_D) (S' : Nat → Int32) (N' : Nat → Nat) (C' : Nat → List Nat) (Q' : Nat → Nat), ix_call X d j1 (.ref 0 :: as) (fm_W μ τ) = some (some (.int v), fm_W μ1 τ') ∧ ix_call X d j2 (.ref 67 :: as) (fm_W μ1 τ') = some (some (.int v), fm_W μ2 τ') ∧ QI μ2 τ' S' N' C' Q' ∧ (τ' = τ ∨ ∃ k t, k ≤ 6 ∧ τ' = τ ++ tde k t (76 + τ.length))
theorem agt_of {X : ix_X} {d : Nat} {τ : List fm_D} {S : Nat → Int32} {N : Nat → Nat} {C : Nat → List Nat} {Q : Nat → Nat} {j1 j2 : Nat} {as : List Value} (h : agm X d τ S N C Q j1 j2 as) : agt X d τ S N C Q j1 j2 as := fun μ q => by
  obtain ⟨v, μ1, μ2, S', N', C', Q', a, b, c⟩ := h μ q
  exact ⟨v, μ1, μ2, τ, S', N', C', Q', a, b, c, Or.inl rfl⟩
section TT
variable {X : ix_X} {d : Nat} {τ : List fm_D} {μ μ' : fm_M} {S : Nat → Int32} {N : Nat → Nat} {C : Nat → List Nat} {Q : Nat → Nat}
theorem cl_become {r : Nat} {a b c e : Int32} (hr : spO r) : ix_call X d 33 [.ref r, .int a, .int b, .int c, .int e] (fm_W μ τ) = some (none, fm_W (fm_u (fm_u (fm_u (fm_u (fm_u μ r 3 a) r 4 b) r 5 c) r 6 e) r 1 (nI 0)) τ) := by
  simp (disch := first | assumption | omega | decide) only [e33, i33_0, i33_1, i33_2, i33_5, i33_6, i33_7, i33_10, i33_11, i33_12, i33_15, i33_16, i33_18, i33_21, i33_22, i33_23, i33_26, ix_pv_s, ix_pi_s, zpn, ix_po_s, ix_po_n, ix_ph_s, ix_bk_v, ix_bk_n, zcv, zcv_ne, ↓reduceIte, Nat.reduceEqDiff, zn_m1, zd_lt_p, zd_lt_n, zd_le_p, zd_le_n, zd_eq_p, zd_eq_n, zd_0_p, zd_0_n, zd_0lt_p, zd_0lt_n, zd_le0_p, zd_le0_n, zn_lt0, zn_le0, zn_add, zn_mul, zn_sub, zm_lt, zm_le, zm_eq, zb_1, zb_0, not_true_eq_false, not_false_eq_true, sp_c, sp_g0, sp_g1, sp_s1, sp_s2, sp_g3, sp_s3, sp_g4, sp_s4, sp_g5, sp_s5, sp_g6, sp_s6]
theorem wq_22 {k v cv : Nat} (hv : ix_cls (fm_W μ τ) v = some cv) (hc : ix_okst 2 cv = true) (hk : k < 6) (v31 : v < 2147483648) : ix_wq (fm_W μ τ) 22 (nI k) v = some (fm_W (fm_u μ 22 k (nI v)) τ) := fm_wq (n := 6) (fm_lk rfl) hv hc (by decide) (by decide) hk (by omega) v31
theorem mo_trL {t : Nat} {y1 y2 y3 y4 : Option Value} (ht : t < 6) : ∀ (k i : Nat) (μ : fm_M), i + k = 4 → ∃ (x6 : Option Value) (μ' : fm_M), ix_sem X d 149 116 [some (.ref 67), y1, y2, y3, y4, some (.int (nI t)), some (.int (nI i))] [] (fm_W μ τ) = ix_sem X d 149 144 [some (.ref 67), y1, y2, y3, y4, some (.int (nI t)), x6] [] (fm_W μ' τ) ∧ (∀ r, r ≠ 68 → μ' r = μ r) ∧ (∀ j, j < 35 + 4 * t + i ∨ 39 + 4 * t ≤ j → μ' 68 j = μ 68 j) ∧ ∀ j, i ≤ j → j < 4 → μ' 68 (35 + 4 * t + j) = nI 0
  | 0, i, μ, e => by
    refine ⟨some (.int (nI i)), μ, ?_, fun _ _ => rfl, fun _ _ => rfl, fun j a b => by omega⟩
    simp (disch := first | assumption | omega | decide) only [i149_0, i149_1, i149_2, i149_4, i149_7, i149_10, i149_11, i149_12, i149_13, i149_14, i149_16, i149_19, i149_22, i149_23, i149_24, i149_26, i149_29, i149_32, i149_34, i149_35, i149_37, i149_40, i149_43, i149_45, i149_46, i149_47, i149_50, i149_51, i149_52, i149_54, i149_57, i149_59, i149_60, i149_61, i149_64, i149_65, i149_66, i149_68, i149_69, i149_72, i149_74, i149_76, i149_77, i149_78, i149_79, i149_80, i149_83, i149_85, i149_87, i149_88, i149_89, i149_90, i149_91, i149_94, i149_96, i149_98, i149_99, i149_100, i149_101, i149_102, i149_105, i149_107, i149_109, i149_110, i149_112, i149_113, i149_114, i149_116, i149_118, i149_119, i149_122, i149_123, i149_126, i149_128, i149_129, i149_131, i149_132, i149_133, i149_135, i149_136, i149_137, i149_138, i149_141, i149_145, i149_148, i149_149, i149_150, i149_151, i149_152, i149_153, i149_154, i149_155, i149_158, i149_160, i149_161, i149_162, i149_164, ix_pv_s, ix_pi_s, zpn, ix_po_s, ix_po_n, ix_ph_s, ix_bk_v, ix_bk_n, zcv, zcv_ne, ↓reduceIte, Nat.reduceEqDiff, zn_m1, zd_lt_p, zd_lt_n, zd_le_p, zd_le_n, zd_eq_p, zd_eq_n, zd_0_p, zd_0_n, zd_0lt_p, zd_0lt_n, zd_le0_p, zd_le0_n, zn_lt0, zn_le0, zn_add, zn_mul, zn_sub, zm_lt, zm_le, zm_eq, zb_1, zb_0, not_true_eq_false, not_false_eq_true, mo_c, mo_g0, mo_s0, mo_g1, mo_g2, mo_g3, mo_s3, mo_g4, mo_s4, mo_g5, mo_s5, mo_g6, mo_s6, mo_g7, mo_s7, mo_g8, mo_s8, mo_g9, mo_g10, mo_g11, mo_g12, mo_g13, mo_s13, mo_g14, mo_s14, mo_g15, mo_s15, mo_g16, mo_g17, mo_s17, mo_g18, mo_s18, mo_g19, mo_g20, mo_s20, mo_g21, mo_s21, mo_g22, mo_s22, mo_g23, mo_s23, ra_25, wa_25, al_25, ra_68, wa_68, al_68, ra_69, wa_69, al_69, ra_70, wa_70, al_70, ra_71, wa_71, al_71, ra_72, wa_72, al_72, ra_73, wa_73, al_73, ra_74, wa_74, al_74, ra_75, wa_75, al_75]
  | k + 1, i, μ, e => by
    obtain ⟨x6, μ', a, b, c, f⟩ := mo_trL (y1 := y1) (y2 := y2) (y3 := y3) (y4 := y4) ht k (i + 1) (fm_u μ 68 (35 + 4 * t + i) (nI 0)) (by omega)
    refine ⟨x6, μ', ?_, fun r hr => (b r hr).trans (fm_un hr), fun j hj => (c j (by omega)).trans (fm_uk (by omega)), fun j h1 h2 => ?_⟩
    · rw [← a, i149_116]
      simp (disch := first | assumption | omega | decide) only [i149_0, i149_1, i149_2, i149_4, i149_7, i149_10, i149_11, i149_12, i149_13, i149_14, i149_16, i149_19, i149_22, i149_23, i149_24, i149_26, i149_29, i149_32, i149_34, i149_35, i149_37, i149_40, i149_43, i149_45, i149_46, i149_47, i149_50, i149_51, i149_52, i149_54, i149_57, i149_59, i149_60, i149_61, i149_64, i149_65, i149_66, i149_68, i149_69, i149_72, i149_74, i149_76, i149_77, i149_78, i149_79, i149_80, i149_83, i149_85, i149_87, i149_88, i149_89, i149_90, i149_91, i149_94, i149_96, i149_98, i149_99, i149_100, i149_101, i149_102, i149_105, i149_107, i149_109, i149_110, i149_112, i149_113, i149_114, i149_118, i149_119, i149_122, i149_123, i149_126, i149_128, i149_129, i149_131, i149_132, i149_133, i149_135, i149_136, i149_137, i149_138, i149_141, i149_145, i149_148, i149_149, i149_150, i149_151, i149_152, i149_153, i149_154, i149_155, i149_158, i149_160, i149_161, i149_162, i149_164, ix_pv_s, ix_pi_s, zpn, ix_po_s, ix_po_n, ix_ph_s, ix_bk_v, ix_bk_n, zcv, zcv_ne, ↓reduceIte, Nat.reduceEqDiff, zn_m1, zd_lt_p, zd_lt_n, zd_le_p, zd_le_n, zd_eq_p, zd_eq_n, zd_0_p, zd_0_n, zd_0lt_p, zd_0lt_n, zd_le0_p, zd_le0_n, zn_lt0, zn_le0, zn_add, zn_mul, zn_sub, zm_lt, zm_le, zm_eq, zb_1, zb_0, not_true_eq_false, not_false_eq_true, mo_c, mo_g0, mo_s0, mo_g1, mo_g2, mo_g3, mo_s3, mo_g4, mo_s4, mo_g5, mo_s5, mo_g6, mo_s6, mo_g7, mo_s7, mo_g8, mo_s8, mo_g9, mo_g10, mo_g11, mo_g12, mo_g13, mo_s13, mo_g14, mo_s14, mo_g15, mo_s15, mo_g16, mo_g17, mo_s17, mo_g18, mo_s18, mo_g19, mo_g20, mo_s20, mo_g21, mo_s21, mo_g22, mo_s22, mo_g23, mo_s23, ra_25, wa_25, al_25, ra_68, wa_68, al_68, ra_69, wa_69, al_69, ra_70, wa_70, al_70, ra_71, wa_71, al_71, ra_72, wa_72, al_72, ra_73, wa_73, al_73, ra_74, wa_74, al_74, ra_75, wa_75, al_75]
    · by_cases ej : j = i
      · subst ej
        exact (c _ (by omega)).trans fm_us
      · exact f j (by omega) h2
theorem agt_tree {a b c e : Int32} (hτ : τ.length ≤ 100000) : agt X (d + 6) τ S N C Q 71 149 [.int a, .int b, .int c, .int e] := by
  intro μ h
  have hb := QI_b h
  have e68 := QI_68 h
  have e0 := QI_S h (k := 0) (by decide) (by decide)
  by_cases hin1 : nI 0 ≤ a ∧ a ≤ nI 6
  rotate_left
  · refine ⟨-1, μ, μ, τ, S, N, C, Q, ?_, ?_, h, Or.inl rfl⟩
    · simp (disch := first | assumption | omega | decide) only [e71, i71_0, i71_1, i71_2, i71_4, i71_7, i71_10, i71_11, i71_12, i71_13, i71_14, i71_16, i71_19, i71_22, i71_23, i71_24, i71_26, i71_29, i71_32, i71_34, i71_35, i71_37, i71_38, i71_40, i71_43, i71_46, i71_48, i71_49, i71_50, i71_51, i71_54, i71_56, i71_58, i71_59, i71_60, i71_63, i71_64, i71_65, i71_68, i71_69, i71_72, i71_73, i71_74, i71_77, i71_80, i71_82, i71_83, i71_84, i71_87, i71_89, i71_90, i71_90n, i71_92, i71_92n, i71_94n, i71_94, i71_97, i71_99, i71_100, i71_100n, i71_102, i71_104, i71_105, i71_106, i71_108, i71_111, i71_112, i71_115, i71_117, i71_117n, i71_119, i71_120, i71_123, i71_124, i71_125, i71_126, i71_128, i71_129, i71_130, i71_133, i71_134, i71_136, ix_pv_s, ix_pi_s, zpn, ix_po_s, ix_po_n, ix_ph_s, ix_bk_v, ix_bk_n, zcv, zcv_ne, ↓reduceIte, Nat.reduceEqDiff, zn_m1, zd_lt_p, zd_lt_n, zd_le_p, zd_le_n, zd_eq_p, zd_eq_n, zd_0_p, zd_0_n, zd_0lt_p, zd_0lt_n, zd_le0_p, zd_le0_n, zn_lt0, zn_le0, zn_add, zn_mul, zn_sub, zm_lt, zm_le, zm_eq, zb_1, zb_0, not_true_eq_false, not_false_eq_true, t0_c, t0_g0, t0_g1, t0_g2, t0_g3, t0_g4, t0_g5, t0_g6, t0_g7, t0_g8, t0_g9, t0_g10, t0_s11, t0_g12, t0_s12, t0_g13, t0_g14, t0_g15, t0_g16, t0_c, rw_c, cl_within, hin1]
    · simp (disch := first | assumption | omega | decide) only [e149, i149_0, i149_1, i149_2, i149_4, i149_7, i149_10, i149_11, i149_12, i149_13, i149_14, i149_16, i149_19, i149_22, i149_23, i149_24, i149_26, i149_29, i149_32, i149_34, i149_35, i149_37, i149_40, i149_43, i149_45, i149_46, i149_47, i149_50, i149_51, i149_52, i149_54, i149_57, i149_59, i149_60, i149_61, i149_64, i149_65, i149_66, i149_68, i149_69, i149_72, i149_74, i149_76, i149_77, i149_78, i149_79, i149_80, i149_83, i149_85, i149_87, i149_88, i149_89, i149_90, i149_91, i149_94, i149_96, i149_98, i149_99, i149_100, i149_101, i149_102, i149_105, i149_107, i149_109, i149_110, i149_112, i149_113, i149_114, i149_118, i149_119, i149_122, i149_123, i149_126, i149_128, i149_129, i149_131, i149_132, i149_133, i149_135, i149_136, i149_137, i149_138, i149_141, i149_144, i149_145, i149_148, i149_149, i149_150, i149_151, i149_152, i149_153, i149_154, i149_155, i149_158, i149_160, i149_161, i149_162, i149_164, ix_pv_s, ix_pi_s, zpn, ix_po_s, ix_po_n, ix_ph_s, ix_bk_v, ix_bk_n, zcv, zcv_ne, ↓reduceIte, Nat.reduceEqDiff, zn_m1, zd_lt_p, zd_lt_n, zd_le_p, zd_le_n, zd_eq_p, zd_eq_n, zd_0_p, zd_0_n, zd_0lt_p, zd_0lt_n, zd_le0_p, zd_le0_n, zn_lt0, zn_le0, zn_add, zn_mul, zn_sub, zm_lt, zm_le, zm_eq, zb_1, zb_0, not_true_eq_false, not_false_eq_true, mo_c, mo_g0, mo_s0, mo_g1, mo_g2, mo_g3, mo_s3, mo_g4, mo_s4, mo_g5, mo_s5, mo_g6, mo_s6, mo_g7, mo_s7, mo_g8, mo_s8, mo_g9, mo_g10, mo_g11, mo_g12, mo_g13, mo_s13, mo_g14, mo_s14, mo_g15, mo_s15, mo_g16, mo_g17, mo_s17, mo_g18, mo_s18, mo_g19, mo_g20, mo_s20, mo_g21, mo_s21, mo_g22, mo_s22, mo_g23, mo_s23, ra_25, wa_25, al_25, ra_68, wa_68, al_68, ra_69, wa_69, al_69, ra_70, wa_70, al_70, ra_71, wa_71, al_71, ra_72, wa_72, al_72, ra_73, wa_73, al_73, ra_74, wa_74, al_74, ra_75, wa_75, al_75, mo_in, hin1]
  by_cases hin2 : nI 0 ≤ b ∧ b ≤ nI 9
  rotate_left
  · refine ⟨-2, μ, μ, τ, S, N, C, Q, ?_, ?_, h, Or.inl rfl⟩
    · simp (disch := first | assumption | omega | decide) only [e71, i71_0, i71_1, i71_2, i71_4, i71_7, i71_10, i71_11, i71_12, i71_13, i71_14, i71_16, i71_19, i71_22, i71_23, i71_24, i71_26, i71_29, i71_32, i71_34, i71_35, i71_37, i71_38, i71_40, i71_43, i71_46, i71_48, i71_49, i71_50, i71_51, i71_54, i71_56, i71_58, i71_59, i71_60, i71_63, i71_64, i71_65, i71_68, i71_69, i71_72, i71_73, i71_74, i71_77, i71_80, i71_82, i71_83, i71_84, i71_87, i71_89, i71_90, i71_90n, i71_92, i71_92n, i71_94n, i71_94, i71_97, i71_99, i71_100, i71_100n, i71_102, i71_104, i71_105, i71_106, i71_108, i71_111, i71_112, i71_115, i71_117, i71_117n, i71_119, i71_120, i71_123, i71_124, i71_125, i71_126, i71_128, i71_129, i71_130, i71_133, i71_134, i71_136, ix_pv_s, ix_pi_s, zpn, ix_po_s, ix_po_n, ix_ph_s, ix_bk_v, ix_bk_n, zcv, zcv_ne, ↓reduceIte, Nat.reduceEqDiff, zn_m1, zd_lt_p, zd_lt_n, zd_le_p, zd_le_n, zd_eq_p, zd_eq_n, zd_0_p, zd_0_n, zd_0lt_p, zd_0lt_n, zd_le0_p, zd_le0_n, zn_lt0, zn_le0, zn_add, zn_mul, zn_sub, zm_lt, zm_le, zm_eq, zb_1, zb_0, not_true_eq_false, not_false_eq_true, t0_c, t0_g0, t0_g1, t0_g2, t0_g3, t0_g4, t0_g5, t0_g6, t0_g7, t0_g8, t0_g9, t0_g10, t0_s11, t0_g12, t0_s12, t0_g13, t0_g14, t0_g15, t0_g16, t0_c, rw_c, cl_within, hin1, and_self, hin2]
    · simp (disch := first | assumption | omega | decide) only [e149, i149_0, i149_1, i149_2, i149_4, i149_7, i149_10, i149_11, i149_12, i149_13, i149_14, i149_16, i149_19, i149_22, i149_23, i149_24, i149_26, i149_29, i149_32, i149_34, i149_35, i149_37, i149_40, i149_43, i149_45, i149_46, i149_47, i149_50, i149_51, i149_52, i149_54, i149_57, i149_59, i149_60, i149_61, i149_64, i149_65, i149_66, i149_68, i149_69, i149_72, i149_74, i149_76, i149_77, i149_78, i149_79, i149_80, i149_83, i149_85, i149_87, i149_88, i149_89, i149_90, i149_91, i149_94, i149_96, i149_98, i149_99, i149_100, i149_101, i149_102, i149_105, i149_107, i149_109, i149_110, i149_112, i149_113, i149_114, i149_118, i149_119, i149_122, i149_123, i149_126, i149_128, i149_129, i149_131, i149_132, i149_133, i149_135, i149_136, i149_137, i149_138, i149_141, i149_144, i149_145, i149_148, i149_149, i149_150, i149_151, i149_152, i149_153, i149_154, i149_155, i149_158, i149_160, i149_161, i149_162, i149_164, ix_pv_s, ix_pi_s, zpn, ix_po_s, ix_po_n, ix_ph_s, ix_bk_v, ix_bk_n, zcv, zcv_ne, ↓reduceIte, Nat.reduceEqDiff, zn_m1, zd_lt_p, zd_lt_n, zd_le_p, zd_le_n, zd_eq_p, zd_eq_n, zd_0_p, zd_0_n, zd_0lt_p, zd_0lt_n, zd_le0_p, zd_le0_n, zn_lt0, zn_le0, zn_add, zn_mul, zn_sub, zm_lt, zm_le, zm_eq, zb_1, zb_0, not_true_eq_false, not_false_eq_true, mo_c, mo_g0, mo_s0, mo_g1, mo_g2, mo_g3, mo_s3, mo_g4, mo_s4, mo_g5, mo_s5, mo_g6, mo_s6, mo_g7, mo_s7, mo_g8, mo_s8, mo_g9, mo_g10, mo_g11, mo_g12, mo_g13, mo_s13, mo_g14, mo_s14, mo_g15, mo_s15, mo_g16, mo_g17, mo_s17, mo_g18, mo_s18, mo_g19, mo_g20, mo_s20, mo_g21, mo_s21, mo_g22, mo_s22, mo_g23, mo_s23, ra_25, wa_25, al_25, ra_68, wa_68, al_68, ra_69, wa_69, al_69, ra_70, wa_70, al_70, ra_71, wa_71, al_71, ra_72, wa_72, al_72, ra_73, wa_73, al_73, ra_74, wa_74, al_74, ra_75, wa_75, al_75, mo_in, hin1, and_self, hin2]
  by_cases hin3 : nI 0 ≤ c ∧ c ≤ nI 99
  rotate_left
  · refine ⟨-2, μ, μ, τ, S, N, C, Q, ?_, ?_, h, Or.inl rfl⟩
    · simp (disch := first | assumption | omega | decide) only [e71, i71_0, i71_1, i71_2, i71_4, i71_7, i71_10, i71_11, i71_12, i71_13, i71_14, i71_16, i71_19, i71_22, i71_23, i71_24, i71_26, i71_29, i71_32, i71_34, i71_35, i71_37, i71_38, i71_40, i71_43, i71_46, i71_48, i71_49, i71_50, i71_51, i71_54, i71_56, i71_58, i71_59, i71_60, i71_63, i71_64, i71_65, i71_68, i71_69, i71_72, i71_73, i71_74, i71_77, i71_80, i71_82, i71_83, i71_84, i71_87, i71_89, i71_90, i71_90n, i71_92, i71_92n, i71_94n, i71_94, i71_97, i71_99, i71_100, i71_100n, i71_102, i71_104, i71_105, i71_106, i71_108, i71_111, i71_112, i71_115, i71_117, i71_117n, i71_119, i71_120, i71_123, i71_124, i71_125, i71_126, i71_128, i71_129, i71_130, i71_133, i71_134, i71_136, ix_pv_s, ix_pi_s, zpn, ix_po_s, ix_po_n, ix_ph_s, ix_bk_v, ix_bk_n, zcv, zcv_ne, ↓reduceIte, Nat.reduceEqDiff, zn_m1, zd_lt_p, zd_lt_n, zd_le_p, zd_le_n, zd_eq_p, zd_eq_n, zd_0_p, zd_0_n, zd_0lt_p, zd_0lt_n, zd_le0_p, zd_le0_n, zn_lt0, zn_le0, zn_add, zn_mul, zn_sub, zm_lt, zm_le, zm_eq, zb_1, zb_0, not_true_eq_false, not_false_eq_true, t0_c, t0_g0, t0_g1, t0_g2, t0_g3, t0_g4, t0_g5, t0_g6, t0_g7, t0_g8, t0_g9, t0_g10, t0_s11, t0_g12, t0_s12, t0_g13, t0_g14, t0_g15, t0_g16, t0_c, rw_c, cl_within, hin1, and_self, hin2, hin3]
    · simp (disch := first | assumption | omega | decide) only [e149, i149_0, i149_1, i149_2, i149_4, i149_7, i149_10, i149_11, i149_12, i149_13, i149_14, i149_16, i149_19, i149_22, i149_23, i149_24, i149_26, i149_29, i149_32, i149_34, i149_35, i149_37, i149_40, i149_43, i149_45, i149_46, i149_47, i149_50, i149_51, i149_52, i149_54, i149_57, i149_59, i149_60, i149_61, i149_64, i149_65, i149_66, i149_68, i149_69, i149_72, i149_74, i149_76, i149_77, i149_78, i149_79, i149_80, i149_83, i149_85, i149_87, i149_88, i149_89, i149_90, i149_91, i149_94, i149_96, i149_98, i149_99, i149_100, i149_101, i149_102, i149_105, i149_107, i149_109, i149_110, i149_112, i149_113, i149_114, i149_118, i149_119, i149_122, i149_123, i149_126, i149_128, i149_129, i149_131, i149_132, i149_133, i149_135, i149_136, i149_137, i149_138, i149_141, i149_144, i149_145, i149_148, i149_149, i149_150, i149_151, i149_152, i149_153, i149_154, i149_155, i149_158, i149_160, i149_161, i149_162, i149_164, ix_pv_s, ix_pi_s, zpn, ix_po_s, ix_po_n, ix_ph_s, ix_bk_v, ix_bk_n, zcv, zcv_ne, ↓reduceIte, Nat.reduceEqDiff, zn_m1, zd_lt_p, zd_lt_n, zd_le_p, zd_le_n, zd_eq_p, zd_eq_n, zd_0_p, zd_0_n, zd_0lt_p, zd_0lt_n, zd_le0_p, zd_le0_n, zn_lt0, zn_le0, zn_add, zn_mul, zn_sub, zm_lt, zm_le, zm_eq, zb_1, zb_0, not_true_eq_false, not_false_eq_true, mo_c, mo_g0, mo_s0, mo_g1, mo_g2, mo_g3, mo_s3, mo_g4, mo_s4, mo_g5, mo_s5, mo_g6, mo_s6, mo_g7, mo_s7, mo_g8, mo_s8, mo_g9, mo_g10, mo_g11, mo_g12, mo_g13, mo_s13, mo_g14, mo_s14, mo_g15, mo_s15, mo_g16, mo_g17, mo_s17, mo_g18, mo_s18, mo_g19, mo_g20, mo_s20, mo_g21, mo_s21, mo_g22, mo_s22, mo_g23, mo_s23, ra_25, wa_25, al_25, ra_68, wa_68, al_68, ra_69, wa_69, al_69, ra_70, wa_70, al_70, ra_71, wa_71, al_71, ra_72, wa_72, al_72, ra_73, wa_73, al_73, ra_74, wa_74, al_74, ra_75, wa_75, al_75, mo_in, hin1, and_self, hin2, hin3]
  by_cases hin4 : nI 0 ≤ e ∧ e ≤ nI 99
  rotate_left
  · refine ⟨-2, μ, μ, τ, S, N, C, Q, ?_, ?_, h, Or.inl rfl⟩
    · simp (disch := first | assumption | omega | decide) only [e71, i71_0, i71_1, i71_2, i71_4, i71_7, i71_10, i71_11, i71_12, i71_13, i71_14, i71_16, i71_19, i71_22, i71_23, i71_24, i71_26, i71_29, i71_32, i71_34, i71_35, i71_37, i71_38, i71_40, i71_43, i71_46, i71_48, i71_49, i71_50, i71_51, i71_54, i71_56, i71_58, i71_59, i71_60, i71_63, i71_64, i71_65, i71_68, i71_69, i71_72, i71_73, i71_74, i71_77, i71_80, i71_82, i71_83, i71_84, i71_87, i71_89, i71_90, i71_90n, i71_92, i71_92n, i71_94n, i71_94, i71_97, i71_99, i71_100, i71_100n, i71_102, i71_104, i71_105, i71_106, i71_108, i71_111, i71_112, i71_115, i71_117, i71_117n, i71_119, i71_120, i71_123, i71_124, i71_125, i71_126, i71_128, i71_129, i71_130, i71_133, i71_134, i71_136, ix_pv_s, ix_pi_s, zpn, ix_po_s, ix_po_n, ix_ph_s, ix_bk_v, ix_bk_n, zcv, zcv_ne, ↓reduceIte, Nat.reduceEqDiff, zn_m1, zd_lt_p, zd_lt_n, zd_le_p, zd_le_n, zd_eq_p, zd_eq_n, zd_0_p, zd_0_n, zd_0lt_p, zd_0lt_n, zd_le0_p, zd_le0_n, zn_lt0, zn_le0, zn_add, zn_mul, zn_sub, zm_lt, zm_le, zm_eq, zb_1, zb_0, not_true_eq_false, not_false_eq_true, t0_c, t0_g0, t0_g1, t0_g2, t0_g3, t0_g4, t0_g5, t0_g6, t0_g7, t0_g8, t0_g9, t0_g10, t0_s11, t0_g12, t0_s12, t0_g13, t0_g14, t0_g15, t0_g16, t0_c, rw_c, cl_within, hin1, and_self, hin2, hin3, hin4]
    · simp (disch := first | assumption | omega | decide) only [e149, i149_0, i149_1, i149_2, i149_4, i149_7, i149_10, i149_11, i149_12, i149_13, i149_14, i149_16, i149_19, i149_22, i149_23, i149_24, i149_26, i149_29, i149_32, i149_34, i149_35, i149_37, i149_40, i149_43, i149_45, i149_46, i149_47, i149_50, i149_51, i149_52, i149_54, i149_57, i149_59, i149_60, i149_61, i149_64, i149_65, i149_66, i149_68, i149_69, i149_72, i149_74, i149_76, i149_77, i149_78, i149_79, i149_80, i149_83, i149_85, i149_87, i149_88, i149_89, i149_90, i149_91, i149_94, i149_96, i149_98, i149_99, i149_100, i149_101, i149_102, i149_105, i149_107, i149_109, i149_110, i149_112, i149_113, i149_114, i149_118, i149_119, i149_122, i149_123, i149_126, i149_128, i149_129, i149_131, i149_132, i149_133, i149_135, i149_136, i149_137, i149_138, i149_141, i149_144, i149_145, i149_148, i149_149, i149_150, i149_151, i149_152, i149_153, i149_154, i149_155, i149_158, i149_160, i149_161, i149_162, i149_164, ix_pv_s, ix_pi_s, zpn, ix_po_s, ix_po_n, ix_ph_s, ix_bk_v, ix_bk_n, zcv, zcv_ne, ↓reduceIte, Nat.reduceEqDiff, zn_m1, zd_lt_p, zd_lt_n, zd_le_p, zd_le_n, zd_eq_p, zd_eq_n, zd_0_p, zd_0_n, zd_0lt_p, zd_0lt_n, zd_le0_p, zd_le0_n, zn_lt0, zn_le0, zn_add, zn_mul, zn_sub, zm_lt, zm_le, zm_eq, zb_1, zb_0, not_true_eq_false, not_false_eq_true, mo_c, mo_g0, mo_s0, mo_g1, mo_g2, mo_g3, mo_s3, mo_g4, mo_s4, mo_g5, mo_s5, mo_g6, mo_s6, mo_g7, mo_s7, mo_g8, mo_s8, mo_g9, mo_g10, mo_g11, mo_g12, mo_g13, mo_s13, mo_g14, mo_s14, mo_g15, mo_s15, mo_g16, mo_g17, mo_s17, mo_g18, mo_s18, mo_g19, mo_g20, mo_s20, mo_g21, mo_s21, mo_g22, mo_s22, mo_g23, mo_s23, ra_25, wa_25, al_25, ra_68, wa_68, al_68, ra_69, wa_69, al_69, ra_70, wa_70, al_70, ra_71, wa_71, al_71, ra_72, wa_72, al_72, ra_73, wa_73, al_73, ra_74, wa_74, al_74, ra_75, wa_75, al_75, mo_in, hin1, and_self, hin2, hin3, hin4]
  have kn := cl_number (X := X) (d := d + 4) (τ := τ) (k := 4) (QI_nb h) (by decide)
  rw [QI_n h] at kn
  by_cases hf : N 0 = 6
  · refine ⟨-4, μ, μ, τ, S, N, C, Q, ?_, ?_, h, Or.inl rfl⟩
    · simp (disch := first | assumption | omega | decide) only [e71, i71_0, i71_1, i71_2, i71_4, i71_7, i71_10, i71_11, i71_12, i71_13, i71_14, i71_16, i71_19, i71_22, i71_23, i71_24, i71_26, i71_29, i71_32, i71_34, i71_35, i71_37, i71_38, i71_40, i71_43, i71_46, i71_48, i71_49, i71_50, i71_51, i71_54, i71_56, i71_58, i71_59, i71_60, i71_63, i71_64, i71_65, i71_68, i71_69, i71_72, i71_73, i71_74, i71_77, i71_80, i71_82, i71_83, i71_84, i71_87, i71_89, i71_90, i71_90n, i71_92, i71_92n, i71_94n, i71_94, i71_97, i71_99, i71_100, i71_100n, i71_102, i71_104, i71_105, i71_106, i71_108, i71_111, i71_112, i71_115, i71_117, i71_117n, i71_119, i71_120, i71_123, i71_124, i71_125, i71_126, i71_128, i71_129, i71_130, i71_133, i71_134, i71_136, ix_pv_s, ix_pi_s, zpn, ix_po_s, ix_po_n, ix_ph_s, ix_bk_v, ix_bk_n, zcv, zcv_ne, ↓reduceIte, Nat.reduceEqDiff, zn_m1, zd_lt_p, zd_lt_n, zd_le_p, zd_le_n, zd_eq_p, zd_eq_n, zd_0_p, zd_0_n, zd_0lt_p, zd_0lt_n, zd_le0_p, zd_le0_n, zn_lt0, zn_le0, zn_add, zn_mul, zn_sub, zm_lt, zm_le, zm_eq, zb_1, zb_0, not_true_eq_false, not_false_eq_true, t0_c, t0_g0, t0_g1, t0_g2, t0_g3, t0_g4, t0_g5, t0_g6, t0_g7, t0_g8, t0_g9, t0_g10, t0_s11, t0_g12, t0_s12, t0_g13, t0_g14, t0_g15, t0_g16, t0_c, rw_c, rq_22, rq_23, rq_24, al_22, al_23, al_24, cl_within, hin1, and_self, hin2, hin3, hin4, kn, Nat.reduceSub, and_false]
    · simp (disch := first | assumption | omega | decide) only [e149, i149_0, i149_1, i149_2, i149_4, i149_7, i149_10, i149_11, i149_12, i149_13, i149_14, i149_16, i149_19, i149_22, i149_23, i149_24, i149_26, i149_29, i149_32, i149_34, i149_35, i149_37, i149_40, i149_43, i149_45, i149_46, i149_47, i149_50, i149_51, i149_52, i149_54, i149_57, i149_59, i149_60, i149_61, i149_64, i149_65, i149_66, i149_68, i149_69, i149_72, i149_74, i149_76, i149_77, i149_78, i149_79, i149_80, i149_83, i149_85, i149_87, i149_88, i149_89, i149_90, i149_91, i149_94, i149_96, i149_98, i149_99, i149_100, i149_101, i149_102, i149_105, i149_107, i149_109, i149_110, i149_112, i149_113, i149_114, i149_118, i149_119, i149_122, i149_123, i149_126, i149_128, i149_129, i149_131, i149_132, i149_133, i149_135, i149_136, i149_137, i149_138, i149_141, i149_144, i149_145, i149_148, i149_149, i149_150, i149_151, i149_152, i149_153, i149_154, i149_155, i149_158, i149_160, i149_161, i149_162, i149_164, ix_pv_s, ix_pi_s, zpn, ix_po_s, ix_po_n, ix_ph_s, ix_bk_v, ix_bk_n, zcv, zcv_ne, ↓reduceIte, Nat.reduceEqDiff, zn_m1, zd_lt_p, zd_lt_n, zd_le_p, zd_le_n, zd_eq_p, zd_eq_n, zd_0_p, zd_0_n, zd_0lt_p, zd_0lt_n, zd_le0_p, zd_le0_n, zn_lt0, zn_le0, zn_add, zn_mul, zn_sub, zm_lt, zm_le, zm_eq, zb_1, zb_0, not_true_eq_false, not_false_eq_true, mo_c, mo_g0, mo_s0, mo_g1, mo_g2, mo_g3, mo_s3, mo_g4, mo_s4, mo_g5, mo_s5, mo_g6, mo_s6, mo_g7, mo_s7, mo_g8, mo_s8, mo_g9, mo_g10, mo_g11, mo_g12, mo_g13, mo_s13, mo_g14, mo_s14, mo_g15, mo_s15, mo_g16, mo_g17, mo_s17, mo_g18, mo_s18, mo_g19, mo_g20, mo_s20, mo_g21, mo_s21, mo_g22, mo_s22, mo_g23, mo_s23, ra_25, wa_25, al_25, ra_68, wa_68, al_68, ra_69, wa_69, al_69, ra_70, wa_70, al_70, ra_71, wa_71, al_71, ra_72, wa_72, al_72, ra_73, wa_73, al_73, ra_74, wa_74, al_74, ra_75, wa_75, al_75, mo_in, hin1, and_self, hin2, hin3, hin4, e68, e0]
  obtain ⟨kd, _, hk6, rfl⟩ := in_nat hin1 (by decide) (by decide)
  obtain ⟨v, _, hv9, rfl⟩ := in_nat hin2 (by decide) (by decide)
  obtain ⟨hd, _, hd9, rfl⟩ := in_nat hin3 (by decide) (by decide)
  obtain ⟨pl, _, pl9, rfl⟩ := in_nat hin4 (by decide) (by decide)
  obtain ⟨t, ht⟩ : ∃ t, N 0 = t := ⟨_, rfl⟩
  have t6 : t < 6 := by omega
  rw [ht] at kn e0
  obtain ⟨n, hn⟩ : ∃ n, n = 76 + τ.length := ⟨_, rfl⟩
  have hO : spO (52 + 2 * t) := by
    have := sp_O (i := t + 1) (by omega)
    rwa [show 50 + 2 * (t + 1) = 52 + 2 * t by omega] at this
  obtain ⟨s1, s2, s3, s4, s5, s6⟩ := id h.2.1.2.2.2.1
  have k1 := cl_become (X := X) (d := d + 5) (τ := τ) (μ := μ) (a := nI t) (b := nI kd) (c := nI v) (e := nI pl) hO
  obtain ⟨μa, hμa⟩ : ∃ μa, μa = fm_u (fm_u (fm_u (fm_u (fm_u μ (52 + 2 * t) 3 (nI t)) (52 + 2 * t) 4 (nI kd)) (52 + 2 * t) 5 (nI v)) (52 + 2 * t) 6 (nI pl)) (52 + 2 * t) 1 (nI 0) := ⟨_, rfl⟩
  rw [← hμa] at k1
  have ra : ∀ r, r ≠ 52 + 2 * t → μa r = μ r := fun r hr => by rw [hμa, fm_un hr, fm_un hr, fm_un hr, fm_un hr, fm_un hr]
  have ka4 : μa (52 + 2 * t) 4 = nI kd := by rw [hμa, fm_uk (by decide), fm_uk (by decide), fm_uk (by decide), fm_us]
  have k2 := t_planted (X := X) (d := d + 1) (τ := τ) (μ := μa) (x := nI hd) t6 ka4 hk6
  obtain ⟨⟨rest, nO⟩, nTo⟩ := new_tr (τ := τ) (k := kd) (t := t) hk6
  rw [← hn] at k2 nO nTo
  obtain ⟨τ', hτ'⟩ : ∃ τ', τ' = τ ++ tde kd t n := ⟨_, rfl⟩
  rw [← hτ'] at k2 nO nTo
  have rb : ∀ r, r < n → tme μa n (nI hd) r = μa r := fun r hr => by
    unfold tme
    rw [fm_rn (by omega), fm_rn (by omega), fm_rn (by omega)]
  have kc' : ix_okst 2 (kc kd) = true := by
    rcases (by omega : kd = 0 ∨ kd = 1 ∨ kd = 2 ∨ kd = 3 ∨ kd = 4 ∨ kd = 5 ∨ kd = 6) with rfl | rfl | rfl | rfl | rfl | rfl | rfl <;> rfl
  have k3 := wq_22 (τ := τ') (μ := tme μa n (nI hd)) (k := t) (tr_c nO) kc' t6 (by omega)
  obtain ⟨μb, hμb⟩ : ∃ μb, μb = fm_u (tme μa n (nI hd)) 22 t (nI n) := ⟨_, rfl⟩
  rw [← hμb] at k3
  have nbb : nbS μb := by
    unfold nbS
    rw [hμb, fm_un (by decide), rb 1 (by omega), ra 1 (by omega)]
    exact QI_nb h
  have k4 := cl_setNumber (X := X) (d := d + 4) (τ := τ') (μ := μb) (k := 4) (x := nI (t + 1)) nbb (by decide)
  obtain ⟨μ1, hμ1⟩ : ∃ μ1, μ1 = fm_u μb 2 4 (nI (t + 1)) := ⟨_, rfl⟩
  rw [← hμ1] at k4
  have r23 : μ 23 t = nI (52 + 2 * t) := (s1 t t6).1
  have row1 : ∀ r, r < n → r ≠ 2 → r ≠ 22 → r ≠ 52 + 2 * t → μ1 r = μ r := fun r h1 h2 h3 h4 => by rw [hμ1, fm_un h2, hμb, fm_un h3, rb r h1, ra r h4]
  have f68 : μ1 68 = S := by rw [row1 68 (by omega) (by decide) (by decide) (by omega), e68]
  -- the model
  obtain ⟨μc, hμc⟩ : ∃ μc, μc = fm_u (fm_u (fm_u (fm_u μ1 68 (11 + t) (nI kd)) 68 (17 + t) (nI v)) 68 (23 + t) (nI hd)) 68 (29 + t) (nI pl) := ⟨_, rfl⟩
  obtain ⟨x6, μd, a5, b5, c5, d5⟩ := mo_trL (X := X) (d := d + 6) (τ := τ') (y1 := some (.int (nI kd))) (y2 := some (.int (nI v))) (y3 := some (.int (nI hd))) (y4 := some (.int (nI pl))) t6 4 0 μc rfl
  have rc : μc 68 = upd (upd (upd (upd S (11 + t) (nI kd)) (17 + t) (nI v)) (23 + t) (nI hd)) (29 + t) (nI pl) := by rw [hμc, fm_uu, fm_uu, fm_uu, fm_uu, f68]
  have d0 : μd 68 0 = nI t := by rw [c5 0 (by omega), rc, pk_un (by omega), pk_un (by omega), pk_un (by omega), pk_un (by omega)]; exact e0
  obtain ⟨μ2, hμ2⟩ : ∃ μ2, μ2 = fm_u (fm_u μd 68 0 (nI (t + 1))) 73 t (nI 0) := ⟨_, rfl⟩
  obtain ⟨S', hS'⟩ : ∃ S', S' = μ2 68 := ⟨_, rfl⟩
  have vS : ∀ k, k ≠ 0 → (k < 35 + 4 * t ∨ 39 + 4 * t ≤ k) → S' k = (upd (upd (upd (upd S (11 + t) (nI kd)) (17 + t) (nI v)) (23 + t) (nI hd)) (29 + t) (nI pl)) k := fun k h1 h2 => by
    rw [hS', hμ2, fm_un (by decide), fm_uk h1, c5 k (by omega), rc]
  have w0 : S' 0 = nI (t + 1) := by rw [hS', hμ2, fm_un (by decide), fm_us]
  have w11 : S' (11 + t) = nI kd := by rw [vS _ (by omega) (by omega), pk_un (by omega), pk_un (by omega), pk_un (by omega), pk_us]
  have w17 : S' (17 + t) = nI v := by rw [vS _ (by omega) (by omega), pk_un (by omega), pk_un (by omega), pk_us]
  have w23 : S' (23 + t) = nI hd := by rw [vS _ (by omega) (by omega), pk_un (by omega), pk_us]
  have w29 : S' (29 + t) = nI pl := by rw [vS _ (by omega) (by omega), pk_us]
  have w35 : ∀ j, j < 4 → S' (35 + 4 * t + j) = nI 0 := fun j hj => by rw [hS', hμ2, fm_un (by decide), fm_uk (by omega)]; exact d5 j (by omega) hj
  have wS : ∀ k, k ≠ 0 → k ≠ 11 + t → k ≠ 17 + t → k ≠ 23 + t → k ≠ 29 + t → (k < 35 + 4 * t ∨ 39 + 4 * t ≤ k) → S' k = S k := fun k h0 h1 h2 h3 h4 h5 => by rw [vS k h0 h5, pk_un h4, pk_un h3, pk_un h2, pk_un h1]
  have hiS : ∀ k, 59 ≤ k → S' k = S k := fun k hk => wS k (by omega) (by omega) (by omega) (by omega) (by omega) (by omega)
  have row2 : ∀ r, r ≠ 68 → r ≠ 73 → μ2 r = μ1 r := fun r h1 h2 => by rw [hμ2, fm_un h2, fm_un h1, b5 r h1, hμc, fm_un h1, fm_un h1, fm_un h1, fm_un h1]
  have row : ∀ r, r < n → r ≠ 2 → r ≠ 22 → r ≠ 52 + 2 * t → r ≠ 68 → r ≠ 73 → μ2 r = μ r := fun r h1 h2 h3 h4 h5 h6 => by rw [row2 r h5 h6, row1 r h1 h2 h3 h4]
  have v2 : ∀ k, k ≠ 4 → μ2 2 k = μ 2 k := fun k hk => by rw [row2 2 (by decide) (by decide), hμ1, fm_uk hk, hμb, fm_un (by decide), rb 2 (by omega), ra 2 (by omega)]
  have v24 : μ2 2 4 = nI (t + 1) := by rw [row2 2 (by decide) (by decide), hμ1, fm_us]
  have v22 : ∀ k, k ≠ t → μ2 22 k = μ 22 k := fun k hk => by rw [row2 22 (by decide) (by decide), hμ1, fm_un (by decide), hμb, fm_uk hk, rb 22 (by omega), ra 22 (by omega)]
  have v22t : μ2 22 t = nI n := by rw [row2 22 (by decide) (by decide), hμ1, fm_un (by decide), hμb, fm_us]
  have vsp : μ2 (52 + 2 * t) = μa (52 + 2 * t) := by rw [row2 _ (by omega) (by omega), hμ1, fm_un (by omega), hμb, fm_un (by omega), rb _ (by omega)]
  have p1 : μ2 (52 + 2 * t) 1 = nI 0 := by rw [vsp, hμa, fm_us]
  have p2 : μ2 (52 + 2 * t) 2 = nI (26 + 4 * N 2) := by rw [vsp, hμa, fm_uk (by decide), fm_uk (by decide), fm_uk (by decide), fm_uk (by decide), fm_uk (by decide)]; exact (s1 t t6).2.2.1
  have p3 : μ2 (52 + 2 * t) 3 = nI t := by rw [vsp, hμa, fm_uk (by decide), fm_uk (by decide), fm_uk (by decide), fm_uk (by decide), fm_us]
  have p4 : μ2 (52 + 2 * t) 4 = nI kd := by rw [vsp]; exact ka4
  have p5 : μ2 (52 + 2 * t) 5 = nI v := by rw [vsp, hμa, fm_uk (by decide), fm_uk (by decide), fm_us]
  have p6 : μ2 (52 + 2 * t) 6 = nI pl := by rw [vsp, hμa, fm_uk (by decide), fm_us]
  have vn : ∀ r, n ≤ r → μ2 r = tme μa n (nI hd) r := fun r hr => by rw [row2 r (by omega) (by omega), hμ1, fm_un (by omega), hμb, fm_un (by omega)]
  have vn1 : μ2 n 1 = nI hd := by
    rw [vn n (Nat.le_refl _)]
    unfold tme
    rw [fm_rn (by omega), fm_rn (by omega), fm_rs]
    rfl
  have vnr : ∀ k, μ2 (n + 1) k = nI 0 := fun k => by
    rw [vn (n + 1) (by omega)]
    unfold tme
    rw [fm_rn (by omega), fm_rs]
    rfl
  have tq : ∀ u, u < t → Q u < n := fun u hu => by
    obtain ⟨cc, rr, hOu⟩ := QI_trO h (show u < N 0 by omega)
    have := (List.getElem?_eq_some_iff.mp hOu.1).1
    rw [List.length_append, fm_T_len] at this
    omega
  have tq2 : ∀ u, u < t → toO τ (Q u) u → Q u + 2 < n := fun u hu ho => by
    have := (List.getElem?_eq_some_iff.mp ho.2.2).1
    rw [List.length_append, fm_T_len] at this
    omega
  have tq76 : ∀ u, u < t → 76 ≤ Q u := fun u hu => by
    obtain ⟨cc, rr, hOu⟩ := QI_trO h (show u < N 0 by omega)
    exact hOu.2.1
  obtain ⟨⟨i1, i2, i3, i4, i5, i6, i7, i8, i9, i10⟩, ⟨j1, j2, j3, j4, j5⟩, hc, hm⟩ := id h
  obtain ⟨b0, b1, b2, b3, b4, b5', b6, b8, b9, b10⟩ := id i2
  have hok : ∀ k b, 59 ≤ k → okN S k b → okN S' k b := fun k b hk ho => by
    obtain ⟨m, m1, m2⟩ := ho
    exact ⟨m, m1, (hiS k hk).trans m2⟩
  have rnE : ∀ (cs : List Nat) (u : Nat), u < t ∨ u = 6 → rn S' cs u = rn S cs u := fun cs u hu => by
    funext mm
    unfold rn
    rcases hu with hu | hu
    · rw [wS (11 + u) (by omega) (by omega) (by omega) (by omega) (by omega) (by omega), wS (17 + u) (by omega) (by omega) (by omega) (by omega) (by omega) (by omega)]
    · simp only [if_pos hu]
  refine ⟨nI t, μ1, μ2, τ', S', fun k => if k = 0 then t + 1 else N k, C, fun u => if u = t then n else Q u, ?_, ?_, ⟨⟨?_, ⟨?_, b1, b2, b3, b4, b5', b6, b8, b9, b10⟩, ?_, ?_, ?_, ?_, ?_, ?_, ?_, ?_⟩, ⟨⟨?_, ?_, ?_, ?_, ?_, ?_⟩, ?_, ?_, ?_, ?_⟩, ?_, ?_⟩, Or.inr ⟨kd, t, hk6, by rw [hτ', hn]⟩⟩
  · rw [hμ1] at k4 ⊢
    simp (disch := first | assumption | omega | decide) only [e71, i71_0, i71_1, i71_2, i71_4, i71_7, i71_10, i71_11, i71_12, i71_13, i71_14, i71_16, i71_19, i71_22, i71_23, i71_24, i71_26, i71_29, i71_32, i71_34, i71_35, i71_37, i71_38, i71_40, i71_43, i71_46, i71_48, i71_49, i71_50, i71_51, i71_54, i71_56, i71_58, i71_59, i71_60, i71_63, i71_64, i71_65, i71_68, i71_69, i71_72, i71_73, i71_74, i71_77, i71_80, i71_82, i71_83, i71_84, i71_87, i71_89, i71_90, i71_90n, i71_92, i71_92n, i71_94n, i71_94, i71_97, i71_99, i71_100, i71_100n, i71_102, i71_104, i71_105, i71_106, i71_108, i71_111, i71_112, i71_115, i71_117, i71_117n, i71_119, i71_120, i71_123, i71_124, i71_125, i71_126, i71_128, i71_129, i71_130, i71_133, i71_134, i71_136, ix_pv_s, ix_pi_s, zpn, ix_po_s, ix_po_n, ix_ph_s, ix_bk_v, ix_bk_n, zcv, zcv_ne, ↓reduceIte, Nat.reduceEqDiff, zn_m1, zd_lt_p, zd_lt_n, zd_le_p, zd_le_n, zd_eq_p, zd_eq_n, zd_0_p, zd_0_n, zd_0lt_p, zd_0lt_n, zd_le0_p, zd_le0_n, zn_lt0, zn_le0, zn_add, zn_mul, zn_sub, zm_lt, zm_le, zm_eq, zb_1, zb_0, not_true_eq_false, not_false_eq_true, t0_c, t0_g0, t0_g1, t0_g2, t0_g3, t0_g4, t0_g5, t0_g6, t0_g7, t0_g8, t0_g9, t0_g10, t0_s11, t0_g12, t0_s12, t0_g13, t0_g14, t0_g15, t0_g16, t0_c, rw_c, rq_22, rq_23, rq_24, al_22, al_23, al_24, cl_within, hin1, and_self, hin2, hin3, hin4, kn, Nat.reduceSub, r23, fm_eq, sp_c, k1, k2, k3, k4]
  · refine Eq.trans ?_ (b := ix_sem X (d + 6) 149 144 [some (.ref 67), some (.int (nI kd)), some (.int (nI v)), some (.int (nI hd)), some (.int (nI pl)), some (.int (nI t)), x6] [] (fm_W μd τ')) ?_
    · refine Eq.trans ?_ a5
      rw [hμc]
      simp (disch := first | assumption | omega | decide) only [e149, i149_0, i149_1, i149_2, i149_4, i149_7, i149_10, i149_11, i149_12, i149_13, i149_14, i149_16, i149_19, i149_22, i149_23, i149_24, i149_26, i149_29, i149_32, i149_34, i149_35, i149_37, i149_40, i149_43, i149_45, i149_46, i149_47, i149_50, i149_51, i149_52, i149_54, i149_57, i149_59, i149_60, i149_61, i149_64, i149_65, i149_66, i149_68, i149_69, i149_72, i149_74, i149_76, i149_77, i149_78, i149_79, i149_80, i149_83, i149_85, i149_87, i149_88, i149_89, i149_90, i149_91, i149_94, i149_96, i149_98, i149_99, i149_100, i149_101, i149_102, i149_105, i149_107, i149_109, i149_110, i149_112, i149_113, i149_114, i149_118, i149_119, i149_122, i149_123, i149_126, i149_128, i149_129, i149_131, i149_132, i149_133, i149_135, i149_136, i149_137, i149_138, i149_141, i149_144, i149_145, i149_148, i149_149, i149_150, i149_151, i149_152, i149_153, i149_154, i149_155, i149_158, i149_160, i149_161, i149_162, i149_164, ix_pv_s, ix_pi_s, zpn, ix_po_s, ix_po_n, ix_ph_s, ix_bk_v, ix_bk_n, zcv, zcv_ne, ↓reduceIte, Nat.reduceEqDiff, zn_m1, zd_lt_p, zd_lt_n, zd_le_p, zd_le_n, zd_eq_p, zd_eq_n, zd_0_p, zd_0_n, zd_0lt_p, zd_0lt_n, zd_le0_p, zd_le0_n, zn_lt0, zn_le0, zn_add, zn_mul, zn_sub, zm_lt, zm_le, zm_eq, zb_1, zb_0, not_true_eq_false, not_false_eq_true, mo_c, mo_g0, mo_s0, mo_g1, mo_g2, mo_g3, mo_s3, mo_g4, mo_s4, mo_g5, mo_s5, mo_g6, mo_s6, mo_g7, mo_s7, mo_g8, mo_s8, mo_g9, mo_g10, mo_g11, mo_g12, mo_g13, mo_s13, mo_g14, mo_s14, mo_g15, mo_s15, mo_g16, mo_g17, mo_s17, mo_g18, mo_s18, mo_g19, mo_g20, mo_s20, mo_g21, mo_s21, mo_g22, mo_s22, mo_g23, mo_s23, ra_25, wa_25, al_25, ra_68, wa_68, al_68, ra_69, wa_69, al_69, ra_70, wa_70, al_70, ra_71, wa_71, al_71, ra_72, wa_72, al_72, ra_73, wa_73, al_73, ra_74, wa_74, al_74, ra_75, wa_75, al_75, mo_in, hin1, and_self, hin2, hin3, hin4, f68, e0]
    · rw [hμ2]
      simp (disch := first | assumption | omega | decide) only [i149_0, i149_1, i149_2, i149_4, i149_7, i149_10, i149_11, i149_12, i149_13, i149_14, i149_16, i149_19, i149_22, i149_23, i149_24, i149_26, i149_29, i149_32, i149_34, i149_35, i149_37, i149_40, i149_43, i149_45, i149_46, i149_47, i149_50, i149_51, i149_52, i149_54, i149_57, i149_59, i149_60, i149_61, i149_64, i149_65, i149_66, i149_68, i149_69, i149_72, i149_74, i149_76, i149_77, i149_78, i149_79, i149_80, i149_83, i149_85, i149_87, i149_88, i149_89, i149_90, i149_91, i149_94, i149_96, i149_98, i149_99, i149_100, i149_101, i149_102, i149_105, i149_107, i149_109, i149_110, i149_112, i149_113, i149_114, i149_118, i149_119, i149_122, i149_123, i149_126, i149_128, i149_129, i149_131, i149_132, i149_133, i149_135, i149_136, i149_137, i149_138, i149_141, i149_144, i149_145, i149_148, i149_149, i149_150, i149_151, i149_152, i149_153, i149_154, i149_155, i149_158, i149_160, i149_161, i149_162, i149_164, ix_pv_s, ix_pi_s, zpn, ix_po_s, ix_po_n, ix_ph_s, ix_bk_v, ix_bk_n, zcv, zcv_ne, ↓reduceIte, Nat.reduceEqDiff, zn_m1, zd_lt_p, zd_lt_n, zd_le_p, zd_le_n, zd_eq_p, zd_eq_n, zd_0_p, zd_0_n, zd_0lt_p, zd_0lt_n, zd_le0_p, zd_le0_n, zn_lt0, zn_le0, zn_add, zn_mul, zn_sub, zm_lt, zm_le, zm_eq, zb_1, zb_0, not_true_eq_false, not_false_eq_true, mo_c, mo_g0, mo_s0, mo_g1, mo_g2, mo_g3, mo_s3, mo_g4, mo_s4, mo_g5, mo_s5, mo_g6, mo_s6, mo_g7, mo_s7, mo_g8, mo_s8, mo_g9, mo_g10, mo_g11, mo_g12, mo_g13, mo_s13, mo_g14, mo_s14, mo_g15, mo_s15, mo_g16, mo_g17, mo_s17, mo_g18, mo_s18, mo_g19, mo_g20, mo_s20, mo_g21, mo_s21, mo_g22, mo_s22, mo_g23, mo_s23, ra_25, wa_25, al_25, ra_68, wa_68, al_68, ra_69, wa_69, al_69, ra_70, wa_70, al_70, ra_71, wa_71, al_71, ra_72, wa_72, al_72, ra_73, wa_73, al_73, ra_74, wa_74, al_74, ra_75, wa_75, al_75, d0]
  · intro k k1 k2
    by_cases q : k = 0
    · subst q
      exact w0
    · rw [wS k q (by omega) (by omega) (by omega) (by omega) (by omega), i1 k k1 k2]
      exact congrArg nI (if_neg q).symm
  · show t + 1 ≤ 6
    omega
  · rw [wS 7 (by decide) (by omega) (by omega) (by omega) (by omega) (by omega)]
    exact i3
  · intro u hu
    have hu' : u < t + 1 := hu
    by_cases q : u = t
    · subst q
      exact ⟨⟨kd, hk6, w11⟩, ⟨v, hv9, w17⟩, ⟨hd, hd9, w23⟩, ⟨pl, pl9, w29⟩⟩
    · obtain ⟨⟨m1, y1, z1⟩, ⟨m2, y2, z2⟩, ⟨m3, y3, z3⟩, ⟨m4, y4, z4⟩⟩ := i4 u (by omega)
      exact ⟨⟨m1, y1, (wS _ (by omega) (by omega) (by omega) (by omega) (by omega) (by omega)).trans z1⟩, ⟨m2, y2, (wS _ (by omega) (by omega) (by omega) (by omega) (by omega) (by omega)).trans z2⟩, ⟨m3, y3, (wS _ (by omega) (by omega) (by omega) (by omega) (by omega) (by omega)).trans z3⟩, ⟨m4, y4, (wS _ (by omega) (by omega) (by omega) (by omega) (by omega) (by omega)).trans z4⟩⟩
  · intro i hi
    obtain ⟨⟨m, y1, y2, y3⟩, y4⟩ := i5 i hi
    exact ⟨⟨m, y1, y2, (hiS _ (by omega)).trans y3⟩, hok _ _ (by omega) y4⟩
  · intro i hi
    obtain ⟨y1, y2⟩ := i6 i hi
    rw [hiS (69 + i) (by omega)]
    refine ⟨?_, hok _ _ (by omega) y2⟩
    rcases y1 with y1 | ⟨u, y1, y3⟩
    · exact Or.inl y1
    · exact Or.inr ⟨u, by show u < t + 1; omega, y3⟩
  · intro i hi
    obtain ⟨⟨u, y1, y3⟩, y2⟩ := i7 i hi
    rw [hiS (77 + i) (by omega)]
    exact ⟨⟨u, by show u < t + 1; omega, y3⟩, hok _ _ (by omega) y2⟩
  · intro i hi
    obtain ⟨⟨u, y1, y3⟩, y2, y4⟩ := i8 i hi
    rw [hiS (85 + i) (by omega)]
    exact ⟨⟨u, by show u < t + 1; omega, y3⟩, hok _ _ (by omega) y2, hok _ _ (by omega) y4⟩
  · intro a ha
    obtain ⟨c1, c2, c3, c4, c5, c6⟩ := i9 a ha
    exact ⟨(hiS _ (by omega)).trans c1, c2, fun i hi => (hiS _ (by omega)).trans (c3 i hi), c4, hok _ _ (by omega) c5, hok _ _ (by omega) c6⟩
  · intro u hu k hk
    have hu' : u < t + 1 := hu
    by_cases q : u = t
    · subst q
      exact ⟨0, by decide, w35 k hk⟩
    · obtain ⟨m, y1, y2⟩ := i10 u (by omega) k hk
      exact ⟨m, y1, (wS _ (by omega) (by omega) (by omega) (by omega) (by omega) (by omega)).trans y2⟩
  · obtain ⟨z, z0, z1, z2, z3, z4⟩ := j1.1
    unfold rwI at z ⊢
    rw [row 1 (by omega) (by omega) (by omega) (by omega) (by omega) (by omega), v2 0 (by decide), v2 1 (by decide), v2 2 (by decide), v2 3 (by decide), v24, w0, wS 8 (by omega) (by omega) (by omega) (by omega) (by omega) (by omega), wS 9 (by omega) (by omega) (by omega) (by omega) (by omega) (by omega), wS 10 (by omega) (by omega) (by omega) (by omega) (by omega) (by omega), wS 2 (by omega) (by omega) (by omega) (by omega) (by omega) (by omega)]
    exact ⟨z, z0, z1, z2, z3, rfl⟩
  · obtain ⟨z, z0⟩ := j1.2.1
    unfold rwI at z ⊢
    rw [row 4 (by omega) (by omega) (by omega) (by omega) (by omega) (by omega), row 5 (by omega) (by omega) (by omega) (by omega) (by omega) (by omega), wS 6 (by omega) (by omega) (by omega) (by omega) (by omega) (by omega)]
    exact ⟨z, fun i hi => by rw [hiS _ (by omega)]; exact z0 i hi⟩
  · obtain ⟨z, z0⟩ := j1.2.2.1
    unfold rwI at z ⊢
    rw [row 7 (by omega) (by omega) (by omega) (by omega) (by omega) (by omega), row 8 (by omega) (by omega) (by omega) (by omega) (by omega) (by omega), wS 1 (by omega) (by omega) (by omega) (by omega) (by omega) (by omega)]
    exact ⟨z, fun i hi => by rw [hiS (59 + i) (by omega), hiS (64 + i) (by omega)]; exact z0 i hi⟩
  · obtain ⟨z, z0⟩ := j1.2.2.2.1
    unfold rwI at z ⊢
    rw [row 10 (by omega) (by omega) (by omega) (by omega) (by omega) (by omega), row 11 (by omega) (by omega) (by omega) (by omega) (by omega) (by omega), wS 3 (by omega) (by omega) (by omega) (by omega) (by omega) (by omega)]
    exact ⟨z, fun i hi => by rw [hiS (69 + i) (by omega), hiS (73 + i) (by omega)]; exact z0 i hi⟩
  · obtain ⟨z, z0⟩ := j1.2.2.2.2.1
    unfold rwI at z ⊢
    rw [row 13 (by omega) (by omega) (by omega) (by omega) (by omega) (by omega), row 14 (by omega) (by omega) (by omega) (by omega) (by omega) (by omega), wS 4 (by omega) (by omega) (by omega) (by omega) (by omega) (by omega)]
    exact ⟨z, fun i hi => by rw [hiS (77 + i) (by omega), hiS (81 + i) (by omega)]; exact z0 i hi⟩
  · obtain ⟨z, z0⟩ := j1.2.2.2.2.2
    unfold rwI at z ⊢
    rw [row 16 (by omega) (by omega) (by omega) (by omega) (by omega) (by omega), row 17 (by omega) (by omega) (by omega) (by omega) (by omega) (by omega), wS 5 (by omega) (by omega) (by omega) (by omega) (by omega) (by omega)]
    exact ⟨z, fun i hi => by rw [hiS (85 + i) (by omega), hiS (93 + i) (by omega), hiS (101 + i) (by omega)]; exact z0 i hi⟩
  · unfold boI rwI at j2 ⊢
    rw [row 19 (by omega) (by omega) (by omega) (by omega) (by omega) (by omega), row 20 (by omega) (by omega) (by omega) (by omega) (by omega) (by omega), row 67 (by omega) (by omega) (by omega) (by omega) (by omega) (by omega), row 75 (by omega) (by omega) (by omega) (by omega) (by omega) (by omega)]
    exact j2
  · refine ⟨fun u hu => ?_, fun u u' h1 h2 => ?_⟩
    · have hu' : u < t + 1 := hu
      by_cases q : u = t
      · subst q
        simp only [if_true]
        exact ⟨v22t, by omega, ⟨kd, w11, hk6, ⟨rest, nO⟩, vn1.trans w23.symm, fun h6 => ⟨nTo h6, fun k hk => (vnr k).trans (w35 k hk).symm⟩⟩, p6.trans w29.symm⟩
      · obtain ⟨y1, y2, ⟨kind, c1, c2, ⟨rr, c3⟩, c4, c5⟩, y3⟩ := j3.1 u (by omega)
        have q1 := tq u (by omega)
        have q76 := c3.2.1
        simp only [if_neg q]
        refine ⟨(v22 u q).trans y1, y2, ⟨kind, (wS _ (by omega) (by omega) (by omega) (by omega) (by omega) (by omega)).trans c1, c2, ⟨rr, by rw [hτ']; exact trO_ext c3⟩, ?_, fun h6 => ?_⟩, ?_⟩
        · rw [row _ q1 (by omega) (by omega) (by omega) (by omega) (by omega), wS _ (by omega) (by omega) (by omega) (by omega) (by omega) (by omega)]
          exact c4
        · obtain ⟨o1, o2⟩ := c5 h6
          have q2 := tq2 u (by omega) o1
          refine ⟨by rw [hτ']; exact toO_ext o1, fun k hk => ?_⟩
          rw [row _ (by omega) (by omega) (by omega) (by omega) (by omega) (by omega), wS _ (by omega) (by omega) (by omega) (by omega) (by omega) (by omega)]
          exact o2 k hk
        · rw [row _ (by omega) (by omega) (by omega) (by omega) (by omega) (by omega), wS _ (by omega) (by omega) (by omega) (by omega) (by omega) (by omega)]
          exact y3
    · have h2' : u' < t + 1 := h2
      have e1 : u ≠ t := by omega
      simp only [if_neg e1]
      by_cases q : u' = t
      · rw [if_pos q]
        exact tq u (by omega)
      · rw [if_neg q]
        exact j3.2 u u' h1 (by omega)
  · refine ⟨fun i hi => ?_, by rw [row 0 (by omega) (by omega) (by omega) (by omega) (by omega) (by omega)]; exact s2, pr_cs_of s3 (row 26 (by omega) (by omega) (by omega) (by omega) (by omega) (by omega)) (row 27 (by omega) (by omega) (by omega) (by omega) (by omega) (by omega)), by rw [row 26 (by omega) (by omega) (by omega) (by omega) (by omega) (by omega)]; exact s4, by rw [row 26 (by omega) (by omega) (by omega) (by omega) (by omega) (by omega)]; exact s5, fun x hx => ?_⟩
    · obtain ⟨y1, y2, y3, y4⟩ := s1 i hi
      rw [row 23 (by omega) (by omega) (by omega) (by omega) (by omega) (by omega), row 24 (by omega) (by omega) (by omega) (by omega) (by omega) (by omega), row (53 + 2 * i) (by omega) (by omega) (by omega) (by omega) (by omega) (by omega)]
      refine ⟨y1, y2, ?_, y4⟩
      by_cases q : i = t
      · subst q
        exact p2
      · rw [row (52 + 2 * i) (by omega) (by omega) (by omega) (by omega) (by omega) (by omega)]
        exact y3
    · have hx' : x < N 2 := hx
      obtain ⟨y1, y2, y3⟩ := s6 x hx'
      have r1 := row (30 + 4 * x) (by omega) (by omega) (by omega) (by omega) (by omega) (by omega)
      refine ⟨pr_cs_of y1 r1 (row _ (by omega) (by omega) (by omega) (by omega) (by omega) (by omega)), ?_, ?_⟩
      · rw [r1, hiS _ (by omega)]; exact y2
      · rw [r1, hiS _ (by omega)]; exact y3
  · unfold imI at j5 ⊢
    rw [row 0 (by omega) (by omega) (by omega) (by omega) (by omega) (by omega), row 67 (by omega) (by omega) (by omega) (by omega) (by omega) (by omega)]
    rcases j5 with j5 | ⟨y1, y2, I, M, hk'⟩
    · exact Or.inl j5
    · refine Or.inr ⟨y1, y2, I, M, ?_⟩
      unfold kpI at hk' ⊢
      obtain ⟨k1, k2, k3, k4, k5, k6, k7, k8, k9, k10, k11, k12⟩ := hk'
      rw [row 69 (by omega) (by omega) (by omega) (by omega) (by omega) (by omega), row 1 (by omega) (by omega) (by omega) (by omega) (by omega) (by omega), row 3 (by omega) (by omega) (by omega) (by omega) (by omega) (by omega), row 4 (by omega) (by omega) (by omega) (by omega) (by omega) (by omega), row 6 (by omega) (by omega) (by omega) (by omega) (by omega) (by omega), row 7 (by omega) (by omega) (by omega) (by omega) (by omega) (by omega), row 9 (by omega) (by omega) (by omega) (by omega) (by omega) (by omega), row 10 (by omega) (by omega) (by omega) (by omega) (by omega) (by omega), row 12 (by omega) (by omega) (by omega) (by omega) (by omega) (by omega), row 13 (by omega) (by omega) (by omega) (by omega) (by omega) (by omega), row 15 (by omega) (by omega) (by omega) (by omega) (by omega) (by omega), row 16 (by omega) (by omega) (by omega) (by omega) (by omega) (by omega), row 18 (by omega) (by omega) (by omega) (by omega) (by omega) (by omega)]
      refine ⟨k1, by show M 0 ≤ t + 1; omega, k3, k4, k5, k6, k7, k8, k9, k10, fun u hu => ?_, fun a ha => ?_⟩
      · obtain ⟨z1, z2, z3, z4, z5⟩ := k11 u hu
        have hut : u < t := by omega
        have q1 := tq u hut
        have q76 := tq76 u hut
        have e1 : u ≠ t := by omega
        simp only [if_neg e1]
        rw [wS (11 + u) (by omega) (by omega) (by omega) (by omega) (by omega) (by omega), wS (17 + u) (by omega) (by omega) (by omega) (by omega) (by omega) (by omega), wS (29 + u) (by omega) (by omega) (by omega) (by omega) (by omega) (by omega), row (Q u) q1 (by omega) (by omega) (by omega) (by omega) (by omega)]
        refine ⟨z1, z2, z3, z4, fun h6 k hk => ?_⟩
        have q2 := tq2 u hut (QI_told h (by omega) h6).1
        rw [row (Q u + 2) q2 (by omega) (by omega) (by omega) (by omega) (by omega)]
        exact z5 h6 k hk
      · obtain ⟨z1, z2⟩ := k12 a ha
        rw [hiS (209 + a) (by omega), hiS (214 + a) (by omega)]
        exact ⟨z1, z2⟩
  · obtain ⟨c1, c2, c3⟩ := hc
    have p1' := pk_cases c2.1
    have hpc : pr_cs μ2 (26 + 4 * N 2) (csN N C) := pr_cs_of c2 (row _ (by omega) (by omega) (by omega) (by omega) (by omega) (by omega)) (row _ (by omega) (by omega) (by omega) (by omega) (by omega) (by omega))
    refine ⟨by show t + 1 ≤ 6; omega, hpc, fun u hu => ?_⟩
    have hu' : u < t + 1 ∨ u = 6 := hu
    by_cases q : u = t
    · subst q
      have e6 : ¬ u = 6 := by omega
      unfold spK
      rw [spp_t t6, if_neg e6, if_neg e6, if_neg e6]
      refine ⟨p2, p3, p4.trans w11.symm, p5.trans w17.symm, 0, by decide, p1, fun k hk => ?_⟩
      have hk0 : k = 0 := by omega
      subst hk0
      rw [show 52 + 2 * u + 1 = 53 + 2 * u by omega, row (53 + 2 * u) (by omega) (by omega) (by omega) (by omega) (by omega) (by omega)]
      exact (s1 u t6).2.2.2
    · have hsp : spp u ≠ 52 + 2 * t ∧ spp u + 1 ≠ 52 + 2 * t ∧ spp u < 65 ∧ 50 ≤ spp u := by
        unfold spp
        split <;> omega
      have := c3 u (by omega)
      unfold spK at this ⊢
      rw [row (spp u) (by omega) (by omega) (by omega) (by omega) (by omega) (by omega), row (spp u + 1) (by omega) (by omega) (by omega) (by omega) (by omega) (by omega)]
      have e := rnE (csN N C) u (by omega)
      rw [show csN (fun k => if k = 0 then t + 1 else N k) C = csN N C from rfl, e]
      rcases hu' with hu' | hu'
      · rw [wS (11 + u) (by omega) (by omega) (by omega) (by omega) (by omega) (by omega), wS (17 + u) (by omega) (by omega) (by omega) (by omega) (by omega) (by omega)]
        exact this
      · simp only [if_pos hu'] at this ⊢
        exact this
  · obtain ⟨⟨m1, m2, m3⟩, m4⟩ := hm
    refine ⟨⟨by show t + 1 ≤ 6; omega, ?_, fun u hu => ?_⟩, hS'.symm⟩
    · rw [← hS', show csN (fun k => if k = 0 then t + 1 else N k) C = csN N C from rfl]
      rw [m4] at m2
      rcases m2 with ⟨y1, y2⟩ | ⟨a, y1, y2, y3, y4, y5, y6⟩
      · exact Or.inl ⟨(wS 7 (by omega) (by omega) (by omega) (by omega) (by omega) (by omega)).trans y1, y2⟩
      · exact Or.inr ⟨a, y1, (wS 7 (by omega) (by omega) (by omega) (by omega) (by omega) (by omega)).trans y2, (hiS _ (by omega)).trans y3, y4, fun i hi => (hiS _ (by omega)).trans (y5 i hi), y6⟩
    · have hu' : u < t + 1 ∨ u = 6 := hu
      rw [← hS', show csN (fun k => if k = 0 then t + 1 else N k) C = csN N C from rfl]
      have r72 : μ2 72 = μ 72 := row 72 (by omega) (by omega) (by omega) (by omega) (by omega) (by omega)
      have r73 : ∀ k, k ≠ t → μ2 73 k = μ 73 k := fun k hk => by rw [hμ2, fm_uk hk, fm_un (by decide), b5 73 (by decide), hμc, fm_un (by decide), fm_un (by decide), fm_un (by decide), fm_un (by decide), row1 73 (by omega) (by omega) (by omega) (by omega)]
      by_cases q : u = t
      · subst q
        exact ⟨0, by decide, by rw [hμ2, fm_us], fun k hk => absurd hk (by omega)⟩
      · rw [rnE _ u (by omega)]
        have := m3 u (by omega)
        rw [m4] at this
        exact fk_of this (r73 u q) (fun k _ => by rw [r72])
end TT
