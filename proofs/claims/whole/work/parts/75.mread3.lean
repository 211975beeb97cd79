/-! ===== the model reads a test, a part, a clause ===== -/
--need 74.mread2
section MT
variable {X : ix_X} {d e : Nat} {τ : List fm_D} {μ : fm_M} {a n o p : Nat} {T : Nat → Int32} {cs : List Nat}
theorem MW_u {k z : Nat} {v : Int32} (h : MW μ a z) (h4 : k ≠ 4) (h5 : k ≠ 5) (h7 : k ≠ 7) : MW (fm_u μ 67 k v) a z := ⟨by rw [fm_uk h4.symm]; exact h.1, by rw [fm_uk h5.symm]; exact h.2.1, by rw [fm_uk h7.symm]; exact h.2.2⟩
theorem mq_7 {v : Int32} : mq a μ (fm_u μ 67 7 v) := mq_67 (fun q hq => fm_un hq) (fun k b c _ => fm_uk c)
theorem mq_8 {v : Int32} : mq a μ (fm_u μ 67 8 v) := mq_67 (fun q hq => fm_un hq) (fun k b c e => fm_uk e)
theorem m_test (ha : a < 5) (hn : n ≤ 100) (h : MS μ a n T o p cs) (q33 : ¬ sg n T p = nI 33) (q40 : ¬ sg n T p = nI 40) : ∃ μ' : fm_M, ix_call X (d + 5) 145 [.ref 67] (fm_W μ τ) = some (none, fm_W μ' τ) ∧ MR μ' a n T o cs (testS n T p) ∧ mq a μ μ' := by
  have t4 : tl 4 = 5 := by decide
  have t5 : tl 5 = 3 := by decide
  have k1 := m_here (X := X) (d := d + 4) (τ := τ) hn h
  have h7 := h.2.2.2.1
  have hpl := h.2.2.2.2.2.2.2.2
  have k2 : ix_call X (d + 4) 147 [.ref 67, .retAddr 10] (fm_W μ τ) = some (some (.int (idxV 4 (sg n T p) 5 0)), fm_W (if idxV 4 (sg n T p) 5 0 = -1 then μ else fm_u μ 67 5 (nI (p + 1))) τ) := m_among (X := X) (d := d) (τ := τ) (k := 4) (by decide) hn h
  by_cases q2 : idxV 4 (sg n T p) 5 0 = -1
  · rw [if_pos q2, q2] at k2
    have w1 : MW (fm_u (fm_u μ 67 7 (nI 1)) 67 7 (nI 1)) a p := ⟨by rw [fm_uk (by decide), fm_uk (by decide)]; exact h.1, by rw [fm_uk (by decide), fm_uk (by decide)]; exact h.2.1, fm_us⟩
    obtain ⟨μ2, a2, w2, c2⟩ := m_figuresW (X := X) (d := d + 3) (τ := τ) w1
    have k3 := fun x => m_emitsW (X := X) (d := d + 4) (τ := τ) (x := x) w2
    refine ⟨μ2, ?_, ?_, mq_trans mq_7 (mq_trans mq_7 c2)⟩
    · simp (disch := first | assumption | omega | decide) only [e145, i145_0, i145_1, i145_4, i145_7, i145_8, i145_9, i145_12, i145_13, i145_14, i145_16, i145_19, i145_20, i145_22, i145_25, i145_26, i145_27, i145_30, i145_31, i145_34, i145_35, i145_38, i145_39, i145_42, i145_43, i145_44, i145_47, i145_48, i145_49, i145_52, i145_53, i145_54, i145_57, i145_58, i145_61, i145_64, i145_65, i145_68, i145_69, i145_70, i145_73, i145_74, i145_76, i145_79, i145_80, i145_83, i145_84, i145_85, i145_88, i145_91, i145_92, i145_95, i145_96, i145_98, i145_101, i145_102, i145_103, i145_106, i145_107, i145_108, i145_111, i145_112, i145_113, i145_115, i145_118, i145_119, i145_120, i145_121, i145_122, i145_125, i145_126, i145_129, i145_130, i145_133, i145_134, i145_137, i145_140, i145_141, i145_144, i145_145, i145_147, i145_150, i145_151, i145_152, i145_153, i145_156, i145_159, i145_160, i145_161, i145_164, i145_165, i145_168, i145_169, i145_172, i145_173, i145_176, i145_178, i145_179, i145_180, i145_182, i145_183, i145_184, i145_185, i145_187, i145_189, i145_190, i145_191, i145_194, ix_pv_s, ix_pi_s, zpn, ix_po_s, ix_po_n, ix_ph_s, ix_bk_v, ix_bk_n, zcv, zcv_ne, ↓reduceIte, Nat.reduceEqDiff, zn_m1, zd_lt_p, zd_lt_n, zd_le_p, zd_le_n, zd_eq_p, zd_eq_n, zd_0_p, zd_0_n, zd_0lt_p, zd_0lt_n, zd_le0_p, zd_le0_n, zn_lt0, zn_le0, zn_add, zn_mul, zn_sub, zm_lt, zm_le, zm_eq, zb_1, zb_0, not_true_eq_false, not_false_eq_true, mo_c, mo_g0, mo_s0, mo_g1, mo_g2, mo_g3, mo_s3, mo_g4, mo_s4, mo_g5, mo_s5, mo_g6, mo_s6, mo_g7, mo_s7, mo_g8, mo_s8, mo_g9, mo_g10, mo_g11, mo_g12, mo_g13, mo_s13, mo_g14, mo_s14, mo_g15, mo_s15, mo_g16, mo_g17, mo_s17, mo_g18, mo_s18, mo_g19, mo_g20, mo_s20, mo_g21, mo_s21, mo_g22, mo_s22, mo_g23, mo_s23, ra_25, wa_25, al_25, ra_68, wa_68, al_68, ra_69, wa_69, al_69, ra_70, wa_70, al_70, ra_71, wa_71, al_71, ra_72, wa_72, al_72, ra_73, wa_73, al_73, ra_74, wa_74, al_74, ra_75, wa_75, al_75, h7, k1, q33, q40, k2, fm_us, a2, k3]
    · rw [testS, if_pos q2]
      exact w2
  · rw [if_neg q2] at k2
    obtain ⟨j1, _, l1, e1, z1⟩ := idx_nat (by decide) q2
    have hp : p < n := sg_ne (k := 4) (by decide) (by rw [t4]; exact q2)
    rw [e1] at k2
    have h2 : MS (fm_u (fm_u μ 67 5 (nI (p + 1))) 67 7 (nI 0)) a n T o (p + 1) cs := MS_of (m_sp1 h hp) (fm_un (by decide)) (fun k hk => fm_uk (by omega)) fm_us (by rw [fm_uk (by decide), fm_us]) (by omega) (by omega)
    have k4 : ix_call X (d + 4) 147 [.ref 67, .retAddr 12] (fm_W (fm_u (fm_u μ 67 5 (nI (p + 1))) 67 7 (nI 0)) τ) = some (some (.int (idxV 5 (sg n T (p + 1)) 3 0)), fm_W (if idxV 5 (sg n T (p + 1)) 3 0 = -1 then _ else fm_u (fm_u (fm_u μ 67 5 (nI (p + 1))) 67 7 (nI 0)) 67 5 (nI (p + 1 + 1))) τ) := m_among (X := X) (d := d) (τ := τ) (k := 5) (by decide) hn h2
    by_cases q4 : idxV 5 (sg n T (p + 1)) 3 0 = -1
    · rw [if_pos q4, q4] at k4
      have w1 : MW (fm_u (fm_u (fm_u μ 67 5 (nI (p + 1))) 67 7 (nI 0)) 67 7 (nI 1)) a (p + 1) := ⟨by rw [fm_uk (by decide)]; exact h2.1, by rw [fm_uk (by decide)]; exact h2.2.1, fm_us⟩
      obtain ⟨μ2, a2, w2, c2⟩ := m_figuresW (X := X) (d := d + 3) (τ := τ) w1
      have k3 := fun x => m_emitsW (X := X) (d := d + 4) (τ := τ) (x := x) w2
      refine ⟨μ2, ?_, ?_, mq_trans mq_5 (mq_trans mq_7 (mq_trans mq_7 c2))⟩
      · simp (disch := first | assumption | omega | decide) only [e145, i145_0, i145_1, i145_4, i145_7, i145_8, i145_9, i145_12, i145_13, i145_14, i145_16, i145_19, i145_20, i145_22, i145_25, i145_26, i145_27, i145_30, i145_31, i145_34, i145_35, i145_38, i145_39, i145_42, i145_43, i145_44, i145_47, i145_48, i145_49, i145_52, i145_53, i145_54, i145_57, i145_58, i145_61, i145_64, i145_65, i145_68, i145_69, i145_70, i145_73, i145_74, i145_76, i145_79, i145_80, i145_83, i145_84, i145_85, i145_88, i145_91, i145_92, i145_95, i145_96, i145_98, i145_101, i145_102, i145_103, i145_106, i145_107, i145_108, i145_111, i145_112, i145_113, i145_115, i145_118, i145_119, i145_120, i145_121, i145_122, i145_125, i145_126, i145_129, i145_130, i145_133, i145_134, i145_137, i145_140, i145_141, i145_144, i145_145, i145_147, i145_150, i145_151, i145_152, i145_153, i145_156, i145_159, i145_160, i145_161, i145_164, i145_165, i145_168, i145_169, i145_172, i145_173, i145_176, i145_178, i145_179, i145_180, i145_182, i145_183, i145_184, i145_185, i145_187, i145_189, i145_190, i145_191, i145_194, ix_pv_s, ix_pi_s, zpn, ix_po_s, ix_po_n, ix_ph_s, ix_bk_v, ix_bk_n, zcv, zcv_ne, ↓reduceIte, Nat.reduceEqDiff, zn_m1, zd_lt_p, zd_lt_n, zd_le_p, zd_le_n, zd_eq_p, zd_eq_n, zd_0_p, zd_0_n, zd_0lt_p, zd_0lt_n, zd_le0_p, zd_le0_n, zn_lt0, zn_le0, zn_add, zn_mul, zn_sub, zm_lt, zm_le, zm_eq, zb_1, zb_0, not_true_eq_false, not_false_eq_true, mo_c, mo_g0, mo_s0, mo_g1, mo_g2, mo_g3, mo_s3, mo_g4, mo_s4, mo_g5, mo_s5, mo_g6, mo_s6, mo_g7, mo_s7, mo_g8, mo_s8, mo_g9, mo_g10, mo_g11, mo_g12, mo_g13, mo_s13, mo_g14, mo_s14, mo_g15, mo_s15, mo_g16, mo_g17, mo_s17, mo_g18, mo_s18, mo_g19, mo_g20, mo_s20, mo_g21, mo_s21, mo_g22, mo_s22, mo_g23, mo_s23, ra_25, wa_25, al_25, ra_68, wa_68, al_68, ra_69, wa_69, al_69, ra_70, wa_70, al_70, ra_71, wa_71, al_71, ra_72, wa_72, al_72, ra_73, wa_73, al_73, ra_74, wa_74, al_74, ra_75, wa_75, al_75, h7, k1, q33, q40, k2, fm_us, k4, a2, k3]
      · rw [testS, if_neg q2, if_pos q4]
        exact w2
    · rw [if_neg q4] at k4
      obtain ⟨j2, _, l2, e2, z2⟩ := idx_nat (by decide) q4
      have hp1 : p + 1 < n := sg_ne (k := 5) (by decide) (by rw [t5]; exact q4)
      rw [e2] at k4
      have h3 : MS (fm_u (fm_u (fm_u (fm_u μ 67 5 (nI (p + 1))) 67 7 (nI 0)) 67 5 (nI (p + 1 + 1))) 67 7 (nI 0)) a n T o (p + 1 + 1) cs := MS_of (m_sp1 h2 hp1) (fm_un (by decide)) (fun k hk => fm_uk (by omega)) fm_us (by rw [fm_uk (by decide), fm_us]) (by omega) (by omega)
      obtain ⟨v, μ2, a2, c2, r2⟩ := m_figures (X := X) (d := d + 3) (τ := τ) hn h3
      have c0 := mq_trans (mq_5 (a := a) (μ := μ) (v := nI (p + 1))) (mq_trans (mq_7 (v := nI 0)) (mq_trans (mq_5 (v := nI (p + 1 + 1))) (mq_trans (mq_7 (v := nI 0)) c2)))
      have r5 : fm_u (fm_u (fm_u μ 67 5 (nI (p + 1))) 67 7 (nI 0)) 67 5 (nI (p + 1 + 1)) 67 7 = nI 0 := by rw [fm_uk (by decide), fm_us]
      cases hv : numS n T (p + 1 + 1) with
      | inl z =>
        rw [hv] at r2
        have w2 : MW μ2 a z := r2
        have k3 := fun x => m_emitsW (X := X) (d := d + 4) (τ := τ) (x := x) w2
        refine ⟨μ2, ?_, ?_, c0⟩
        · simp (disch := first | assumption | omega | decide) only [e145, i145_0, i145_1, i145_4, i145_7, i145_8, i145_9, i145_12, i145_13, i145_14, i145_16, i145_19, i145_20, i145_22, i145_25, i145_26, i145_27, i145_30, i145_31, i145_34, i145_35, i145_38, i145_39, i145_42, i145_43, i145_44, i145_47, i145_48, i145_49, i145_52, i145_53, i145_54, i145_57, i145_58, i145_61, i145_64, i145_65, i145_68, i145_69, i145_70, i145_73, i145_74, i145_76, i145_79, i145_80, i145_83, i145_84, i145_85, i145_88, i145_91, i145_92, i145_95, i145_96, i145_98, i145_101, i145_102, i145_103, i145_106, i145_107, i145_108, i145_111, i145_112, i145_113, i145_115, i145_118, i145_119, i145_120, i145_121, i145_122, i145_125, i145_126, i145_129, i145_130, i145_133, i145_134, i145_137, i145_140, i145_141, i145_144, i145_145, i145_147, i145_150, i145_151, i145_152, i145_153, i145_156, i145_159, i145_160, i145_161, i145_164, i145_165, i145_168, i145_169, i145_172, i145_173, i145_176, i145_178, i145_179, i145_180, i145_182, i145_183, i145_184, i145_185, i145_187, i145_189, i145_190, i145_191, i145_194, ix_pv_s, ix_pi_s, zpn, ix_po_s, ix_po_n, ix_ph_s, ix_bk_v, ix_bk_n, zcv, zcv_ne, ↓reduceIte, Nat.reduceEqDiff, zn_m1, zd_lt_p, zd_lt_n, zd_le_p, zd_le_n, zd_eq_p, zd_eq_n, zd_0_p, zd_0_n, zd_0lt_p, zd_0lt_n, zd_le0_p, zd_le0_n, zn_lt0, zn_le0, zn_add, zn_mul, zn_sub, zm_lt, zm_le, zm_eq, zb_1, zb_0, not_true_eq_false, not_false_eq_true, mo_c, mo_g0, mo_s0, mo_g1, mo_g2, mo_g3, mo_s3, mo_g4, mo_s4, mo_g5, mo_s5, mo_g6, mo_s6, mo_g7, mo_s7, mo_g8, mo_s8, mo_g9, mo_g10, mo_g11, mo_g12, mo_g13, mo_s13, mo_g14, mo_s14, mo_g15, mo_s15, mo_g16, mo_g17, mo_s17, mo_g18, mo_s18, mo_g19, mo_g20, mo_s20, mo_g21, mo_s21, mo_g22, mo_s22, mo_g23, mo_s23, ra_25, wa_25, al_25, ra_68, wa_68, al_68, ra_69, wa_69, al_69, ra_70, wa_70, al_70, ra_71, wa_71, al_71, ra_72, wa_72, al_72, ra_73, wa_73, al_73, ra_74, wa_74, al_74, ra_75, wa_75, al_75, h7, k1, q33, q40, k2, fm_us, k4, r5, a2, k3]
        · rw [testS, if_neg q2, if_neg q4, hv]
          exact w2
      | inr y =>
        obtain ⟨q, w⟩ := y
        rw [hv] at r2
        obtain ⟨rfl, p2⟩ := r2
        obtain ⟨n1, n2, n3⟩ := num_ok hv
        obtain ⟨μ3, a3, p3, c3⟩ := m_emits (X := X) (d := d + 4) (τ := τ) (stp_t (j1 := j1) (j2 := j2) (w := v) (by omega) (by omega) n3) ha hn (by omega) p2
        refine ⟨μ3, ?_, ?_, mq_trans c0 c3⟩
        · simp (disch := first | assumption | omega | decide) only [e145, i145_0, i145_1, i145_4, i145_7, i145_8, i145_9, i145_12, i145_13, i145_14, i145_16, i145_19, i145_20, i145_22, i145_25, i145_26, i145_27, i145_30, i145_31, i145_34, i145_35, i145_38, i145_39, i145_42, i145_43, i145_44, i145_47, i145_48, i145_49, i145_52, i145_53, i145_54, i145_57, i145_58, i145_61, i145_64, i145_65, i145_68, i145_69, i145_70, i145_73, i145_74, i145_76, i145_79, i145_80, i145_83, i145_84, i145_85, i145_88, i145_91, i145_92, i145_95, i145_96, i145_98, i145_101, i145_102, i145_103, i145_106, i145_107, i145_108, i145_111, i145_112, i145_113, i145_115, i145_118, i145_119, i145_120, i145_121, i145_122, i145_125, i145_126, i145_129, i145_130, i145_133, i145_134, i145_137, i145_140, i145_141, i145_144, i145_145, i145_147, i145_150, i145_151, i145_152, i145_153, i145_156, i145_159, i145_160, i145_161, i145_164, i145_165, i145_168, i145_169, i145_172, i145_173, i145_176, i145_178, i145_179, i145_180, i145_182, i145_183, i145_184, i145_185, i145_187, i145_189, i145_190, i145_191, i145_194, ix_pv_s, ix_pi_s, zpn, ix_po_s, ix_po_n, ix_ph_s, ix_bk_v, ix_bk_n, zcv, zcv_ne, ↓reduceIte, Nat.reduceEqDiff, zn_m1, zd_lt_p, zd_lt_n, zd_le_p, zd_le_n, zd_eq_p, zd_eq_n, zd_0_p, zd_0_n, zd_0lt_p, zd_0lt_n, zd_le0_p, zd_le0_n, zn_lt0, zn_le0, zn_add, zn_mul, zn_sub, zm_lt, zm_le, zm_eq, zb_1, zb_0, not_true_eq_false, not_false_eq_true, mo_c, mo_g0, mo_s0, mo_g1, mo_g2, mo_g3, mo_s3, mo_g4, mo_s4, mo_g5, mo_s5, mo_g6, mo_s6, mo_g7, mo_s7, mo_g8, mo_s8, mo_g9, mo_g10, mo_g11, mo_g12, mo_g13, mo_s13, mo_g14, mo_s14, mo_g15, mo_s15, mo_g16, mo_g17, mo_s17, mo_g18, mo_s18, mo_g19, mo_g20, mo_s20, mo_g21, mo_s21, mo_g22, mo_s22, mo_g23, mo_s23, ra_25, wa_25, al_25, ra_68, wa_68, al_68, ra_69, wa_69, al_69, ra_70, wa_70, al_70, ra_71, wa_71, al_71, ra_72, wa_72, al_72, ra_73, wa_73, al_73, ra_74, wa_74, al_74, ra_75, wa_75, al_75, h7, k1, q33, q40, k2, fm_us, k4, r5, a2, a3]
        · rw [testS, if_neg q2, if_neg q4, hv, z1, z2]
          exact p3
theorem m_factor (ha : a < 5) (hn : n ≤ 100) : ∀ (d o e : Nat), o + d = 5 → mC X τ a n T (e + 3 * d + 5) 145 [] o (parS n T d)
  | 0, o, e, ho => by
    intro μ p cs h
    have k1 := m_here (X := X) (d := e + 4) (τ := τ) hn h
    obtain ⟨y1, y2, y3, y4, y5, y6, y7, y8, y9, y10⟩ := id h
    have ho' : o = 5 := ho
    subst ho'
    by_cases q : sg n T p = nI 33 ∨ sg n T p = nI 40
    · have w1 : MW (fm_u (fm_u (fm_u μ 67 7 (nI 1)) 67 8 (nI (5 + 1))) 67 5 (nI p)) a p := ⟨by rw [fm_uk (by decide), fm_uk (by decide), fm_uk (by decide)]; exact y1, fm_us, by rw [fm_uk (by decide), fm_uk (by decide), fm_us]⟩
      have c0 := mq_trans (mq_7 (a := a) (μ := μ) (v := nI 1)) (mq_trans (mq_8 (v := nI (5 + 1))) (mq_5 (v := nI p)))
      have k2 := m_factorW (X := X) (d := e + 4) (τ := τ) w1
      have k3 := fun x => m_emitsW (X := X) (d := e + 4) (τ := τ) (x := x) w1
      have k4 := m_someW (X := X) (d := e + 2) (τ := τ) w1
      have r7 : fm_u (fm_u μ 67 7 (nI 1)) 67 8 (nI (5 + 1)) 67 7 = nI 1 := by rw [fm_uk (by decide), fm_us]
      have r8 : fm_u μ 67 7 (nI 1) 67 8 = nI 5 := by rw [fm_uk (by decide)]; exact y5
      have r5 : fm_u (fm_u μ 67 7 (nI 1)) 67 8 (nI (5 + 1)) 67 5 = nI p := by rw [fm_uk (by decide), fm_uk (by decide)]; exact y2
      rw [parS, if_pos q]
      rcases q with q33 | q40
      · rw [q33] at k1
        refine ⟨_, ?_, MW_u (v := nI (5 + 1) - nI 1) w1 (k := 8) (by decide) (by decide) (by decide), mq_trans c0 mq_8⟩
        have r9 : fm_u (fm_u (fm_u μ 67 7 (nI 1)) 67 8 (nI (5 + 1))) 67 5 (nI p) 67 8 = nI (5 + 1) := by rw [fm_uk (by decide), fm_us]
        simp (disch := first | assumption | omega | decide) only [e145, i145_0, i145_1, i145_4, i145_7, i145_8, i145_9, i145_12, i145_13, i145_14, i145_16, i145_19, i145_20, i145_22, i145_25, i145_26, i145_27, i145_30, i145_31, i145_34, i145_35, i145_38, i145_39, i145_42, i145_43, i145_44, i145_47, i145_48, i145_49, i145_52, i145_53, i145_54, i145_57, i145_58, i145_61, i145_64, i145_65, i145_68, i145_69, i145_70, i145_73, i145_74, i145_76, i145_79, i145_80, i145_83, i145_84, i145_85, i145_88, i145_91, i145_92, i145_95, i145_96, i145_98, i145_101, i145_102, i145_103, i145_106, i145_107, i145_108, i145_111, i145_112, i145_113, i145_115, i145_118, i145_119, i145_120, i145_121, i145_122, i145_125, i145_126, i145_129, i145_130, i145_133, i145_134, i145_137, i145_140, i145_141, i145_144, i145_145, i145_147, i145_150, i145_151, i145_152, i145_153, i145_156, i145_159, i145_160, i145_161, i145_164, i145_165, i145_168, i145_169, i145_172, i145_173, i145_176, i145_178, i145_179, i145_180, i145_182, i145_183, i145_184, i145_185, i145_187, i145_189, i145_190, i145_191, i145_194, ix_pv_s, ix_pi_s, zpn, ix_po_s, ix_po_n, ix_ph_s, ix_bk_v, ix_bk_n, zcv, zcv_ne, ↓reduceIte, Nat.reduceEqDiff, zn_m1, zd_lt_p, zd_lt_n, zd_le_p, zd_le_n, zd_eq_p, zd_eq_n, zd_0_p, zd_0_n, zd_0lt_p, zd_0lt_n, zd_le0_p, zd_le0_n, zn_lt0, zn_le0, zn_add, zn_mul, zn_sub, zm_lt, zm_le, zm_eq, zb_1, zb_0, not_true_eq_false, not_false_eq_true, mo_c, mo_g0, mo_s0, mo_g1, mo_g2, mo_g3, mo_s3, mo_g4, mo_s4, mo_g5, mo_s5, mo_g6, mo_s6, mo_g7, mo_s7, mo_g8, mo_s8, mo_g9, mo_g10, mo_g11, mo_g12, mo_g13, mo_s13, mo_g14, mo_s14, mo_g15, mo_s15, mo_g16, mo_g17, mo_s17, mo_g18, mo_s18, mo_g19, mo_g20, mo_s20, mo_g21, mo_s21, mo_g22, mo_s22, mo_g23, mo_s23, ra_25, wa_25, al_25, ra_68, wa_68, al_68, ra_69, wa_69, al_69, ra_70, wa_70, al_70, ra_71, wa_71, al_71, ra_72, wa_72, al_72, ra_73, wa_73, al_73, ra_74, wa_74, al_74, ra_75, wa_75, al_75, y4, k1, y5, r7, r8, r5, r9, Nat.add_zero, k2, k3]
      · rw [q40] at k1
        obtain ⟨μ2, a2, w2, c2⟩ := m_mustW (X := X) (d := e + 3) (τ := τ) (c := nI 41) w1
        refine ⟨_, ?_, MW_u (v := μ2 67 8 - nI 1) w2 (k := 8) (by decide) (by decide) (by decide), mq_trans c0 (mq_trans c2 mq_8)⟩
        simp (disch := first | assumption | omega | decide) only [e145, i145_0, i145_1, i145_4, i145_7, i145_8, i145_9, i145_12, i145_13, i145_14, i145_16, i145_19, i145_20, i145_22, i145_25, i145_26, i145_27, i145_30, i145_31, i145_34, i145_35, i145_38, i145_39, i145_42, i145_43, i145_44, i145_47, i145_48, i145_49, i145_52, i145_53, i145_54, i145_57, i145_58, i145_61, i145_64, i145_65, i145_68, i145_69, i145_70, i145_73, i145_74, i145_76, i145_79, i145_80, i145_83, i145_84, i145_85, i145_88, i145_91, i145_92, i145_95, i145_96, i145_98, i145_101, i145_102, i145_103, i145_106, i145_107, i145_108, i145_111, i145_112, i145_113, i145_115, i145_118, i145_119, i145_120, i145_121, i145_122, i145_125, i145_126, i145_129, i145_130, i145_133, i145_134, i145_137, i145_140, i145_141, i145_144, i145_145, i145_147, i145_150, i145_151, i145_152, i145_153, i145_156, i145_159, i145_160, i145_161, i145_164, i145_165, i145_168, i145_169, i145_172, i145_173, i145_176, i145_178, i145_179, i145_180, i145_182, i145_183, i145_184, i145_185, i145_187, i145_189, i145_190, i145_191, i145_194, ix_pv_s, ix_pi_s, zpn, ix_po_s, ix_po_n, ix_ph_s, ix_bk_v, ix_bk_n, zcv, zcv_ne, ↓reduceIte, Nat.reduceEqDiff, zn_m1, zd_lt_p, zd_lt_n, zd_le_p, zd_le_n, zd_eq_p, zd_eq_n, zd_0_p, zd_0_n, zd_0lt_p, zd_0lt_n, zd_le0_p, zd_le0_n, zn_lt0, zn_le0, zn_add, zn_mul, zn_sub, zm_lt, zm_le, zm_eq, zb_1, zb_0, not_true_eq_false, not_false_eq_true, mo_c, mo_g0, mo_s0, mo_g1, mo_g2, mo_g3, mo_s3, mo_g4, mo_s4, mo_g5, mo_s5, mo_g6, mo_s6, mo_g7, mo_s7, mo_g8, mo_s8, mo_g9, mo_g10, mo_g11, mo_g12, mo_g13, mo_s13, mo_g14, mo_s14, mo_g15, mo_s15, mo_g16, mo_g17, mo_s17, mo_g18, mo_s18, mo_g19, mo_g20, mo_s20, mo_g21, mo_s21, mo_g22, mo_s22, mo_g23, mo_s23, ra_25, wa_25, al_25, ra_68, wa_68, al_68, ra_69, wa_69, al_69, ra_70, wa_70, al_70, ra_71, wa_71, al_71, ra_72, wa_72, al_72, ra_73, wa_73, al_73, ra_74, wa_74, al_74, ra_75, wa_75, al_75, y4, k1, y5, r7, r8, r5, Nat.add_zero, k4, a2]
    · have q33 : ¬ sg n T p = nI 33 := fun hh => q (Or.inl hh)
      have q40 : ¬ sg n T p = nI 40 := fun hh => q (Or.inr hh)
      rw [parS, if_neg q]
      exact m_test ha hn h q33 q40
  | d + 1, o, e, ho => by
    intro μ p cs h
    have ed : e + 3 * (d + 1) + 5 = (e + 2 + 3 * d + 5) + 1 := by omega
    rw [ed]
    have k1 := m_here (X := X) (d := e + 2 + 3 * d + 5) (τ := τ) hn h
    obtain ⟨y1, y2, y3, y4, y5, y6, y7, y8, y9, y10⟩ := id h
    have r7 : fm_u (fm_u μ 67 7 (nI 0)) 67 8 (nI (o + 1)) 67 7 = nI 0 := by rw [fm_uk (by decide), fm_us]
    have r8 : fm_u μ 67 7 (nI 0) 67 8 = nI o := by rw [fm_uk (by decide)]; exact y5
    have r5 : fm_u (fm_u μ 67 7 (nI 0)) 67 8 (nI (o + 1)) 67 5 = nI p := by rw [fm_uk (by decide), fm_uk (by decide)]; exact y2
    have c0 := mq_trans (mq_7 (a := a) (μ := μ) (v := nI 0)) (mq_trans (mq_8 (v := nI (o + 1))) (mq_5 (v := nI (p + 1))))
    have m1 : p < n → MS (fm_u (fm_u (fm_u μ 67 7 (nI 0)) 67 8 (nI (o + 1))) 67 5 (nI (p + 1))) a n T (o + 1) (p + 1) cs := fun lp => by
      refine ⟨?_, fm_us, ?_, ?_, ?_, fun i hi => ?_, ?_, fun i hi => ?_, by omega, by omega⟩
      · rw [fm_uk (by decide), fm_uk (by decide), fm_uk (by decide)]; exact y1
      · rw [fm_uk (by decide), fm_uk (by decide), fm_uk (by decide)]; exact y3
      · rw [fm_uk (by decide), fm_uk (by decide), fm_us]
      · rw [fm_uk (by decide), fm_us]
      · rw [fm_un (by decide), fm_un (by decide), fm_un (by decide)]; exact y6 i hi
      · rw [fm_un (by decide), fm_un (by decide), fm_un (by decide)]; exact y7
      · rw [fm_un (by decide), fm_un (by decide), fm_un (by decide)]; exact y8 i hi
    have back : ∀ (μ' : fm_M) (q : Nat) (l : List Nat), MS μ' a n T (o + 1) q l → MS (fm_u μ' 67 8 (nI o)) a n T o q l := fun μ' q l hh => by
      obtain ⟨x1, x2, x3, x4, x5, x6, x7, x8, x9, x10⟩ := hh
      exact ⟨by rw [fm_uk (by decide)]; exact x1, by rw [fm_uk (by decide)]; exact x2, by rw [fm_uk (by decide)]; exact x3, by rw [fm_uk (by decide)]; exact x4, fm_us, fun i hi => by rw [fm_un (by decide)]; exact x6 i hi, by rw [fm_un (by decide)]; exact x7, fun i hi => by rw [fm_un (by decide)]; exact x8 i hi, x9, x10⟩
    by_cases q33 : sg n T p = nI 33
    · have lp := sg_lt (by decide) q33
      rw [q33] at k1
      obtain ⟨μ2, a2, r2, c2⟩ := m_factor ha hn d (o + 1) (e + 2) (by omega) _ (p + 1) cs (m1 lp)
      cases hv : parS n T d (p + 1) with
      | inl z =>
        rw [hv] at r2
        have w2 : MW μ2 a z := r2
        have k3 := fun x => m_emitsW (X := X) (d := e + 2 + 3 * d + 5) (τ := τ) (x := x) w2
        refine ⟨_, ?_, ?_, mq_trans c0 (mq_trans c2 (mq_8 (v := μ2 67 8 - nI 1)))⟩
        · simp (disch := first | assumption | omega | decide) only [e145, i145_0, i145_1, i145_4, i145_7, i145_8, i145_9, i145_12, i145_13, i145_14, i145_16, i145_19, i145_20, i145_22, i145_25, i145_26, i145_27, i145_30, i145_31, i145_34, i145_35, i145_38, i145_39, i145_42, i145_43, i145_44, i145_47, i145_48, i145_49, i145_52, i145_53, i145_54, i145_57, i145_58, i145_61, i145_64, i145_65, i145_68, i145_69, i145_70, i145_73, i145_74, i145_76, i145_79, i145_80, i145_83, i145_84, i145_85, i145_88, i145_91, i145_92, i145_95, i145_96, i145_98, i145_101, i145_102, i145_103, i145_106, i145_107, i145_108, i145_111, i145_112, i145_113, i145_115, i145_118, i145_119, i145_120, i145_121, i145_122, i145_125, i145_126, i145_129, i145_130, i145_133, i145_134, i145_137, i145_140, i145_141, i145_144, i145_145, i145_147, i145_150, i145_151, i145_152, i145_153, i145_156, i145_159, i145_160, i145_161, i145_164, i145_165, i145_168, i145_169, i145_172, i145_173, i145_176, i145_178, i145_179, i145_180, i145_182, i145_183, i145_184, i145_185, i145_187, i145_189, i145_190, i145_191, i145_194, ix_pv_s, ix_pi_s, zpn, ix_po_s, ix_po_n, ix_ph_s, ix_bk_v, ix_bk_n, zcv, zcv_ne, ↓reduceIte, Nat.reduceEqDiff, zn_m1, zd_lt_p, zd_lt_n, zd_le_p, zd_le_n, zd_eq_p, zd_eq_n, zd_0_p, zd_0_n, zd_0lt_p, zd_0lt_n, zd_le0_p, zd_le0_n, zn_lt0, zn_le0, zn_add, zn_mul, zn_sub, zm_lt, zm_le, zm_eq, zb_1, zb_0, not_true_eq_false, not_false_eq_true, mo_c, mo_g0, mo_s0, mo_g1, mo_g2, mo_g3, mo_s3, mo_g4, mo_s4, mo_g5, mo_s5, mo_g6, mo_s6, mo_g7, mo_s7, mo_g8, mo_s8, mo_g9, mo_g10, mo_g11, mo_g12, mo_g13, mo_s13, mo_g14, mo_s14, mo_g15, mo_s15, mo_g16, mo_g17, mo_s17, mo_g18, mo_s18, mo_g19, mo_g20, mo_s20, mo_g21, mo_s21, mo_g22, mo_s22, mo_g23, mo_s23, ra_25, wa_25, al_25, ra_68, wa_68, al_68, ra_69, wa_69, al_69, ra_70, wa_70, al_70, ra_71, wa_71, al_71, ra_72, wa_72, al_72, ra_73, wa_73, al_73, ra_74, wa_74, al_74, ra_75, wa_75, al_75, y4, k1, y5, r7, r8, r5, a2, k3]
        · rw [parS, if_pos q33, hv]
          exact MW_u w2 (by decide) (by decide) (by decide)
      | inr y =>
        obtain ⟨q, l⟩ := y
        rw [hv] at r2
        obtain ⟨b1, b2, b3⟩ := par_adv d _ _ _ hv
        obtain ⟨μ3, a3, p3, c3⟩ := m_emits (X := X) (d := e + 2 + 3 * d + 5) (τ := τ) (c := 1500) (x := -1) (by decide +kernel) ha hn (by rw [List.length_append]; omega) r2
        have o3 : μ3 67 8 = nI (o + 1) := p3.2.2.2.2.1
        refine ⟨_, ?_, ?_, mq_trans c0 (mq_trans c2 (mq_trans c3 (mq_8 (v := nI o))))⟩
        · simp (disch := first | assumption | omega | decide) only [e145, i145_0, i145_1, i145_4, i145_7, i145_8, i145_9, i145_12, i145_13, i145_14, i145_16, i145_19, i145_20, i145_22, i145_25, i145_26, i145_27, i145_30, i145_31, i145_34, i145_35, i145_38, i145_39, i145_42, i145_43, i145_44, i145_47, i145_48, i145_49, i145_52, i145_53, i145_54, i145_57, i145_58, i145_61, i145_64, i145_65, i145_68, i145_69, i145_70, i145_73, i145_74, i145_76, i145_79, i145_80, i145_83, i145_84, i145_85, i145_88, i145_91, i145_92, i145_95, i145_96, i145_98, i145_101, i145_102, i145_103, i145_106, i145_107, i145_108, i145_111, i145_112, i145_113, i145_115, i145_118, i145_119, i145_120, i145_121, i145_122, i145_125, i145_126, i145_129, i145_130, i145_133, i145_134, i145_137, i145_140, i145_141, i145_144, i145_145, i145_147, i145_150, i145_151, i145_152, i145_153, i145_156, i145_159, i145_160, i145_161, i145_164, i145_165, i145_168, i145_169, i145_172, i145_173, i145_176, i145_178, i145_179, i145_180, i145_182, i145_183, i145_184, i145_185, i145_187, i145_189, i145_190, i145_191, i145_194, ix_pv_s, ix_pi_s, zpn, ix_po_s, ix_po_n, ix_ph_s, ix_bk_v, ix_bk_n, zcv, zcv_ne, ↓reduceIte, Nat.reduceEqDiff, zn_m1, zd_lt_p, zd_lt_n, zd_le_p, zd_le_n, zd_eq_p, zd_eq_n, zd_0_p, zd_0_n, zd_0lt_p, zd_0lt_n, zd_le0_p, zd_le0_n, zn_lt0, zn_le0, zn_add, zn_mul, zn_sub, zm_lt, zm_le, zm_eq, zb_1, zb_0, not_true_eq_false, not_false_eq_true, mo_c, mo_g0, mo_s0, mo_g1, mo_g2, mo_g3, mo_s3, mo_g4, mo_s4, mo_g5, mo_s5, mo_g6, mo_s6, mo_g7, mo_s7, mo_g8, mo_s8, mo_g9, mo_g10, mo_g11, mo_g12, mo_g13, mo_s13, mo_g14, mo_s14, mo_g15, mo_s15, mo_g16, mo_g17, mo_s17, mo_g18, mo_s18, mo_g19, mo_g20, mo_s20, mo_g21, mo_s21, mo_g22, mo_s22, mo_g23, mo_s23, ra_25, wa_25, al_25, ra_68, wa_68, al_68, ra_69, wa_69, al_69, ra_70, wa_70, al_70, ra_71, wa_71, al_71, ra_72, wa_72, al_72, ra_73, wa_73, al_73, ra_74, wa_74, al_74, ra_75, wa_75, al_75, y4, k1, y5, r7, r8, r5, a2, a3, o3, Nat.add_sub_cancel]
        · rw [parS, if_pos q33, hv]
          refine MR_pb ?_
          exact back _ _ _ p3
    · by_cases q40 : sg n T p = nI 40
      · have lp := sg_lt (by decide) q40
        rw [q40] at k1
        obtain ⟨μ2, a2, r2, c2⟩ := m_some (e := e + 3 * d + 5) ha hn (par_adv d) (m_factor ha hn d (o + 1) e (by omega)) _ (p + 1) cs (m1 lp)
        rw [show e + 3 * d + 5 + 2 = e + 2 + 3 * d + 5 by omega] at a2
        cases hv : choS n T (parS n T d) (p + 1) with
        | inl z =>
          rw [hv] at r2
          have w2 : MW μ2 a z := r2
          obtain ⟨μ3, a3, w3, c3⟩ := m_mustW (X := X) (d := e + 1 + 3 * d + 5) (τ := τ) (c := nI 41) w2
          rw [show e + 1 + 3 * d + 5 + 1 = e + 2 + 3 * d + 5 by omega] at a3
          refine ⟨_, ?_, ?_, mq_trans c0 (mq_trans c2 (mq_trans c3 (mq_8 (v := μ3 67 8 - nI 1))))⟩
          · simp (disch := first | assumption | omega | decide) only [e145, i145_0, i145_1, i145_4, i145_7, i145_8, i145_9, i145_12, i145_13, i145_14, i145_16, i145_19, i145_20, i145_22, i145_25, i145_26, i145_27, i145_30, i145_31, i145_34, i145_35, i145_38, i145_39, i145_42, i145_43, i145_44, i145_47, i145_48, i145_49, i145_52, i145_53, i145_54, i145_57, i145_58, i145_61, i145_64, i145_65, i145_68, i145_69, i145_70, i145_73, i145_74, i145_76, i145_79, i145_80, i145_83, i145_84, i145_85, i145_88, i145_91, i145_92, i145_95, i145_96, i145_98, i145_101, i145_102, i145_103, i145_106, i145_107, i145_108, i145_111, i145_112, i145_113, i145_115, i145_118, i145_119, i145_120, i145_121, i145_122, i145_125, i145_126, i145_129, i145_130, i145_133, i145_134, i145_137, i145_140, i145_141, i145_144, i145_145, i145_147, i145_150, i145_151, i145_152, i145_153, i145_156, i145_159, i145_160, i145_161, i145_164, i145_165, i145_168, i145_169, i145_172, i145_173, i145_176, i145_178, i145_179, i145_180, i145_182, i145_183, i145_184, i145_185, i145_187, i145_189, i145_190, i145_191, i145_194, ix_pv_s, ix_pi_s, zpn, ix_po_s, ix_po_n, ix_ph_s, ix_bk_v, ix_bk_n, zcv, zcv_ne, ↓reduceIte, Nat.reduceEqDiff, zn_m1, zd_lt_p, zd_lt_n, zd_le_p, zd_le_n, zd_eq_p, zd_eq_n, zd_0_p, zd_0_n, zd_0lt_p, zd_0lt_n, zd_le0_p, zd_le0_n, zn_lt0, zn_le0, zn_add, zn_mul, zn_sub, zm_lt, zm_le, zm_eq, zb_1, zb_0, not_true_eq_false, not_false_eq_true, mo_c, mo_g0, mo_s0, mo_g1, mo_g2, mo_g3, mo_s3, mo_g4, mo_s4, mo_g5, mo_s5, mo_g6, mo_s6, mo_g7, mo_s7, mo_g8, mo_s8, mo_g9, mo_g10, mo_g11, mo_g12, mo_g13, mo_s13, mo_g14, mo_s14, mo_g15, mo_s15, mo_g16, mo_g17, mo_s17, mo_g18, mo_s18, mo_g19, mo_g20, mo_s20, mo_g21, mo_s21, mo_g22, mo_s22, mo_g23, mo_s23, ra_25, wa_25, al_25, ra_68, wa_68, al_68, ra_69, wa_69, al_69, ra_70, wa_70, al_70, ra_71, wa_71, al_71, ra_72, wa_72, al_72, ra_73, wa_73, al_73, ra_74, wa_74, al_74, ra_75, wa_75, al_75, y4, k1, y5, r7, r8, r5, a2, a3]
          · rw [parS, if_neg q33, if_pos q40, hv]
            exact MW_u w3 (by decide) (by decide) (by decide)
        | inr y =>
          obtain ⟨q, l⟩ := y
          rw [hv] at r2
          have p2 : MS μ2 a n T (o + 1) q (cs ++ l) := r2
          obtain ⟨μ3, a3, c3, r3⟩ := m_must (X := X) (d := e + 1 + 3 * d + 5) (τ := τ) (c := 41) hn (by decide) p2
          rw [show e + 1 + 3 * d + 5 + 1 = e + 2 + 3 * d + 5 by omega] at a3
          rcases r3 with ⟨q41, p3⟩ | ⟨q41, w3⟩
          · have o3 : μ3 67 8 = nI (o + 1) := p3.2.2.2.2.1
            refine ⟨_, ?_, ?_, mq_trans c0 (mq_trans c2 (mq_trans c3 (mq_8 (v := nI o))))⟩
            · simp (disch := first | assumption | omega | decide) only [e145, i145_0, i145_1, i145_4, i145_7, i145_8, i145_9, i145_12, i145_13, i145_14, i145_16, i145_19, i145_20, i145_22, i145_25, i145_26, i145_27, i145_30, i145_31, i145_34, i145_35, i145_38, i145_39, i145_42, i145_43, i145_44, i145_47, i145_48, i145_49, i145_52, i145_53, i145_54, i145_57, i145_58, i145_61, i145_64, i145_65, i145_68, i145_69, i145_70, i145_73, i145_74, i145_76, i145_79, i145_80, i145_83, i145_84, i145_85, i145_88, i145_91, i145_92, i145_95, i145_96, i145_98, i145_101, i145_102, i145_103, i145_106, i145_107, i145_108, i145_111, i145_112, i145_113, i145_115, i145_118, i145_119, i145_120, i145_121, i145_122, i145_125, i145_126, i145_129, i145_130, i145_133, i145_134, i145_137, i145_140, i145_141, i145_144, i145_145, i145_147, i145_150, i145_151, i145_152, i145_153, i145_156, i145_159, i145_160, i145_161, i145_164, i145_165, i145_168, i145_169, i145_172, i145_173, i145_176, i145_178, i145_179, i145_180, i145_182, i145_183, i145_184, i145_185, i145_187, i145_189, i145_190, i145_191, i145_194, ix_pv_s, ix_pi_s, zpn, ix_po_s, ix_po_n, ix_ph_s, ix_bk_v, ix_bk_n, zcv, zcv_ne, ↓reduceIte, Nat.reduceEqDiff, zn_m1, zd_lt_p, zd_lt_n, zd_le_p, zd_le_n, zd_eq_p, zd_eq_n, zd_0_p, zd_0_n, zd_0lt_p, zd_0lt_n, zd_le0_p, zd_le0_n, zn_lt0, zn_le0, zn_add, zn_mul, zn_sub, zm_lt, zm_le, zm_eq, zb_1, zb_0, not_true_eq_false, not_false_eq_true, mo_c, mo_g0, mo_s0, mo_g1, mo_g2, mo_g3, mo_s3, mo_g4, mo_s4, mo_g5, mo_s5, mo_g6, mo_s6, mo_g7, mo_s7, mo_g8, mo_s8, mo_g9, mo_g10, mo_g11, mo_g12, mo_g13, mo_s13, mo_g14, mo_s14, mo_g15, mo_s15, mo_g16, mo_g17, mo_s17, mo_g18, mo_s18, mo_g19, mo_g20, mo_s20, mo_g21, mo_s21, mo_g22, mo_s22, mo_g23, mo_s23, ra_25, wa_25, al_25, ra_68, wa_68, al_68, ra_69, wa_69, al_69, ra_70, wa_70, al_70, ra_71, wa_71, al_71, ra_72, wa_72, al_72, ra_73, wa_73, al_73, ra_74, wa_74, al_74, ra_75, wa_75, al_75, y4, k1, y5, r7, r8, r5, a2, a3, o3, Nat.add_sub_cancel]
            · rw [parS, if_neg q33, if_pos q40, hv]
              refine MR_pb ?_
              rw [cloS, if_pos q41]
              show MS _ a n T o (q + 1) (cs ++ l ++ [])
              rw [List.append_nil]
              exact back _ _ _ p3
          · refine ⟨_, ?_, ?_, mq_trans c0 (mq_trans c2 (mq_trans c3 (mq_8 (v := μ3 67 8 - nI 1))))⟩
            · simp (disch := first | assumption | omega | decide) only [e145, i145_0, i145_1, i145_4, i145_7, i145_8, i145_9, i145_12, i145_13, i145_14, i145_16, i145_19, i145_20, i145_22, i145_25, i145_26, i145_27, i145_30, i145_31, i145_34, i145_35, i145_38, i145_39, i145_42, i145_43, i145_44, i145_47, i145_48, i145_49, i145_52, i145_53, i145_54, i145_57, i145_58, i145_61, i145_64, i145_65, i145_68, i145_69, i145_70, i145_73, i145_74, i145_76, i145_79, i145_80, i145_83, i145_84, i145_85, i145_88, i145_91, i145_92, i145_95, i145_96, i145_98, i145_101, i145_102, i145_103, i145_106, i145_107, i145_108, i145_111, i145_112, i145_113, i145_115, i145_118, i145_119, i145_120, i145_121, i145_122, i145_125, i145_126, i145_129, i145_130, i145_133, i145_134, i145_137, i145_140, i145_141, i145_144, i145_145, i145_147, i145_150, i145_151, i145_152, i145_153, i145_156, i145_159, i145_160, i145_161, i145_164, i145_165, i145_168, i145_169, i145_172, i145_173, i145_176, i145_178, i145_179, i145_180, i145_182, i145_183, i145_184, i145_185, i145_187, i145_189, i145_190, i145_191, i145_194, ix_pv_s, ix_pi_s, zpn, ix_po_s, ix_po_n, ix_ph_s, ix_bk_v, ix_bk_n, zcv, zcv_ne, ↓reduceIte, Nat.reduceEqDiff, zn_m1, zd_lt_p, zd_lt_n, zd_le_p, zd_le_n, zd_eq_p, zd_eq_n, zd_0_p, zd_0_n, zd_0lt_p, zd_0lt_n, zd_le0_p, zd_le0_n, zn_lt0, zn_le0, zn_add, zn_mul, zn_sub, zm_lt, zm_le, zm_eq, zb_1, zb_0, not_true_eq_false, not_false_eq_true, mo_c, mo_g0, mo_s0, mo_g1, mo_g2, mo_g3, mo_s3, mo_g4, mo_s4, mo_g5, mo_s5, mo_g6, mo_s6, mo_g7, mo_s7, mo_g8, mo_s8, mo_g9, mo_g10, mo_g11, mo_g12, mo_g13, mo_s13, mo_g14, mo_s14, mo_g15, mo_s15, mo_g16, mo_g17, mo_s17, mo_g18, mo_s18, mo_g19, mo_g20, mo_s20, mo_g21, mo_s21, mo_g22, mo_s22, mo_g23, mo_s23, ra_25, wa_25, al_25, ra_68, wa_68, al_68, ra_69, wa_69, al_69, ra_70, wa_70, al_70, ra_71, wa_71, al_71, ra_72, wa_72, al_72, ra_73, wa_73, al_73, ra_74, wa_74, al_74, ra_75, wa_75, al_75, y4, k1, y5, r7, r8, r5, a2, a3]
            · rw [parS, if_neg q33, if_pos q40, hv]
              refine MR_pb ?_
              rw [cloS, if_neg q41]
              exact MW_u w3 (by decide) (by decide) (by decide)
      · obtain ⟨μ', a1, r1, c1⟩ := m_test (X := X) (d := e + 2 + 3 * d + 1) (τ := τ) ha hn h q33 q40
        refine ⟨μ', a1, ?_, c1⟩
        rw [parS, if_neg q33, if_neg q40]
        exact r1
end MT
