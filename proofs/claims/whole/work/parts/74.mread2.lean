/-! ===== the model reads a part, a choice, a clause ===== -/
--need 73.mread
def mC (X : ix_X) (τ : List fm_D) (a n : Nat) (T : Nat → Int32) (e m : Nat) (args : List Value) (o : Nat) (P : Nat → pT) : Prop := ∀ (μ : fm_M) (p : Nat) (cs : List Nat), MS μ a n T o p cs → ∃ μ' : fm_M, ix_call X e m (.ref 67 :: args) (fm_W μ τ) = some (none, fm_W μ' τ) ∧ MR μ' a n T o cs (P p) ∧ mq a μ μ'
theorem MR_pb {μ' : fm_M} {a n o q : Nat} {T : Nat → Int32} {cs l : List Nat} {f : Nat → pT} (h : MR μ' a n T o (cs ++ l) (f q)) : MR μ' a n T o cs (pb (.inr (q, l)) f) := by
  unfold pb
  simp only
  cases hf : f q with
  | inl e => rw [hf] at h; exact h
  | inr y =>
    obtain ⟨q', l'⟩ := y
    rw [hf] at h
    unfold MR at h ⊢
    simp only at h ⊢
    rw [← List.append_assoc]
    exact h
theorem stp_t {j1 j2 w : Nat} (h1 : j1 < 5) (h2 : j2 < 3) (hw : w ≤ 99) : nI (j1 + 8 * j2 + 32 * w) = stp ((j1 * 3 + j2) * 100 + w) := by
  have e1 : ((j1 * 3 + j2) * 100 + w) / 100 = j1 * 3 + j2 := by omega
  have e2 : ((j1 * 3 + j2) * 100 + w) % 100 = w := by omega
  have e3 : (j1 * 3 + j2) / 3 = j1 := by omega
  have e4 : (j1 * 3 + j2) % 3 = j2 := by omega
  unfold stp
  rw [e1, e2, e3, e4, if_neg (by omega), if_neg (by omega), if_neg (by omega), if_neg (by omega), if_neg (by omega)]
theorem stp_m {w : Nat} (hw : w ≤ 99) : -10 - nI w = stp (18 * 100 + w) := by
  have e1 : (18 * 100 + w) / 100 = 18 := by omega
  have e2 : (18 * 100 + w) % 100 = w := by omega
  unfold stp
  rw [e1, e2]
  rfl
theorem stp_l {w : Nat} (hw : w ≤ 99) : -200 - nI w = stp (19 * 100 + w) := by
  have e1 : (19 * 100 + w) / 100 = 19 := by omega
  have e2 : (19 * 100 + w) % 100 = w := by omega
  unfold stp
  rw [e1, e2]
  rfl
section AD
variable {n : Nat} {T : Nat → Int32} {P : Nat → pT}
theorem and_adv (hP : adv (n := n) P) : ∀ (k p q : Nat) (l : List Nat), p ≤ n → andS n T P k p = .inr (q, l) → p ≤ q ∧ q ≤ n ∧ p + l.length ≤ q
  | 0, p, q, l, hp, h => by
    simp [andS] at h
    obtain ⟨rfl, rfl⟩ := h
    simp [hp]
  | k + 1, p, q, l, hp, h => by
    rw [andS] at h
    split at h
    · obtain ⟨q1, c1, c2, h1, h2, rfl⟩ := pb_r h
      obtain ⟨q2, c3, c4, h3, h4, rfl⟩ := pb_r h2
      simp only [em, Sum.inr.injEq, Prod.mk.injEq] at h3
      obtain ⟨rfl, rfl⟩ := h3
      obtain ⟨a1, a2, a3⟩ := hP _ _ _ h1
      have := and_adv hP k _ q c4 a2 h4
      simp only [List.length_append, List.length_cons, List.length_nil]
      omega
    · simp at h
      obtain ⟨rfl, rfl⟩ := h
      simp [hp]
theorem ev_adv (hP : adv (n := n) P) : adv (n := n) (evS n T P) := by
  intro p q l h
  obtain ⟨q1, c1, c2, h1, h2, rfl⟩ := pb_r h
  obtain ⟨a1, a2, a3⟩ := hP _ _ _ h1
  have := and_adv hP _ _ _ _ a2 h2
  rw [List.length_append]
  omega
end AD
section MP
variable {X : ix_X} {d e : Nat} {τ : List fm_D} {a n : Nat} {T : Nat → Int32} {P : Nat → pT}
theorem m_factorW {μ : fm_M} {z : Nat} (h : MW μ a z) : ix_call X d 145 [.ref 67] (fm_W μ τ) = some (none, fm_W μ τ) := by
  obtain ⟨h4, h5, h7⟩ := h
  simp (disch := first | assumption | omega | decide) only [e145, i145_0, i145_1, i145_4, i145_7, i145_8, i145_9, i145_12, i145_13, i145_14, i145_16, i145_19, i145_20, i145_22, i145_25, i145_26, i145_27, i145_30, i145_31, i145_34, i145_35, i145_38, i145_39, i145_42, i145_43, i145_44, i145_47, i145_48, i145_49, i145_52, i145_53, i145_54, i145_57, i145_58, i145_61, i145_64, i145_65, i145_68, i145_69, i145_70, i145_73, i145_74, i145_76, i145_79, i145_80, i145_83, i145_84, i145_85, i145_88, i145_91, i145_92, i145_95, i145_96, i145_98, i145_101, i145_102, i145_103, i145_106, i145_107, i145_108, i145_111, i145_112, i145_113, i145_115, i145_118, i145_119, i145_120, i145_121, i145_122, i145_125, i145_126, i145_129, i145_130, i145_133, i145_134, i145_137, i145_140, i145_141, i145_144, i145_145, i145_147, i145_150, i145_151, i145_152, i145_153, i145_156, i145_159, i145_160, i145_161, i145_164, i145_165, i145_168, i145_169, i145_172, i145_173, i145_176, i145_178, i145_179, i145_180, i145_182, i145_183, i145_184, i145_185, i145_187, i145_189, i145_190, i145_191, i145_194, ix_pv_s, ix_pi_s, zpn, ix_po_s, ix_po_n, ix_ph_s, ix_bk_v, ix_bk_n, zcv, zcv_ne, ↓reduceIte, Nat.reduceEqDiff, zn_m1, zd_lt_p, zd_lt_n, zd_le_p, zd_le_n, zd_eq_p, zd_eq_n, zd_0_p, zd_0_n, zd_0lt_p, zd_0lt_n, zd_le0_p, zd_le0_n, zn_lt0, zn_le0, zn_add, zn_mul, zn_sub, zm_lt, zm_le, zm_eq, zb_1, zb_0, not_true_eq_false, not_false_eq_true, mo_c, mo_g0, mo_s0, mo_g1, mo_g2, mo_g3, mo_s3, mo_g4, mo_s4, mo_g5, mo_s5, mo_g6, mo_s6, mo_g7, mo_s7, mo_g8, mo_s8, mo_g9, mo_g10, mo_g11, mo_g12, mo_g13, mo_s13, mo_g14, mo_s14, mo_g15, mo_s15, mo_g16, mo_g17, mo_s17, mo_g18, mo_s18, mo_g19, mo_g20, mo_s20, mo_g21, mo_s21, mo_g22, mo_s22, mo_g23, mo_s23, ra_25, wa_25, al_25, ra_68, wa_68, al_68, ra_69, wa_69, al_69, ra_70, wa_70, al_70, ra_71, wa_71, al_71, ra_72, wa_72, al_72, ra_73, wa_73, al_73, ra_74, wa_74, al_74, ra_75, wa_75, al_75, h7]
theorem m_everyW {μ : fm_M} {z : Nat} (h : MW μ a z) : ix_call X (d + 1) 144 [.ref 67] (fm_W μ τ) = some (none, fm_W μ τ) := by
  have k1 := m_factorW (X := X) (d := d) (τ := τ) h
  obtain ⟨h4, h5, h7⟩ := h
  simp (disch := first | assumption | omega | decide) only [e144, i144_0, i144_1, i144_4, i144_5, i144_8, i144_11, i144_12, i144_15, i144_17, i144_20, i144_21, i144_22, i144_25, i144_26, i144_27, i144_30, i144_31, i144_34, i144_35, i144_37, i144_40, i144_43, ix_pv_s, ix_pi_s, zpn, ix_po_s, ix_po_n, ix_ph_s, ix_bk_v, ix_bk_n, zcv, zcv_ne, ↓reduceIte, Nat.reduceEqDiff, zn_m1, zd_lt_p, zd_lt_n, zd_le_p, zd_le_n, zd_eq_p, zd_eq_n, zd_0_p, zd_0_n, zd_0lt_p, zd_0lt_n, zd_le0_p, zd_le0_n, zn_lt0, zn_le0, zn_add, zn_mul, zn_sub, zm_lt, zm_le, zm_eq, zb_1, zb_0, not_true_eq_false, not_false_eq_true, mo_c, mo_g0, mo_s0, mo_g1, mo_g2, mo_g3, mo_s3, mo_g4, mo_s4, mo_g5, mo_s5, mo_g6, mo_s6, mo_g7, mo_s7, mo_g8, mo_s8, mo_g9, mo_g10, mo_g11, mo_g12, mo_g13, mo_s13, mo_g14, mo_s14, mo_g15, mo_s15, mo_g16, mo_g17, mo_s17, mo_g18, mo_s18, mo_g19, mo_g20, mo_s20, mo_g21, mo_s21, mo_g22, mo_s22, mo_g23, mo_s23, ra_25, wa_25, al_25, ra_68, wa_68, al_68, ra_69, wa_69, al_69, ra_70, wa_70, al_70, ra_71, wa_71, al_71, ra_72, wa_72, al_72, ra_73, wa_73, al_73, ra_74, wa_74, al_74, ra_75, wa_75, al_75, h7, k1]
theorem m_someW {μ : fm_M} {z : Nat} (h : MW μ a z) : ix_call X (d + 2) 143 [.ref 67] (fm_W μ τ) = some (none, fm_W μ τ) := by
  have k1 := m_everyW (X := X) (d := d) (τ := τ) h
  obtain ⟨h4, h5, h7⟩ := h
  simp (disch := first | assumption | omega | decide) only [e143, i143_0, i143_1, i143_4, i143_5, i143_8, i143_11, i143_12, i143_15, i143_17, i143_20, i143_21, i143_22, i143_25, i143_26, i143_27, i143_30, i143_31, i143_34, i143_35, i143_37, i143_40, i143_43, ix_pv_s, ix_pi_s, zpn, ix_po_s, ix_po_n, ix_ph_s, ix_bk_v, ix_bk_n, zcv, zcv_ne, ↓reduceIte, Nat.reduceEqDiff, zn_m1, zd_lt_p, zd_lt_n, zd_le_p, zd_le_n, zd_eq_p, zd_eq_n, zd_0_p, zd_0_n, zd_0lt_p, zd_0lt_n, zd_le0_p, zd_le0_n, zn_lt0, zn_le0, zn_add, zn_mul, zn_sub, zm_lt, zm_le, zm_eq, zb_1, zb_0, not_true_eq_false, not_false_eq_true, mo_c, mo_g0, mo_s0, mo_g1, mo_g2, mo_g3, mo_s3, mo_g4, mo_s4, mo_g5, mo_s5, mo_g6, mo_s6, mo_g7, mo_s7, mo_g8, mo_s8, mo_g9, mo_g10, mo_g11, mo_g12, mo_g13, mo_s13, mo_g14, mo_s14, mo_g15, mo_s15, mo_g16, mo_g17, mo_s17, mo_g18, mo_s18, mo_g19, mo_g20, mo_s20, mo_g21, mo_s21, mo_g22, mo_s22, mo_g23, mo_s23, ra_25, wa_25, al_25, ra_68, wa_68, al_68, ra_69, wa_69, al_69, ra_70, wa_70, al_70, ra_71, wa_71, al_71, ra_72, wa_72, al_72, ra_73, wa_73, al_73, ra_74, wa_74, al_74, ra_75, wa_75, al_75, h7, k1]
theorem m_sp1 {μ : fm_M} {o p : Nat} {cs : List Nat} (h : MS μ a n T o p cs) (hp : p < n) : MS (fm_u μ 67 5 (nI (p + 1))) a n T o (p + 1) cs := MS_of h (fm_un (by decide)) (fun k hk => fm_uk (by omega)) (by rw [fm_uk (by decide)]; exact h.2.2.2.1) fm_us (by omega) (by have := h.2.2.2.2.2.2.2.2.2; omega)
theorem mq_5 {μ : fm_M} {v : Int32} : mq a μ (fm_u μ 67 5 v) := mq_67 (fun q hq => fm_un hq) (fun k b c _ => fm_uk b)
theorem m_andL {o : Nat} (ha : a < 5) (hn : n ≤ 100) (hP : adv (n := n) P) (hC : mC X τ a n T e 145 [] o P) : ∀ (k p : Nat) (cs : List Nat) (μ : fm_M), n < p + k → MS μ a n T o p cs → ∃ μ' : fm_M, ix_sem X (e + 1) 144 4 [some (.ref 67)] [] (fm_W μ τ) = some (none, fm_W μ' τ) ∧ MR μ' a n T o cs (andS n T P k p) ∧ mq a μ μ'
  | 0, p, cs, μ, hk, h => by
    have := h.2.2.2.2.2.2.2.2.1
    omega
  | k + 1, p, cs, μ, hk, h => by
    have k1 := m_here (X := X) (d := e) (τ := τ) hn h
    have h5 := h.2.1
    have h7 := h.2.2.2.1
    have hpl := h.2.2.2.2.2.2.2.2
    by_cases q38 : sg n T p = nI 38
    · have lp := sg_lt (by decide) q38
      rw [q38] at k1
      obtain ⟨μ2, a2, r2, c2⟩ := hC _ (p + 1) cs (m_sp1 h lp)
      cases hv : P (p + 1) with
      | inl z =>
        rw [hv] at r2
        have r2' : MW μ2 a z := r2
        have k3 := fun x => m_emitsW (X := X) (d := e) (τ := τ) (x := x) r2'
        have w7 := r2'.2.2
        refine ⟨μ2, ?_, ?_, mq_trans mq_5 c2⟩
        · simp (disch := first | assumption | omega | decide) only [i144_0, i144_1, i144_4, i144_5, i144_8, i144_11, i144_12, i144_15, i144_17, i144_20, i144_21, i144_22, i144_25, i144_26, i144_27, i144_30, i144_31, i144_34, i144_35, i144_37, i144_40, i144_43, ix_pv_s, ix_pi_s, zpn, ix_po_s, ix_po_n, ix_ph_s, ix_bk_v, ix_bk_n, zcv, zcv_ne, ↓reduceIte, Nat.reduceEqDiff, zn_m1, zd_lt_p, zd_lt_n, zd_le_p, zd_le_n, zd_eq_p, zd_eq_n, zd_0_p, zd_0_n, zd_0lt_p, zd_0lt_n, zd_le0_p, zd_le0_n, zn_lt0, zn_le0, zn_add, zn_mul, zn_sub, zm_lt, zm_le, zm_eq, zb_1, zb_0, not_true_eq_false, not_false_eq_true, mo_c, mo_g0, mo_s0, mo_g1, mo_g2, mo_g3, mo_s3, mo_g4, mo_s4, mo_g5, mo_s5, mo_g6, mo_s6, mo_g7, mo_s7, mo_g8, mo_s8, mo_g9, mo_g10, mo_g11, mo_g12, mo_g13, mo_s13, mo_g14, mo_s14, mo_g15, mo_s15, mo_g16, mo_g17, mo_s17, mo_g18, mo_s18, mo_g19, mo_g20, mo_s20, mo_g21, mo_s21, mo_g22, mo_s22, mo_g23, mo_s23, ra_25, wa_25, al_25, ra_68, wa_68, al_68, ra_69, wa_69, al_69, ra_70, wa_70, al_70, ra_71, wa_71, al_71, ra_72, wa_72, al_72, ra_73, wa_73, al_73, ra_74, wa_74, al_74, ra_75, wa_75, al_75, h7, k1, h5, a2, k3, w7]
        · rw [andS, if_pos q38, hv]
          exact r2
      | inr y =>
        obtain ⟨q, l⟩ := y
        rw [hv] at r2
        obtain ⟨b1, b2, b3⟩ := hP _ _ _ hv
        obtain ⟨μ3, a3, p3, c3⟩ := m_emits (X := X) (d := e) (τ := τ) (c := 1600) (x := -2) (by decide +kernel) ha hn (by rw [List.length_append]; omega) r2
        obtain ⟨μ4, a4, r4, c4⟩ := m_andL ha hn hP hC k q _ μ3 (by omega) p3
        refine ⟨μ4, ?_, ?_, mq_trans mq_5 (mq_trans c2 (mq_trans c3 c4))⟩
        · rw [← a4, i144_4]
          simp (disch := first | assumption | omega | decide) only [i144_0, i144_1, i144_5, i144_8, i144_11, i144_12, i144_15, i144_17, i144_20, i144_21, i144_22, i144_25, i144_26, i144_27, i144_30, i144_31, i144_34, i144_35, i144_37, i144_40, i144_43, ix_pv_s, ix_pi_s, zpn, ix_po_s, ix_po_n, ix_ph_s, ix_bk_v, ix_bk_n, zcv, zcv_ne, ↓reduceIte, Nat.reduceEqDiff, zn_m1, zd_lt_p, zd_lt_n, zd_le_p, zd_le_n, zd_eq_p, zd_eq_n, zd_0_p, zd_0_n, zd_0lt_p, zd_0lt_n, zd_le0_p, zd_le0_n, zn_lt0, zn_le0, zn_add, zn_mul, zn_sub, zm_lt, zm_le, zm_eq, zb_1, zb_0, not_true_eq_false, not_false_eq_true, mo_c, mo_g0, mo_s0, mo_g1, mo_g2, mo_g3, mo_s3, mo_g4, mo_s4, mo_g5, mo_s5, mo_g6, mo_s6, mo_g7, mo_s7, mo_g8, mo_s8, mo_g9, mo_g10, mo_g11, mo_g12, mo_g13, mo_s13, mo_g14, mo_s14, mo_g15, mo_s15, mo_g16, mo_g17, mo_s17, mo_g18, mo_s18, mo_g19, mo_g20, mo_s20, mo_g21, mo_s21, mo_g22, mo_s22, mo_g23, mo_s23, ra_25, wa_25, al_25, ra_68, wa_68, al_68, ra_69, wa_69, al_69, ra_70, wa_70, al_70, ra_71, wa_71, al_71, ra_72, wa_72, al_72, ra_73, wa_73, al_73, ra_74, wa_74, al_74, ra_75, wa_75, al_75, h7, k1, h5, a2, a3]
        · rw [andS, if_pos q38, hv]
          refine MR_pb ?_
          show MR _ _ _ _ _ _ (pb (.inr (q, [1600])) _)
          exact MR_pb r4
    · refine ⟨μ, ?_, ?_, mq_refl⟩
      · simp (disch := first | assumption | omega | decide) only [i144_0, i144_1, i144_4, i144_5, i144_8, i144_11, i144_12, i144_15, i144_17, i144_20, i144_21, i144_22, i144_25, i144_26, i144_27, i144_30, i144_31, i144_34, i144_35, i144_37, i144_40, i144_43, ix_pv_s, ix_pi_s, zpn, ix_po_s, ix_po_n, ix_ph_s, ix_bk_v, ix_bk_n, zcv, zcv_ne, ↓reduceIte, Nat.reduceEqDiff, zn_m1, zd_lt_p, zd_lt_n, zd_le_p, zd_le_n, zd_eq_p, zd_eq_n, zd_0_p, zd_0_n, zd_0lt_p, zd_0lt_n, zd_le0_p, zd_le0_n, zn_lt0, zn_le0, zn_add, zn_mul, zn_sub, zm_lt, zm_le, zm_eq, zb_1, zb_0, not_true_eq_false, not_false_eq_true, mo_c, mo_g0, mo_s0, mo_g1, mo_g2, mo_g3, mo_s3, mo_g4, mo_s4, mo_g5, mo_s5, mo_g6, mo_s6, mo_g7, mo_s7, mo_g8, mo_s8, mo_g9, mo_g10, mo_g11, mo_g12, mo_g13, mo_s13, mo_g14, mo_s14, mo_g15, mo_s15, mo_g16, mo_g17, mo_s17, mo_g18, mo_s18, mo_g19, mo_g20, mo_s20, mo_g21, mo_s21, mo_g22, mo_s22, mo_g23, mo_s23, ra_25, wa_25, al_25, ra_68, wa_68, al_68, ra_69, wa_69, al_69, ra_70, wa_70, al_70, ra_71, wa_71, al_71, ra_72, wa_72, al_72, ra_73, wa_73, al_73, ra_74, wa_74, al_74, ra_75, wa_75, al_75, h7, k1, q38]
      · rw [andS, if_neg q38]
        show MS μ a n T o p (cs ++ [])
        rw [List.append_nil]
        exact h
theorem m_every {o : Nat} (ha : a < 5) (hn : n ≤ 100) (hP : adv (n := n) P) (hC : mC X τ a n T e 145 [] o P) : mC X τ a n T (e + 1) 144 [] o (evS n T P) := by
  intro μ p cs h
  obtain ⟨μ2, a2, r2, c2⟩ := hC μ p cs h
  cases hv : P p with
  | inl z =>
    rw [hv] at r2
    have r2' : MW μ2 a z := r2
    have w7 := r2'.2.2
    refine ⟨μ2, ?_, ?_, c2⟩
    · simp (disch := first | assumption | omega | decide) only [e144, i144_0, i144_1, i144_4, i144_5, i144_8, i144_11, i144_12, i144_15, i144_17, i144_20, i144_21, i144_22, i144_25, i144_26, i144_27, i144_30, i144_31, i144_34, i144_35, i144_37, i144_40, i144_43, ix_pv_s, ix_pi_s, zpn, ix_po_s, ix_po_n, ix_ph_s, ix_bk_v, ix_bk_n, zcv, zcv_ne, ↓reduceIte, Nat.reduceEqDiff, zn_m1, zd_lt_p, zd_lt_n, zd_le_p, zd_le_n, zd_eq_p, zd_eq_n, zd_0_p, zd_0_n, zd_0lt_p, zd_0lt_n, zd_le0_p, zd_le0_n, zn_lt0, zn_le0, zn_add, zn_mul, zn_sub, zm_lt, zm_le, zm_eq, zb_1, zb_0, not_true_eq_false, not_false_eq_true, mo_c, mo_g0, mo_s0, mo_g1, mo_g2, mo_g3, mo_s3, mo_g4, mo_s4, mo_g5, mo_s5, mo_g6, mo_s6, mo_g7, mo_s7, mo_g8, mo_s8, mo_g9, mo_g10, mo_g11, mo_g12, mo_g13, mo_s13, mo_g14, mo_s14, mo_g15, mo_s15, mo_g16, mo_g17, mo_s17, mo_g18, mo_s18, mo_g19, mo_g20, mo_s20, mo_g21, mo_s21, mo_g22, mo_s22, mo_g23, mo_s23, ra_25, wa_25, al_25, ra_68, wa_68, al_68, ra_69, wa_69, al_69, ra_70, wa_70, al_70, ra_71, wa_71, al_71, ra_72, wa_72, al_72, ra_73, wa_73, al_73, ra_74, wa_74, al_74, ra_75, wa_75, al_75, a2, w7]
    · rw [evS, hv]
      exact r2
  | inr y =>
    obtain ⟨q, l⟩ := y
    rw [hv] at r2
    obtain ⟨μ4, a4, r4, c4⟩ := m_andL ha hn hP hC 101 q _ μ2 (by omega) r2
    refine ⟨μ4, ?_, ?_, mq_trans c2 c4⟩
    · rw [← a4]
      simp (disch := first | assumption | omega | decide) only [e144, i144_0, i144_1, i144_5, i144_8, i144_11, i144_12, i144_15, i144_17, i144_20, i144_21, i144_22, i144_25, i144_26, i144_27, i144_30, i144_31, i144_34, i144_35, i144_37, i144_40, i144_43, ix_pv_s, ix_pi_s, zpn, ix_po_s, ix_po_n, ix_ph_s, ix_bk_v, ix_bk_n, zcv, zcv_ne, ↓reduceIte, Nat.reduceEqDiff, zn_m1, zd_lt_p, zd_lt_n, zd_le_p, zd_le_n, zd_eq_p, zd_eq_n, zd_0_p, zd_0_n, zd_0lt_p, zd_0lt_n, zd_le0_p, zd_le0_n, zn_lt0, zn_le0, zn_add, zn_mul, zn_sub, zm_lt, zm_le, zm_eq, zb_1, zb_0, not_true_eq_false, not_false_eq_true, mo_c, mo_g0, mo_s0, mo_g1, mo_g2, mo_g3, mo_s3, mo_g4, mo_s4, mo_g5, mo_s5, mo_g6, mo_s6, mo_g7, mo_s7, mo_g8, mo_s8, mo_g9, mo_g10, mo_g11, mo_g12, mo_g13, mo_s13, mo_g14, mo_s14, mo_g15, mo_s15, mo_g16, mo_g17, mo_s17, mo_g18, mo_s18, mo_g19, mo_g20, mo_s20, mo_g21, mo_s21, mo_g22, mo_s22, mo_g23, mo_s23, ra_25, wa_25, al_25, ra_68, wa_68, al_68, ra_69, wa_69, al_69, ra_70, wa_70, al_70, ra_71, wa_71, al_71, ra_72, wa_72, al_72, ra_73, wa_73, al_73, ra_74, wa_74, al_74, ra_75, wa_75, al_75, a2]
    · rw [evS, hv]
      exact MR_pb r4
theorem m_orL {o : Nat} (ha : a < 5) (hn : n ≤ 100) (hP : adv (n := n) P) (hC : mC X τ a n T e 144 [] o (evS n T P)) : ∀ (k p : Nat) (cs : List Nat) (μ : fm_M), n < p + k → MS μ a n T o p cs → ∃ μ' : fm_M, ix_sem X (e + 1) 143 4 [some (.ref 67)] [] (fm_W μ τ) = some (none, fm_W μ' τ) ∧ MR μ' a n T o cs (orS n T P k p) ∧ mq a μ μ'
  | 0, p, cs, μ, hk, h => by
    have := h.2.2.2.2.2.2.2.2.1
    omega
  | k + 1, p, cs, μ, hk, h => by
    have k1 := m_here (X := X) (d := e) (τ := τ) hn h
    have h5 := h.2.1
    have h7 := h.2.2.2.1
    have hpl := h.2.2.2.2.2.2.2.2
    by_cases q124 : sg n T p = nI 124
    · have lp := sg_lt (by decide) q124
      rw [q124] at k1
      obtain ⟨μ2, a2, r2, c2⟩ := hC _ (p + 1) cs (m_sp1 h lp)
      cases hv : evS n T P (p + 1) with
      | inl z =>
        rw [hv] at r2
        have r2' : MW μ2 a z := r2
        have k3 := fun x => m_emitsW (X := X) (d := e) (τ := τ) (x := x) r2'
        have w7 := r2'.2.2
        refine ⟨μ2, ?_, ?_, mq_trans mq_5 c2⟩
        · simp (disch := first | assumption | omega | decide) only [i143_0, i143_1, i143_4, i143_5, i143_8, i143_11, i143_12, i143_15, i143_17, i143_20, i143_21, i143_22, i143_25, i143_26, i143_27, i143_30, i143_31, i143_34, i143_35, i143_37, i143_40, i143_43, ix_pv_s, ix_pi_s, zpn, ix_po_s, ix_po_n, ix_ph_s, ix_bk_v, ix_bk_n, zcv, zcv_ne, ↓reduceIte, Nat.reduceEqDiff, zn_m1, zd_lt_p, zd_lt_n, zd_le_p, zd_le_n, zd_eq_p, zd_eq_n, zd_0_p, zd_0_n, zd_0lt_p, zd_0lt_n, zd_le0_p, zd_le0_n, zn_lt0, zn_le0, zn_add, zn_mul, zn_sub, zm_lt, zm_le, zm_eq, zb_1, zb_0, not_true_eq_false, not_false_eq_true, mo_c, mo_g0, mo_s0, mo_g1, mo_g2, mo_g3, mo_s3, mo_g4, mo_s4, mo_g5, mo_s5, mo_g6, mo_s6, mo_g7, mo_s7, mo_g8, mo_s8, mo_g9, mo_g10, mo_g11, mo_g12, mo_g13, mo_s13, mo_g14, mo_s14, mo_g15, mo_s15, mo_g16, mo_g17, mo_s17, mo_g18, mo_s18, mo_g19, mo_g20, mo_s20, mo_g21, mo_s21, mo_g22, mo_s22, mo_g23, mo_s23, ra_25, wa_25, al_25, ra_68, wa_68, al_68, ra_69, wa_69, al_69, ra_70, wa_70, al_70, ra_71, wa_71, al_71, ra_72, wa_72, al_72, ra_73, wa_73, al_73, ra_74, wa_74, al_74, ra_75, wa_75, al_75, h7, k1, h5, a2, k3, w7]
        · rw [orS, if_pos q124, hv]
          exact r2
      | inr y =>
        obtain ⟨q, l⟩ := y
        rw [hv] at r2
        obtain ⟨b1, b2, b3⟩ := ev_adv hP _ _ _ hv
        obtain ⟨μ3, a3, p3, c3⟩ := m_emits (X := X) (d := e) (τ := τ) (c := 1700) (x := -3) (by decide +kernel) ha hn (by rw [List.length_append]; omega) r2
        obtain ⟨μ4, a4, r4, c4⟩ := m_orL ha hn hP hC k q _ μ3 (by omega) p3
        refine ⟨μ4, ?_, ?_, mq_trans mq_5 (mq_trans c2 (mq_trans c3 c4))⟩
        · rw [← a4, i143_4]
          simp (disch := first | assumption | omega | decide) only [i143_0, i143_1, i143_5, i143_8, i143_11, i143_12, i143_15, i143_17, i143_20, i143_21, i143_22, i143_25, i143_26, i143_27, i143_30, i143_31, i143_34, i143_35, i143_37, i143_40, i143_43, ix_pv_s, ix_pi_s, zpn, ix_po_s, ix_po_n, ix_ph_s, ix_bk_v, ix_bk_n, zcv, zcv_ne, ↓reduceIte, Nat.reduceEqDiff, zn_m1, zd_lt_p, zd_lt_n, zd_le_p, zd_le_n, zd_eq_p, zd_eq_n, zd_0_p, zd_0_n, zd_0lt_p, zd_0lt_n, zd_le0_p, zd_le0_n, zn_lt0, zn_le0, zn_add, zn_mul, zn_sub, zm_lt, zm_le, zm_eq, zb_1, zb_0, not_true_eq_false, not_false_eq_true, mo_c, mo_g0, mo_s0, mo_g1, mo_g2, mo_g3, mo_s3, mo_g4, mo_s4, mo_g5, mo_s5, mo_g6, mo_s6, mo_g7, mo_s7, mo_g8, mo_s8, mo_g9, mo_g10, mo_g11, mo_g12, mo_g13, mo_s13, mo_g14, mo_s14, mo_g15, mo_s15, mo_g16, mo_g17, mo_s17, mo_g18, mo_s18, mo_g19, mo_g20, mo_s20, mo_g21, mo_s21, mo_g22, mo_s22, mo_g23, mo_s23, ra_25, wa_25, al_25, ra_68, wa_68, al_68, ra_69, wa_69, al_69, ra_70, wa_70, al_70, ra_71, wa_71, al_71, ra_72, wa_72, al_72, ra_73, wa_73, al_73, ra_74, wa_74, al_74, ra_75, wa_75, al_75, h7, k1, h5, a2, a3]
        · rw [orS, if_pos q124, hv]
          refine MR_pb ?_
          show MR _ _ _ _ _ _ (pb (.inr (q, [1700])) _)
          exact MR_pb r4
    · refine ⟨μ, ?_, ?_, mq_refl⟩
      · simp (disch := first | assumption | omega | decide) only [i143_0, i143_1, i143_4, i143_5, i143_8, i143_11, i143_12, i143_15, i143_17, i143_20, i143_21, i143_22, i143_25, i143_26, i143_27, i143_30, i143_31, i143_34, i143_35, i143_37, i143_40, i143_43, ix_pv_s, ix_pi_s, zpn, ix_po_s, ix_po_n, ix_ph_s, ix_bk_v, ix_bk_n, zcv, zcv_ne, ↓reduceIte, Nat.reduceEqDiff, zn_m1, zd_lt_p, zd_lt_n, zd_le_p, zd_le_n, zd_eq_p, zd_eq_n, zd_0_p, zd_0_n, zd_0lt_p, zd_0lt_n, zd_le0_p, zd_le0_n, zn_lt0, zn_le0, zn_add, zn_mul, zn_sub, zm_lt, zm_le, zm_eq, zb_1, zb_0, not_true_eq_false, not_false_eq_true, mo_c, mo_g0, mo_s0, mo_g1, mo_g2, mo_g3, mo_s3, mo_g4, mo_s4, mo_g5, mo_s5, mo_g6, mo_s6, mo_g7, mo_s7, mo_g8, mo_s8, mo_g9, mo_g10, mo_g11, mo_g12, mo_g13, mo_s13, mo_g14, mo_s14, mo_g15, mo_s15, mo_g16, mo_g17, mo_s17, mo_g18, mo_s18, mo_g19, mo_g20, mo_s20, mo_g21, mo_s21, mo_g22, mo_s22, mo_g23, mo_s23, ra_25, wa_25, al_25, ra_68, wa_68, al_68, ra_69, wa_69, al_69, ra_70, wa_70, al_70, ra_71, wa_71, al_71, ra_72, wa_72, al_72, ra_73, wa_73, al_73, ra_74, wa_74, al_74, ra_75, wa_75, al_75, h7, k1, q124]
      · rw [orS, if_neg q124]
        show MS μ a n T o p (cs ++ [])
        rw [List.append_nil]
        exact h
theorem m_some {o : Nat} (ha : a < 5) (hn : n ≤ 100) (hP : adv (n := n) P) (hC : mC X τ a n T e 145 [] o P) : mC X τ a n T (e + 2) 143 [] o (choS n T P) := by
  intro μ p cs h
  rw [cho_som hP hn]
  have hE := m_every ha hn hP hC
  obtain ⟨μ2, a2, r2, c2⟩ := hE μ p cs h
  cases hv : evS n T P p with
  | inl z =>
    rw [hv] at r2
    have r2' : MW μ2 a z := r2
    have w7 := r2'.2.2
    refine ⟨μ2, ?_, ?_, c2⟩
    · simp (disch := first | assumption | omega | decide) only [e143, i143_0, i143_1, i143_4, i143_5, i143_8, i143_11, i143_12, i143_15, i143_17, i143_20, i143_21, i143_22, i143_25, i143_26, i143_27, i143_30, i143_31, i143_34, i143_35, i143_37, i143_40, i143_43, ix_pv_s, ix_pi_s, zpn, ix_po_s, ix_po_n, ix_ph_s, ix_bk_v, ix_bk_n, zcv, zcv_ne, ↓reduceIte, Nat.reduceEqDiff, zn_m1, zd_lt_p, zd_lt_n, zd_le_p, zd_le_n, zd_eq_p, zd_eq_n, zd_0_p, zd_0_n, zd_0lt_p, zd_0lt_n, zd_le0_p, zd_le0_n, zn_lt0, zn_le0, zn_add, zn_mul, zn_sub, zm_lt, zm_le, zm_eq, zb_1, zb_0, not_true_eq_false, not_false_eq_true, mo_c, mo_g0, mo_s0, mo_g1, mo_g2, mo_g3, mo_s3, mo_g4, mo_s4, mo_g5, mo_s5, mo_g6, mo_s6, mo_g7, mo_s7, mo_g8, mo_s8, mo_g9, mo_g10, mo_g11, mo_g12, mo_g13, mo_s13, mo_g14, mo_s14, mo_g15, mo_s15, mo_g16, mo_g17, mo_s17, mo_g18, mo_s18, mo_g19, mo_g20, mo_s20, mo_g21, mo_s21, mo_g22, mo_s22, mo_g23, mo_s23, ra_25, wa_25, al_25, ra_68, wa_68, al_68, ra_69, wa_69, al_69, ra_70, wa_70, al_70, ra_71, wa_71, al_71, ra_72, wa_72, al_72, ra_73, wa_73, al_73, ra_74, wa_74, al_74, ra_75, wa_75, al_75, a2, w7]
    · rw [somS, hv]
      exact r2
  | inr y =>
    obtain ⟨q, l⟩ := y
    rw [hv] at r2
    obtain ⟨μ4, a4, r4, c4⟩ := m_orL ha hn hP hE 101 q _ μ2 (by omega) r2
    refine ⟨μ4, ?_, ?_, mq_trans c2 c4⟩
    · rw [← a4]
      simp (disch := first | assumption | omega | decide) only [e143, i143_0, i143_1, i143_5, i143_8, i143_11, i143_12, i143_15, i143_17, i143_20, i143_21, i143_22, i143_25, i143_26, i143_27, i143_30, i143_31, i143_34, i143_35, i143_37, i143_40, i143_43, ix_pv_s, ix_pi_s, zpn, ix_po_s, ix_po_n, ix_ph_s, ix_bk_v, ix_bk_n, zcv, zcv_ne, ↓reduceIte, Nat.reduceEqDiff, zn_m1, zd_lt_p, zd_lt_n, zd_le_p, zd_le_n, zd_eq_p, zd_eq_n, zd_0_p, zd_0_n, zd_0lt_p, zd_0lt_n, zd_le0_p, zd_le0_n, zn_lt0, zn_le0, zn_add, zn_mul, zn_sub, zm_lt, zm_le, zm_eq, zb_1, zb_0, not_true_eq_false, not_false_eq_true, mo_c, mo_g0, mo_s0, mo_g1, mo_g2, mo_g3, mo_s3, mo_g4, mo_s4, mo_g5, mo_s5, mo_g6, mo_s6, mo_g7, mo_s7, mo_g8, mo_s8, mo_g9, mo_g10, mo_g11, mo_g12, mo_g13, mo_s13, mo_g14, mo_s14, mo_g15, mo_s15, mo_g16, mo_g17, mo_s17, mo_g18, mo_s18, mo_g19, mo_g20, mo_s20, mo_g21, mo_s21, mo_g22, mo_s22, mo_g23, mo_s23, ra_25, wa_25, al_25, ra_68, wa_68, al_68, ra_69, wa_69, al_69, ra_70, wa_70, al_70, ra_71, wa_71, al_71, ra_72, wa_72, al_72, ra_73, wa_73, al_73, ra_74, wa_74, al_74, ra_75, wa_75, al_75, a2]
    · rw [somS, hv]
      exact MR_pb r4
end MP
