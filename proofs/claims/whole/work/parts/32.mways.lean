/-! ===== the model's ways ===== -/
--need 31.trips
/-- where, when, got -/
def mtr (μ : fm_M) (pl mn : Nat) (gt : Int32) : Prop := μ 67 13 = nI pl ∧ μ 67 14 = nI mn ∧ μ 67 15 = gt
def mg (μ μ' : fm_M) : Prop := (∀ r, r ≠ 67 → r ≠ 70 → r ≠ 71 → r ≠ 72 → r ≠ 73 → μ' r = μ r) ∧ ∀ k, k ≠ 13 → k ≠ 14 → k ≠ 15 → μ' 67 k = μ 67 k
section MW
variable {X : ix_X} {d : Nat} {τ : List fm_D} {μ : fm_M} {S : Nat → Int32} {cs : List Nat} {n u m : Nat}
theorem mg_refl : mg μ μ := ⟨fun _ _ _ _ _ _ => rfl, fun _ _ _ _ => rfl⟩
theorem mg_trans {μ1 μ2 μ3 : fm_M} (h : mg μ1 μ2) (h' : mg μ2 μ3) : mg μ1 μ3 := ⟨fun r a b c e f => (h'.1 r a b c e f).trans (h.1 r a b c e f), fun k a b c => (h'.2 k a b c).trans (h.2 k a b c)⟩
theorem mg_mf {μ' : fm_M} (h : mf μ μ') : mg μ μ' := ⟨fun r _ b c e f => h r b c e f, fun k _ _ _ => by rw [h 67 (by decide) (by decide) (by decide) (by decide)]⟩
theorem mg_u {k : Nat} {x : Int32} (hk : k = 13 ∨ k = 14 ∨ k = 15) : mg μ (fm_u μ 67 k x) := ⟨fun r a _ _ _ _ => fm_un a, fun j a b c => fm_uk (by omega)⟩
theorem mk2_u {k : Nat} {x : Int32} (h : mk2 μ S n cs) : mk2 (fm_u μ 67 k x) S n cs := by
  obtain ⟨⟨a, b, c⟩, e⟩ := h
  refine ⟨⟨a, by rw [fm_un (by decide)]; exact b, fun v hv => ?_⟩, by rw [fm_un (by decide)]; exact e⟩
  rw [fm_un (show (68 : Nat) ≠ 67 by decide)]
  exact fk_of (c v hv) (by rw [fm_un (by decide)]) (fun k _ => by rw [fm_un (by decide)])
theorem mo_starts {now l : Nat} (hk : mk2 μ S n cs) (hS : S 8 = nI now) : ∃ μ' : fm_M, ix_call X d 174 [.ref 67, .int (nI l)] (fm_W μ τ) = some (none, fm_W μ' τ) ∧ mk2 μ' S n cs ∧ mtr μ' 0 (now + l) (nI 0) ∧ mg μ μ' := by
  have e0 := hk.2
  refine ⟨fm_u (fm_u (fm_u μ 67 13 (nI 0)) 67 14 (nI (now + l))) 67 15 (nI 0), ?_, mk2_u (mk2_u (mk2_u hk)), ⟨?_, ?_, ?_⟩, mg_trans (mg_trans (mg_u (by decide)) (mg_u (by decide))) (mg_u (by decide))⟩
  · simp (disch := first | assumption | omega | decide) only [e174, i174_0, i174_1, i174_2, i174_5, i174_6, i174_7, i174_10, i174_12, i174_13, i174_14, i174_15, i174_18, i174_19, i174_20, i174_23, ix_pv_s, ix_pi_s, zpn, ix_po_s, ix_po_n, ix_ph_s, ix_bk_v, ix_bk_n, zcv, zcv_ne, ↓reduceIte, Nat.reduceEqDiff, zn_m1, zd_lt_p, zd_lt_n, zd_le_p, zd_le_n, zd_eq_p, zd_eq_n, zd_0_p, zd_0_n, zd_0lt_p, zd_0lt_n, zd_le0_p, zd_le0_n, zn_lt0, zn_le0, zn_add, zn_mul, zn_sub, zm_lt, zm_le, zm_eq, zb_1, zb_0, not_true_eq_false, not_false_eq_true, mo_c, mo_g0, mo_s0, mo_g1, mo_g2, mo_g3, mo_s3, mo_g4, mo_s4, mo_g5, mo_s5, mo_g6, mo_s6, mo_g7, mo_s7, mo_g8, mo_s8, mo_g9, mo_g10, mo_g11, mo_g12, mo_g13, mo_s13, mo_g14, mo_s14, mo_g15, mo_s15, mo_g16, mo_g17, mo_s17, mo_g18, mo_s18, mo_g19, mo_g20, mo_s20, mo_g21, mo_s21, mo_g22, mo_s22, mo_g23, mo_s23, ra_25, wa_25, al_25, ra_68, wa_68, al_68, ra_69, wa_69, al_69, ra_70, wa_70, al_70, ra_71, wa_71, al_71, ra_72, wa_72, al_72, ra_73, wa_73, al_73, ra_74, wa_74, al_74, ra_75, wa_75, al_75, fm_un, e0, hS]
  all_goals simp (disch := first | assumption | omega | decide) only [fm_us, fm_uk]
theorem mo_walks {pace pl mn to : Nat} {gt : Int32} (hk : mk2 μ S n cs) (ht : mtr μ pl mn gt) (hp1 : 1 ≤ pace) (hp2 : pace ≤ 100) (hpl : pl ≤ 99) (hto : to ≤ 99) (ha : mn + wkM pace pl to ≤ 1600) : ∃ μ' : fm_M, ix_call X (d + 3) 175 [.ref 67, .int (nI to), .int (nI pace)] (fm_W μ τ) = some (none, fm_W μ' τ) ∧ mk2 μ' S n cs ∧ mtr μ' to (mn + wkM pace pl to) (gt + (sS (rn S cs 6) (mn + wkM pace pl to) - sS (rn S cs 6) mn)) ∧ mg μ μ' := by
  obtain ⟨t1, t2, t3⟩ := ht
  have hy : ¬ nI pace = 0 := by rw [zn_eq0 (by omega)]; omega
  have hw : ((if pl ≤ to then to - pl else pl - to) + pace - 1) / pace = wkM pace pl to := rfl
  have fin : ∀ (μ2 : fm_M) (g : Int32), mk2 μ2 S n cs → mf μ μ2 → g = gt + (sS (rn S cs 6) (mn + wkM pace pl to) - sS (rn S cs 6) mn) → mk2 (fm_u (fm_u (fm_u μ2 67 15 g) 67 14 (nI (mn + wkM pace pl to))) 67 13 (nI to)) S n cs ∧ mtr (fm_u (fm_u (fm_u μ2 67 15 g) 67 14 (nI (mn + wkM pace pl to))) 67 13 (nI to)) to (mn + wkM pace pl to) (gt + (sS (rn S cs 6) (mn + wkM pace pl to) - sS (rn S cs 6) mn)) ∧ mg μ (fm_u (fm_u (fm_u μ2 67 15 g) 67 14 (nI (mn + wkM pace pl to))) 67 13 (nI to)) := by
    intro μ2 g b2 f2 hg
    subst hg
    refine ⟨mk2_u (mk2_u (mk2_u b2)), ⟨fm_us, ?_, ?_⟩, mg_trans (mg_trans (mg_trans (mg_mf f2) (mg_u (by decide))) (mg_u (by decide))) (mg_u (by decide))⟩
    all_goals simp (disch := first | assumption | omega | decide) only [fm_us, fm_uk]
  rcases Nat.eq_zero_or_pos (wkM pace pl to) with h0 | h0
  · obtain hf := fin μ (gt + nI 0) hk mf_refl (by rw [h0, Nat.add_zero, Int32.sub_self]; rfl)
    refine ⟨_, ?_, hf⟩
    by_cases hle : to ≤ pl
    · have hyd : (if pl ≤ to then to - pl else pl - to) = pl - to := by split <;> omega
      rw [hyd] at hw
      simp (disch := first | assumption | omega | decide) only [e175, i175_0, i175_1, i175_2, i175_5, i175_8, i175_9, i175_10, i175_13, i175_14, i175_17, i175_18, i175_21, i175_22, i175_23, i175_24, i175_25, i175_26, i175_27, i175_28, i175_29, i175_30, i175_31, i175_33, i175_34, i175_35, i175_38, i175_40, i175_43, i175_44, i175_47, i175_48, i175_50, i175_51, i175_54, i175_56, i175_57, i175_58, i175_59, i175_62, i175_63, i175_65, i175_66, i175_69, i175_70, i175_71, i175_74, i175_75, i175_76, i175_79, i175_80, i175_81, i175_84, i175_86, i175_87, i175_90, i175_91, i175_92, i175_95, ix_pv_s, ix_pi_s, zpn, ix_po_s, ix_po_n, ix_ph_s, ix_bk_v, ix_bk_n, zcv, zcv_ne, ↓reduceIte, Nat.reduceEqDiff, zn_m1, zd_lt_p, zd_lt_n, zd_le_p, zd_le_n, zd_eq_p, zd_eq_n, zd_0_p, zd_0_n, zd_0lt_p, zd_0lt_n, zd_le0_p, zd_le0_n, zn_lt0, zn_le0, zn_add, zn_mul, zn_sub, zm_lt, zm_le, zm_eq, zb_1, zb_0, not_true_eq_false, not_false_eq_true, mo_c, mo_g0, mo_s0, mo_g1, mo_g2, mo_g3, mo_s3, mo_g4, mo_s4, mo_g5, mo_s5, mo_g6, mo_s6, mo_g7, mo_s7, mo_g8, mo_s8, mo_g9, mo_g10, mo_g11, mo_g12, mo_g13, mo_s13, mo_g14, mo_s14, mo_g15, mo_s15, mo_g16, mo_g17, mo_s17, mo_g18, mo_s18, mo_g19, mo_g20, mo_s20, mo_g21, mo_s21, mo_g22, mo_s22, mo_g23, mo_s23, t1, t2, t3, zn_div, hw, h0, fm_uk, fm_us, not_true_eq_false, Nat.add_zero]
    · have hyd : (if pl ≤ to then to - pl else pl - to) = to - pl := by split <;> omega
      rw [hyd] at hw
      simp (disch := first | assumption | omega | decide) only [e175, i175_0, i175_1, i175_2, i175_5, i175_8, i175_9, i175_10, i175_13, i175_14, i175_17, i175_18, i175_21, i175_22, i175_23, i175_24, i175_25, i175_26, i175_27, i175_28, i175_29, i175_30, i175_31, i175_33, i175_34, i175_35, i175_38, i175_40, i175_43, i175_44, i175_47, i175_48, i175_50, i175_51, i175_54, i175_56, i175_57, i175_58, i175_59, i175_62, i175_63, i175_65, i175_66, i175_69, i175_70, i175_71, i175_74, i175_75, i175_76, i175_79, i175_80, i175_81, i175_84, i175_86, i175_87, i175_90, i175_91, i175_92, i175_95, ix_pv_s, ix_pi_s, zpn, ix_po_s, ix_po_n, ix_ph_s, ix_bk_v, ix_bk_n, zcv, zcv_ne, ↓reduceIte, Nat.reduceEqDiff, zn_m1, zd_lt_p, zd_lt_n, zd_le_p, zd_le_n, zd_eq_p, zd_eq_n, zd_0_p, zd_0_n, zd_0lt_p, zd_0lt_n, zd_le0_p, zd_le0_n, zn_lt0, zn_le0, zn_add, zn_mul, zn_sub, zm_lt, zm_le, zm_eq, zb_1, zb_0, not_true_eq_false, not_false_eq_true, mo_c, mo_g0, mo_s0, mo_g1, mo_g2, mo_g3, mo_s3, mo_g4, mo_s4, mo_g5, mo_s5, mo_g6, mo_s6, mo_g7, mo_s7, mo_g8, mo_s8, mo_g9, mo_g10, mo_g11, mo_g12, mo_g13, mo_s13, mo_g14, mo_s14, mo_g15, mo_s15, mo_g16, mo_g17, mo_s17, mo_g18, mo_s18, mo_g19, mo_g20, mo_s20, mo_g21, mo_s21, mo_g22, mo_s22, mo_g23, mo_s23, t1, t2, t3, zn_div, hw, h0, fm_uk, fm_us, not_true_eq_false, Nat.add_zero]
  · obtain ⟨μ1, a1, b1, c1⟩ := fb2_at (X := X) (d := d) (τ := τ) (u := 6) (m := mn + wkM pace pl to - 1) hk (Or.inr rfl) (by omega)
    obtain ⟨μ2, a2, b2, c2⟩ := fb2_pred (X := X) (d := d) (τ := τ) (u := 6) (m := mn) b1 (Or.inr rfl) (by omega)
    rw [show mn + wkM pace pl to - 1 + 1 = mn + wkM pace pl to by omega] at a1
    have q1 : μ1 67 = μ 67 := c1 67 (by decide) (by decide) (by decide) (by decide)
    have q2 : μ2 67 = μ1 67 := c2 67 (by decide) (by decide) (by decide) (by decide)
    obtain hf := fin μ2 _ b2 (mf_trans c1 c2) rfl
    refine ⟨_, ?_, hf⟩
    by_cases hle : to ≤ pl
    · have hyd : (if pl ≤ to then to - pl else pl - to) = pl - to := by split <;> omega
      rw [hyd] at hw
      simp (disch := first | assumption | omega | decide) only [e175, i175_0, i175_1, i175_2, i175_5, i175_8, i175_9, i175_10, i175_13, i175_14, i175_17, i175_18, i175_21, i175_22, i175_23, i175_24, i175_25, i175_26, i175_27, i175_28, i175_29, i175_30, i175_31, i175_33, i175_34, i175_35, i175_38, i175_40, i175_43, i175_44, i175_47, i175_48, i175_50, i175_51, i175_54, i175_56, i175_57, i175_58, i175_59, i175_62, i175_63, i175_65, i175_66, i175_69, i175_70, i175_71, i175_74, i175_75, i175_76, i175_79, i175_80, i175_81, i175_84, i175_86, i175_87, i175_90, i175_91, i175_92, i175_95, ix_pv_s, ix_pi_s, zpn, ix_po_s, ix_po_n, ix_ph_s, ix_bk_v, ix_bk_n, zcv, zcv_ne, ↓reduceIte, Nat.reduceEqDiff, zn_m1, zd_lt_p, zd_lt_n, zd_le_p, zd_le_n, zd_eq_p, zd_eq_n, zd_0_p, zd_0_n, zd_0lt_p, zd_0lt_n, zd_le0_p, zd_le0_n, zn_lt0, zn_le0, zn_add, zn_mul, zn_sub, zm_lt, zm_le, zm_eq, zb_1, zb_0, not_true_eq_false, not_false_eq_true, mo_c, mo_g0, mo_s0, mo_g1, mo_g2, mo_g3, mo_s3, mo_g4, mo_s4, mo_g5, mo_s5, mo_g6, mo_s6, mo_g7, mo_s7, mo_g8, mo_s8, mo_g9, mo_g10, mo_g11, mo_g12, mo_g13, mo_s13, mo_g14, mo_s14, mo_g15, mo_s15, mo_g16, mo_g17, mo_s17, mo_g18, mo_s18, mo_g19, mo_g20, mo_s20, mo_g21, mo_s21, mo_g22, mo_s22, mo_g23, mo_s23, t1, t2, t3, zn_div, hw, a1, a2, q1, q2, fm_uk, fm_us]
    · have hyd : (if pl ≤ to then to - pl else pl - to) = to - pl := by split <;> omega
      rw [hyd] at hw
      simp (disch := first | assumption | omega | decide) only [e175, i175_0, i175_1, i175_2, i175_5, i175_8, i175_9, i175_10, i175_13, i175_14, i175_17, i175_18, i175_21, i175_22, i175_23, i175_24, i175_25, i175_26, i175_27, i175_28, i175_29, i175_30, i175_31, i175_33, i175_34, i175_35, i175_38, i175_40, i175_43, i175_44, i175_47, i175_48, i175_50, i175_51, i175_54, i175_56, i175_57, i175_58, i175_59, i175_62, i175_63, i175_65, i175_66, i175_69, i175_70, i175_71, i175_74, i175_75, i175_76, i175_79, i175_80, i175_81, i175_84, i175_86, i175_87, i175_90, i175_91, i175_92, i175_95, ix_pv_s, ix_pi_s, zpn, ix_po_s, ix_po_n, ix_ph_s, ix_bk_v, ix_bk_n, zcv, zcv_ne, ↓reduceIte, Nat.reduceEqDiff, zn_m1, zd_lt_p, zd_lt_n, zd_le_p, zd_le_n, zd_eq_p, zd_eq_n, zd_0_p, zd_0_n, zd_0lt_p, zd_0lt_n, zd_le0_p, zd_le0_n, zn_lt0, zn_le0, zn_add, zn_mul, zn_sub, zm_lt, zm_le, zm_eq, zb_1, zb_0, not_true_eq_false, not_false_eq_true, mo_c, mo_g0, mo_s0, mo_g1, mo_g2, mo_g3, mo_s3, mo_g4, mo_s4, mo_g5, mo_s5, mo_g6, mo_s6, mo_g7, mo_s7, mo_g8, mo_s8, mo_g9, mo_g10, mo_g11, mo_g12, mo_g13, mo_s13, mo_g14, mo_s14, mo_g15, mo_s15, mo_g16, mo_g17, mo_s17, mo_g18, mo_s18, mo_g19, mo_g20, mo_s20, mo_g21, mo_s21, mo_g22, mo_s22, mo_g23, mo_s23, t1, t2, t3, zn_div, hw, a1, a2, q1, q2, fm_uk, fm_us]
theorem mo_wloop {pl v kind : Nat} (hu : u < n) (hkd : S (11 + u) = nI kind) (hk6 : kind ≤ 6) (hv : S (17 + u) = nI v) (hv9 : v ≤ 9) : ∀ (k j mn : Nat) (gt : Int32) (μ : fm_M), mk2 μ S n cs → mtr μ pl mn gt → mn + k ≤ 1600 → j + k < 10000 →
    ∃ μ' : fm_M, ix_sem X (d + 6) 182 2 [some (.ref 67), some (.int (nI u)), some (.int (nI (j + k))), some (.int (nI j))] [] (fm_W μ τ) = some (none, fm_W μ' τ) ∧ mk2 μ' S n cs ∧ mtr μ' pl (mn + k) (waitS (wet (rn S cs u) (S (23 + u)) kind v (fun k => S (35 + 4 * u + k))) mn k gt) ∧ mg μ μ'
  | 0, j, mn, gt, μ, hk, ht, hm, hj => by
    refine ⟨μ, ?_, hk, ht, mg_refl⟩
    simp (disch := first | assumption | omega | decide) only [i182_0, i182_1, i182_2, i182_3, i182_4, i182_7, i182_8, i182_9, i182_12, i182_13, i182_14, i182_15, i182_18, i182_21, i182_22, i182_25, i182_26, i182_27, i182_30, i182_31, i182_32, i182_35, i182_38, i182_41, ix_pv_s, ix_pi_s, zpn, ix_po_s, ix_po_n, ix_ph_s, ix_bk_v, ix_bk_n, zcv, zcv_ne, ↓reduceIte, Nat.reduceEqDiff, zn_m1, zd_lt_p, zd_lt_n, zd_le_p, zd_le_n, zd_eq_p, zd_eq_n, zd_0_p, zd_0_n, zd_0lt_p, zd_0lt_n, zd_le0_p, zd_le0_n, zn_lt0, zn_le0, zn_add, zn_mul, zn_sub, zm_lt, zm_le, zm_eq, zb_1, zb_0, not_true_eq_false, not_false_eq_true, Nat.add_zero]
  | k + 1, j, mn, gt, μ, hk, ht, hm, hj => by
    obtain ⟨t1, t2, t3⟩ := ht
    obtain ⟨μ1, a1, b1, c1⟩ := mo_under (X := X) (d := d) (τ := τ) (m := mn) hk hu (by omega) hkd hk6 hv hv9
    have q1 : μ1 67 = μ 67 := c1 67 (by decide) (by decide) (by decide) (by decide)
    have e1 : j + 1 + k = j + (k + 1) := by omega
    obtain ⟨μ', a2, b2, t2', f2⟩ := mo_wloop hu hkd hk6 hv hv9 k (j + 1) (mn + 1) (gt + wet (rn S cs u) (S (23 + u)) kind v (fun k => S (35 + 4 * u + k)) mn) (fm_u (fm_u μ1 67 15 (gt + wet (rn S cs u) (S (23 + u)) kind v (fun k => S (35 + 4 * u + k)) mn)) 67 14 (nI (mn + 1))) (mk2_u (mk2_u b1)) ⟨by rw [fm_uk (by decide), fm_uk (by decide), q1]; exact t1, fm_us, by rw [fm_uk (by decide), fm_us]⟩ (by omega) (by omega)
    refine ⟨μ', ?_, b2, ?_, mg_trans (mg_trans (mg_trans (mg_mf c1) (mg_u (by decide))) (mg_u (by decide))) f2⟩
    · rw [← a2, i182_2]
      simp (disch := first | assumption | omega | decide) only [i182_0, i182_1, i182_3, i182_4, i182_7, i182_8, i182_9, i182_12, i182_13, i182_14, i182_15, i182_18, i182_21, i182_22, i182_25, i182_26, i182_27, i182_30, i182_31, i182_32, i182_35, i182_38, i182_41, ix_pv_s, ix_pi_s, zpn, ix_po_s, ix_po_n, ix_ph_s, ix_bk_v, ix_bk_n, zcv, zcv_ne, ↓reduceIte, Nat.reduceEqDiff, zn_m1, zd_lt_p, zd_lt_n, zd_le_p, zd_le_n, zd_eq_p, zd_eq_n, zd_0_p, zd_0_n, zd_0lt_p, zd_0lt_n, zd_le0_p, zd_le0_n, zn_lt0, zn_le0, zn_add, zn_mul, zn_sub, zm_lt, zm_le, zm_eq, zb_1, zb_0, not_true_eq_false, not_false_eq_true, mo_c, mo_g0, mo_s0, mo_g1, mo_g2, mo_g3, mo_s3, mo_g4, mo_s4, mo_g5, mo_s5, mo_g6, mo_s6, mo_g7, mo_s7, mo_g8, mo_s8, mo_g9, mo_g10, mo_g11, mo_g12, mo_g13, mo_s13, mo_g14, mo_s14, mo_g15, mo_s15, mo_g16, mo_g17, mo_s17, mo_g18, mo_s18, mo_g19, mo_g20, mo_s20, mo_g21, mo_s21, mo_g22, mo_s22, mo_g23, mo_s23, t2, t3, a1, q1, e1, fm_uk, fm_us]
    · rw [show mn + (k + 1) = mn + 1 + k by omega]
      exact t2'
theorem mo_waits {pl mn v kind k : Nat} {gt : Int32} (hk : mk2 μ S n cs) (ht : mtr μ pl mn gt) (hu : u < n) (hkd : S (11 + u) = nI kind) (hk6 : kind ≤ 6) (hv : S (17 + u) = nI v) (hv9 : v ≤ 9) (hm : mn + k ≤ 1600) : ∃ μ' : fm_M, ix_call X (d + 6) 182 [.ref 67, .int (nI u), .int (nI k)] (fm_W μ τ) = some (none, fm_W μ' τ) ∧ mk2 μ' S n cs ∧ mtr μ' pl (mn + k) (waitS (wet (rn S cs u) (S (23 + u)) kind v (fun k => S (35 + 4 * u + k))) mn k gt) ∧ mg μ μ' := by
  obtain ⟨μ', a, b⟩ := mo_wloop (X := X) (d := d) (τ := τ) hu hkd hk6 hv hv9 k 0 mn gt μ hk ht hm (by omega)
  refine ⟨μ', ?_, b⟩
  rw [Nat.zero_add] at a
  rw [← a]
  simp (disch := first | assumption | omega | decide) only [e182, i182_0, i182_1, i182_3, i182_4, i182_7, i182_8, i182_9, i182_12, i182_13, i182_14, i182_15, i182_18, i182_21, i182_22, i182_25, i182_26, i182_27, i182_30, i182_31, i182_32, i182_35, i182_38, i182_41, ix_pv_s, ix_pi_s, zpn, ix_po_s, ix_po_n, ix_ph_s, ix_bk_v, ix_bk_n, zcv, zcv_ne, ↓reduceIte, Nat.reduceEqDiff, zn_m1, zd_lt_p, zd_lt_n, zd_le_p, zd_le_n, zd_eq_p, zd_eq_n, zd_0_p, zd_0_n, zd_0lt_p, zd_0lt_n, zd_le0_p, zd_le0_n, zn_lt0, zn_le0, zn_add, zn_mul, zn_sub, zm_lt, zm_le, zm_eq, zb_1, zb_0, not_true_eq_false, not_false_eq_true]
end MW
