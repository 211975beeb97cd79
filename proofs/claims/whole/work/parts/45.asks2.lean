/-! ===== as, trace, count; dry, drips, stops, soaked, looked ===== -/
--need 44.asks
/-- is kind k' one of k or under it -/
def isU (kind k : Nat) : Bool := decide (k = 0 ∨ k = kind ∨ (0 < k ∧ k < 4 ∧ kind = k + 3))
theorem in3_0_1 : ix_in3 (some (kc 0)) [1, 6] [0, 2, 7, 8, 9] = some (nI 0) := rfl
theorem in3_0_2 : ix_in3 (some (kc 0)) [0, 7] [1, 2, 6, 8, 9] = some (nI 0) := rfl
theorem in3_0_3 : ix_in3 (some (kc 0)) [2, 8] [0, 1, 6, 7, 9] = some (nI 0) := rfl
theorem in3_0_4 : ix_in3 (some (kc 0)) [1] [0, 2, 6, 7, 8, 9] = some (nI 0) := rfl
theorem in3_0_5 : ix_in3 (some (kc 0)) [0] [1, 2, 6, 7, 8, 9] = some (nI 0) := rfl
theorem in3_0_6 : ix_in3 (some (kc 0)) [8] [0, 1, 2, 6, 7, 9] = some (nI 0) := rfl
theorem in3_1_1 : ix_in3 (some (kc 1)) [1, 6] [0, 2, 7, 8, 9] = some (nI 1) := rfl
theorem in3_1_2 : ix_in3 (some (kc 1)) [0, 7] [1, 2, 6, 8, 9] = some (nI 0) := rfl
theorem in3_1_3 : ix_in3 (some (kc 1)) [2, 8] [0, 1, 6, 7, 9] = some (nI 0) := rfl
theorem in3_1_4 : ix_in3 (some (kc 1)) [1] [0, 2, 6, 7, 8, 9] = some (nI 0) := rfl
theorem in3_1_5 : ix_in3 (some (kc 1)) [0] [1, 2, 6, 7, 8, 9] = some (nI 0) := rfl
theorem in3_1_6 : ix_in3 (some (kc 1)) [8] [0, 1, 2, 6, 7, 9] = some (nI 0) := rfl
theorem in3_2_1 : ix_in3 (some (kc 2)) [1, 6] [0, 2, 7, 8, 9] = some (nI 0) := rfl
theorem in3_2_2 : ix_in3 (some (kc 2)) [0, 7] [1, 2, 6, 8, 9] = some (nI 1) := rfl
theorem in3_2_3 : ix_in3 (some (kc 2)) [2, 8] [0, 1, 6, 7, 9] = some (nI 0) := rfl
theorem in3_2_4 : ix_in3 (some (kc 2)) [1] [0, 2, 6, 7, 8, 9] = some (nI 0) := rfl
theorem in3_2_5 : ix_in3 (some (kc 2)) [0] [1, 2, 6, 7, 8, 9] = some (nI 0) := rfl
theorem in3_2_6 : ix_in3 (some (kc 2)) [8] [0, 1, 2, 6, 7, 9] = some (nI 0) := rfl
theorem in3_3_1 : ix_in3 (some (kc 3)) [1, 6] [0, 2, 7, 8, 9] = some (nI 0) := rfl
theorem in3_3_2 : ix_in3 (some (kc 3)) [0, 7] [1, 2, 6, 8, 9] = some (nI 0) := rfl
theorem in3_3_3 : ix_in3 (some (kc 3)) [2, 8] [0, 1, 6, 7, 9] = some (nI 1) := rfl
theorem in3_3_4 : ix_in3 (some (kc 3)) [1] [0, 2, 6, 7, 8, 9] = some (nI 0) := rfl
theorem in3_3_5 : ix_in3 (some (kc 3)) [0] [1, 2, 6, 7, 8, 9] = some (nI 0) := rfl
theorem in3_3_6 : ix_in3 (some (kc 3)) [8] [0, 1, 2, 6, 7, 9] = some (nI 0) := rfl
theorem in3_4_1 : ix_in3 (some (kc 4)) [1, 6] [0, 2, 7, 8, 9] = some (nI 1) := rfl
theorem in3_4_2 : ix_in3 (some (kc 4)) [0, 7] [1, 2, 6, 8, 9] = some (nI 0) := rfl
theorem in3_4_3 : ix_in3 (some (kc 4)) [2, 8] [0, 1, 6, 7, 9] = some (nI 0) := rfl
theorem in3_4_4 : ix_in3 (some (kc 4)) [1] [0, 2, 6, 7, 8, 9] = some (nI 1) := rfl
theorem in3_4_5 : ix_in3 (some (kc 4)) [0] [1, 2, 6, 7, 8, 9] = some (nI 0) := rfl
theorem in3_4_6 : ix_in3 (some (kc 4)) [8] [0, 1, 2, 6, 7, 9] = some (nI 0) := rfl
theorem in3_5_1 : ix_in3 (some (kc 5)) [1, 6] [0, 2, 7, 8, 9] = some (nI 0) := rfl
theorem in3_5_2 : ix_in3 (some (kc 5)) [0, 7] [1, 2, 6, 8, 9] = some (nI 1) := rfl
theorem in3_5_3 : ix_in3 (some (kc 5)) [2, 8] [0, 1, 6, 7, 9] = some (nI 0) := rfl
theorem in3_5_4 : ix_in3 (some (kc 5)) [1] [0, 2, 6, 7, 8, 9] = some (nI 0) := rfl
theorem in3_5_5 : ix_in3 (some (kc 5)) [0] [1, 2, 6, 7, 8, 9] = some (nI 1) := rfl
theorem in3_5_6 : ix_in3 (some (kc 5)) [8] [0, 1, 2, 6, 7, 9] = some (nI 0) := rfl
theorem in3_6_1 : ix_in3 (some (kc 6)) [1, 6] [0, 2, 7, 8, 9] = some (nI 0) := rfl
theorem in3_6_2 : ix_in3 (some (kc 6)) [0, 7] [1, 2, 6, 8, 9] = some (nI 0) := rfl
theorem in3_6_3 : ix_in3 (some (kc 6)) [2, 8] [0, 1, 6, 7, 9] = some (nI 1) := rfl
theorem in3_6_4 : ix_in3 (some (kc 6)) [1] [0, 2, 6, 7, 8, 9] = some (nI 0) := rfl
theorem in3_6_5 : ix_in3 (some (kc 6)) [0] [1, 2, 6, 7, 8, 9] = some (nI 0) := rfl
theorem in3_6_6 : ix_in3 (some (kc 6)) [8] [0, 1, 2, 6, 7, 9] = some (nI 1) := rfl
--def in3 := in3_0_1, in3_0_2, in3_0_3, in3_0_4, in3_0_5, in3_0_6, in3_1_1, in3_1_2, in3_1_3, in3_1_4, in3_1_5, in3_1_6, in3_2_1, in3_2_2, in3_2_3, in3_2_4, in3_2_5, in3_2_6, in3_3_1, in3_3_2, in3_3_3, in3_3_4, in3_3_5, in3_3_6, in3_4_1, in3_4_2, in3_4_3, in3_4_4, in3_4_5, in3_4_6, in3_5_1, in3_5_2, in3_5_3, in3_5_4, in3_5_5, in3_5_6, in3_6_1, in3_6_2, in3_6_3, in3_6_4, in3_6_5, in3_6_6
theorem mo_is' {a : Int32} {n : Nat} (hn : n ≤ 1000) (h : inS a n) : (nI 0 ≤ a ∧ a ≤ nI n - nI 1) := by
  obtain ⟨i, hi, rfl⟩ := h
  rw [zn_sub (by omega)]
  exact in_p (by omega) (by omega) (by omega)
theorem mo_isN' {a : Int32} {n : Nat} (hn : n ≤ 1000) (h : ¬ inS a n) : ¬ (nI 0 ≤ a ∧ a ≤ nI n - nI 1) := by
  rintro ⟨h1, h2⟩
  rcases Nat.eq_zero_or_pos n with h0 | h0
  · subst h0
    have e : nI 0 - nI 1 = (-1 : Int32) := by decide
    rw [e] at h2
    have := Int32.le_trans h1 h2
    exact absurd this (by decide)
  · rw [zn_sub h0] at h2
    obtain ⟨k, _, hk, rfl⟩ := in_nat ⟨h1, h2⟩ (by omega) (by decide)
    exact h (inS_p (by omega))
section Q3
variable {X : ix_X} {d : Nat} {τ : List fm_D} {μ : fm_M} {S : Nat → Int32} {N : Nat → Nat} {C : Nat → List Nat} {Q : Nat → Nat} {t m : Nat}
theorem mo_isUnder {kind k : Nat} (h1 : kind ≤ 6) (h2 : k ≤ 6) {h : ix_H} : ix_call X d 212 [.int (nI kind), .int (nI k)] h = some (some (.int (if isU kind k then nI 1 else nI 0)), h) := by
  by_cases ha : k = 0
  · have e : isU kind k = true := by simp [isU, ha]
    rw [e]
    simp (disch := first | assumption | omega | decide) only [e212, i212_0, i212_1, i212_4, i212_5, i212_6, i212_9, i212_10, i212_13, i212_14, i212_15, i212_18, i212_19, i212_20, i212_21, i212_22, i212_25, i212_26, i212_29, i212_30, ix_pv_s, ix_pi_s, zpn, ix_po_s, ix_po_n, ix_ph_s, ix_bk_v, ix_bk_n, zcv, zcv_ne, ↓reduceIte, Nat.reduceEqDiff, zn_m1, zd_lt_p, zd_lt_n, zd_le_p, zd_le_n, zd_eq_p, zd_eq_n, zd_0_p, zd_0_n, zd_0lt_p, zd_0lt_n, zd_le0_p, zd_le0_n, zn_lt0, zn_le0, zn_add, zn_mul, zn_sub, zm_lt, zm_le, zm_eq, zb_1, zb_0, not_true_eq_false, not_false_eq_true, ha]
  · by_cases hb : k = kind
    · have e : isU kind k = true := by simp [isU, hb]
      rw [e]
      simp (disch := first | assumption | omega | decide) only [e212, i212_0, i212_1, i212_4, i212_5, i212_6, i212_9, i212_10, i212_13, i212_14, i212_15, i212_18, i212_19, i212_20, i212_21, i212_22, i212_25, i212_26, i212_29, i212_30, ix_pv_s, ix_pi_s, zpn, ix_po_s, ix_po_n, ix_ph_s, ix_bk_v, ix_bk_n, zcv, zcv_ne, ↓reduceIte, Nat.reduceEqDiff, zn_m1, zd_lt_p, zd_lt_n, zd_le_p, zd_le_n, zd_eq_p, zd_eq_n, zd_0_p, zd_0_n, zd_0lt_p, zd_0lt_n, zd_le0_p, zd_le0_n, zn_lt0, zn_le0, zn_add, zn_mul, zn_sub, zm_lt, zm_le, zm_eq, zb_1, zb_0, not_true_eq_false, not_false_eq_true]
    · by_cases hc : k < 4
      · by_cases hd : kind = k + 3
        · have e : isU kind k = true := by simp [isU]; omega
          rw [e]
          simp (disch := first | assumption | omega | decide) only [e212, i212_0, i212_1, i212_4, i212_5, i212_6, i212_9, i212_10, i212_13, i212_14, i212_15, i212_18, i212_19, i212_20, i212_21, i212_22, i212_25, i212_26, i212_29, i212_30, ix_pv_s, ix_pi_s, zpn, ix_po_s, ix_po_n, ix_ph_s, ix_bk_v, ix_bk_n, zcv, zcv_ne, ↓reduceIte, Nat.reduceEqDiff, zn_m1, zd_lt_p, zd_lt_n, zd_le_p, zd_le_n, zd_eq_p, zd_eq_n, zd_0_p, zd_0_n, zd_0lt_p, zd_0lt_n, zd_le0_p, zd_le0_n, zn_lt0, zn_le0, zn_add, zn_mul, zn_sub, zm_lt, zm_le, zm_eq, zb_1, zb_0, not_true_eq_false, not_false_eq_true]
        · have e : isU kind k = false := by simp [isU]; omega
          rw [e]
          simp (disch := first | assumption | omega | decide) only [e212, i212_0, i212_1, i212_4, i212_5, i212_6, i212_9, i212_10, i212_13, i212_14, i212_15, i212_18, i212_19, i212_20, i212_21, i212_22, i212_25, i212_26, i212_29, i212_30, ix_pv_s, ix_pi_s, zpn, ix_po_s, ix_po_n, ix_ph_s, ix_bk_v, ix_bk_n, zcv, zcv_ne, ↓reduceIte, Nat.reduceEqDiff, zn_m1, zd_lt_p, zd_lt_n, zd_le_p, zd_le_n, zd_eq_p, zd_eq_n, zd_0_p, zd_0_n, zd_0lt_p, zd_0lt_n, zd_le0_p, zd_le0_n, zn_lt0, zn_le0, zn_add, zn_mul, zn_sub, zm_lt, zm_le, zm_eq, zb_1, zb_0, not_true_eq_false, not_false_eq_true]
          rfl
      · have e : isU kind k = false := by simp [isU]; omega
        rw [e]
        simp (disch := first | assumption | omega | decide) only [e212, i212_0, i212_1, i212_4, i212_5, i212_6, i212_9, i212_10, i212_13, i212_14, i212_15, i212_18, i212_19, i212_20, i212_21, i212_22, i212_25, i212_26, i212_29, i212_30, ix_pv_s, ix_pi_s, zpn, ix_po_s, ix_po_n, ix_ph_s, ix_bk_v, ix_bk_n, zcv, zcv_ne, ↓reduceIte, Nat.reduceEqDiff, zn_m1, zd_lt_p, zd_lt_n, zd_le_p, zd_le_n, zd_eq_p, zd_eq_n, zd_0_p, zd_0_n, zd_0lt_p, zd_0lt_n, zd_le0_p, zd_le0_n, zn_lt0, zn_le0, zn_add, zn_mul, zn_sub, zm_lt, zm_le, zm_eq, zb_1, zb_0, not_true_eq_false, not_false_eq_true]
        rfl
theorem cl_isOf {q t kind k : Nat} {rest : List Nat} (h1 : kind ≤ 6) (h2 : k ≤ 6) (hO : trO τ q (kc kind) t rest) : ix_call X d 128 [.ref q, .int (nI k)] (fm_W μ τ) = some (some (.int (if isU kind k then nI 1 else nI 0)), fm_W μ τ) := by
  have hc := tr_c (μ := μ) hO
  rcases (by omega : kind = 0 ∨ kind = 1 ∨ kind = 2 ∨ kind = 3 ∨ kind = 4 ∨ kind = 5 ∨ kind = 6) with rfl | rfl | rfl | rfl | rfl | rfl | rfl <;> rcases (by omega : k = 0 ∨ k = 1 ∨ k = 2 ∨ k = 3 ∨ k = 4 ∨ k = 5 ∨ k = 6) with rfl | rfl | rfl | rfl | rfl | rfl | rfl <;> (simp (disch := first | assumption | omega | decide) only [e128, i128_0, i128_1, i128_40, i128_41, i128_42, i128_42n, i128_43, i128_46, i128_47, i128_47n, i128_48, i128_51, i128_52, i128_52n, i128_53, i128_56, i128_57, i128_57n, i128_58, i128_61, i128_62, i128_62n, i128_63, i128_66, i128_67, i128_67n, i128_68, i128_71, ix_pv_s, ix_pi_s, zpn, ix_po_s, ix_po_n, ix_ph_s, ix_bk_v, ix_bk_n, zcv, zcv_ne, ↓reduceIte, Nat.reduceEqDiff, zn_m1, zd_lt_p, zd_lt_n, zd_le_p, zd_le_n, zd_eq_p, zd_eq_n, zd_0_p, zd_0_n, zd_0lt_p, zd_0lt_n, zd_le0_p, zd_le0_n, zn_lt0, zn_le0, zn_add, zn_mul, zn_sub, zm_lt, zm_le, zm_eq, zb_1, zb_0, not_true_eq_false, not_false_eq_true, hc, in3_0_1, in3_0_2, in3_0_3, in3_0_4, in3_0_5, in3_0_6, in3_1_1, in3_1_2, in3_1_3, in3_1_4, in3_1_5, in3_1_6, in3_2_1, in3_2_2, in3_2_3, in3_2_4, in3_2_5, in3_2_6, in3_3_1, in3_3_2, in3_3_3, in3_3_4, in3_3_5, in3_3_6, in3_4_1, in3_4_2, in3_4_3, in3_4_4, in3_4_5, in3_4_6, in3_5_1, in3_5_2, in3_5_3, in3_5_4, in3_5_5, in3_5_6, in3_6_1, in3_6_2, in3_6_3, in3_6_4, in3_6_5, in3_6_6]; try rfl)
theorem agr_as {a b : Int32} : agr X (d + 6) τ S N C Q 127 220 [.int a, .int b] := by
  intro μ h
  have hb := QI_b h
  have e68 := QI_68 h
  by_cases ha : inS a (N 0)
  · have hm := mo_tree (X := X) (d := d + 4) h ha
    obtain ⟨t, ht, rfl⟩ := ha
    have hc := cl_tree (X := X) (d := d + 3) h ht
    obtain ⟨s1, s2, s3, s4⟩ := sp_num h.2.2.1 ht
    obtain ⟨t1, t2, ⟨kind, hT⟩, t4⟩ := QI_tree h ht
    obtain ⟨rest, hO⟩ := hT.2.2.1
    have hk6 := hT.2.1
    have hkd := hT.1
    have hcc := hO.2.2
    by_cases hin : nI 0 ≤ b ∧ b ≤ nI 6
    · obtain ⟨k, _, hk, rfl⟩ := in_nat hin (by decide) (by decide)
      have u1 := mo_isUnder (X := X) (d := d + 5) (h := fm_W μ τ) hk6 hk
      have u2 := cl_isOf (X := X) (d := d + 5) (μ := μ) hk6 hk hO
      cases hu : isU kind k
      · rw [hu] at u1 u2
        simp only [Bool.false_eq_true, ↓reduceIte] at u1 u2
        refine ⟨-6, μ, μ, ?_, ?_, h⟩
        · simp (disch := first | assumption | omega | decide) only [e127, i127_0, i127_1, i127_2, i127_5, i127_5n, i127_6, i127_6n, i127_7n, i127_7, i127_10, i127_11, i127_12, i127_14, i127_17, i127_20, i127_21, i127_22, i127_22n, i127_23, i127_24, i127_27, i127_30, i127_30n, i127_31, i127_34, i127_37, i127_40, i127_42, ix_pv_s, ix_pi_s, zpn, ix_po_s, ix_po_n, ix_ph_s, ix_bk_v, ix_bk_n, zcv, zcv_ne, ↓reduceIte, Nat.reduceEqDiff, zn_m1, zd_lt_p, zd_lt_n, zd_le_p, zd_le_n, zd_eq_p, zd_eq_n, zd_0_p, zd_0_n, zd_0lt_p, zd_0lt_n, zd_le0_p, zd_le0_n, zn_lt0, zn_le0, zn_add, zn_mul, zn_sub, zm_lt, zm_le, zm_eq, zb_1, zb_0, not_true_eq_false, not_false_eq_true, t0_c, t0_g0, t0_g1, t0_g2, t0_g3, t0_g4, t0_g5, t0_g6, t0_g7, t0_g8, t0_g9, t0_g10, t0_s11, t0_g12, t0_s12, t0_g13, t0_g14, t0_g15, t0_g16, t0_c, rw_c, hc, cl_within, hin, and_self, u2]
        · simp (disch := first | assumption | omega | decide) only [e220, i220_0, i220_1, i220_2, i220_5, i220_8, i220_9, i220_10, i220_12, i220_15, i220_18, i220_19, i220_20, i220_21, i220_24, i220_26, i220_27, i220_28, i220_29, i220_30, i220_33, i220_36, i220_37, i220_40, i220_42, i220_43, i220_44, i220_45, i220_48, i220_50, ix_pv_s, ix_pi_s, zpn, ix_po_s, ix_po_n, ix_ph_s, ix_bk_v, ix_bk_n, zcv, zcv_ne, ↓reduceIte, Nat.reduceEqDiff, zn_m1, zd_lt_p, zd_lt_n, zd_le_p, zd_le_n, zd_eq_p, zd_eq_n, zd_0_p, zd_0_n, zd_0lt_p, zd_0lt_n, zd_le0_p, zd_le0_n, zn_lt0, zn_le0, zn_add, zn_mul, zn_sub, zm_lt, zm_le, zm_eq, zb_1, zb_0, not_true_eq_false, not_false_eq_true, mo_c, mo_g0, mo_s0, mo_g1, mo_g2, mo_g3, mo_s3, mo_g4, mo_s4, mo_g5, mo_s5, mo_g6, mo_s6, mo_g7, mo_s7, mo_g8, mo_s8, mo_g9, mo_g10, mo_g11, mo_g12, mo_g13, mo_s13, mo_g14, mo_s14, mo_g15, mo_s15, mo_g16, mo_g17, mo_s17, mo_g18, mo_s18, mo_g19, mo_g20, mo_s20, mo_g21, mo_s21, mo_g22, mo_s22, mo_g23, mo_s23, ra_25, wa_25, al_25, ra_68, wa_68, al_68, ra_69, wa_69, al_69, ra_70, wa_70, al_70, ra_71, wa_71, al_71, ra_72, wa_72, al_72, ra_73, wa_73, al_73, ra_74, wa_74, al_74, ra_75, wa_75, al_75, hm, mo_in, hin, and_self, e68, hkd, u1]
      · rw [hu] at u1 u2
        simp only [↓reduceIte] at u1 u2
        refine ⟨S (17 + t), μ, μ, ?_, ?_, h⟩
        · simp (disch := first | assumption | omega | decide) only [e127, i127_0, i127_1, i127_2, i127_5, i127_5n, i127_6, i127_6n, i127_7n, i127_7, i127_10, i127_11, i127_12, i127_14, i127_17, i127_20, i127_21, i127_22, i127_22n, i127_23, i127_24, i127_27, i127_30, i127_30n, i127_31, i127_34, i127_37, i127_40, i127_42, ix_pv_s, ix_pi_s, zpn, ix_po_s, ix_po_n, ix_ph_s, ix_bk_v, ix_bk_n, zcv, zcv_ne, ↓reduceIte, Nat.reduceEqDiff, zn_m1, zd_lt_p, zd_lt_n, zd_le_p, zd_le_n, zd_eq_p, zd_eq_n, zd_0_p, zd_0_n, zd_0lt_p, zd_0lt_n, zd_le0_p, zd_le0_n, zn_lt0, zn_le0, zn_add, zn_mul, zn_sub, zm_lt, zm_le, zm_eq, zb_1, zb_0, not_true_eq_false, not_false_eq_true, t0_c, t0_g0, t0_g1, t0_g2, t0_g3, t0_g4, t0_g5, t0_g6, t0_g7, t0_g8, t0_g9, t0_g10, t0_s11, t0_g12, t0_s12, t0_g13, t0_g14, t0_g15, t0_g16, t0_c, rw_c, hc, cl_within, hin, and_self, u2, tr_g0 hO, sp_g5, s3]
        · simp (disch := first | assumption | omega | decide) only [e220, i220_0, i220_1, i220_2, i220_5, i220_8, i220_9, i220_10, i220_12, i220_15, i220_18, i220_19, i220_20, i220_21, i220_24, i220_26, i220_27, i220_28, i220_29, i220_30, i220_33, i220_36, i220_37, i220_40, i220_42, i220_43, i220_44, i220_45, i220_48, i220_50, ix_pv_s, ix_pi_s, zpn, ix_po_s, ix_po_n, ix_ph_s, ix_bk_v, ix_bk_n, zcv, zcv_ne, ↓reduceIte, Nat.reduceEqDiff, zn_m1, zd_lt_p, zd_lt_n, zd_le_p, zd_le_n, zd_eq_p, zd_eq_n, zd_0_p, zd_0_n, zd_0lt_p, zd_0lt_n, zd_le0_p, zd_le0_n, zn_lt0, zn_le0, zn_add, zn_mul, zn_sub, zm_lt, zm_le, zm_eq, zb_1, zb_0, not_true_eq_false, not_false_eq_true, mo_c, mo_g0, mo_s0, mo_g1, mo_g2, mo_g3, mo_s3, mo_g4, mo_s4, mo_g5, mo_s5, mo_g6, mo_s6, mo_g7, mo_s7, mo_g8, mo_s8, mo_g9, mo_g10, mo_g11, mo_g12, mo_g13, mo_s13, mo_g14, mo_s14, mo_g15, mo_s15, mo_g16, mo_g17, mo_s17, mo_g18, mo_s18, mo_g19, mo_g20, mo_s20, mo_g21, mo_s21, mo_g22, mo_s22, mo_g23, mo_s23, ra_25, wa_25, al_25, ra_68, wa_68, al_68, ra_69, wa_69, al_69, ra_70, wa_70, al_70, ra_71, wa_71, al_71, ra_72, wa_72, al_72, ra_73, wa_73, al_73, ra_74, wa_74, al_74, ra_75, wa_75, al_75, hm, mo_in, hin, and_self, e68, hkd, u1]
    · refine ⟨-1, μ, μ, ?_, ?_, h⟩
      · simp (disch := first | assumption | omega | decide) only [e127, i127_0, i127_1, i127_2, i127_5, i127_5n, i127_6, i127_6n, i127_7n, i127_7, i127_10, i127_11, i127_12, i127_14, i127_17, i127_20, i127_21, i127_22, i127_22n, i127_23, i127_24, i127_27, i127_30, i127_30n, i127_31, i127_34, i127_37, i127_40, i127_42, ix_pv_s, ix_pi_s, zpn, ix_po_s, ix_po_n, ix_ph_s, ix_bk_v, ix_bk_n, zcv, zcv_ne, ↓reduceIte, Nat.reduceEqDiff, zn_m1, zd_lt_p, zd_lt_n, zd_le_p, zd_le_n, zd_eq_p, zd_eq_n, zd_0_p, zd_0_n, zd_0lt_p, zd_0lt_n, zd_le0_p, zd_le0_n, zn_lt0, zn_le0, zn_add, zn_mul, zn_sub, zm_lt, zm_le, zm_eq, zb_1, zb_0, not_true_eq_false, not_false_eq_true, t0_c, t0_g0, t0_g1, t0_g2, t0_g3, t0_g4, t0_g5, t0_g6, t0_g7, t0_g8, t0_g9, t0_g10, t0_s11, t0_g12, t0_s12, t0_g13, t0_g14, t0_g15, t0_g16, t0_c, rw_c, hc, cl_within, hin]
      · simp (disch := first | assumption | omega | decide) only [e220, i220_0, i220_1, i220_2, i220_5, i220_8, i220_9, i220_10, i220_12, i220_15, i220_18, i220_19, i220_20, i220_21, i220_24, i220_26, i220_27, i220_28, i220_29, i220_30, i220_33, i220_36, i220_37, i220_40, i220_42, i220_43, i220_44, i220_45, i220_48, i220_50, ix_pv_s, ix_pi_s, zpn, ix_po_s, ix_po_n, ix_ph_s, ix_bk_v, ix_bk_n, zcv, zcv_ne, ↓reduceIte, Nat.reduceEqDiff, zn_m1, zd_lt_p, zd_lt_n, zd_le_p, zd_le_n, zd_eq_p, zd_eq_n, zd_0_p, zd_0_n, zd_0lt_p, zd_0lt_n, zd_le0_p, zd_le0_n, zn_lt0, zn_le0, zn_add, zn_mul, zn_sub, zm_lt, zm_le, zm_eq, zb_1, zb_0, not_true_eq_false, not_false_eq_true, mo_c, mo_g0, mo_s0, mo_g1, mo_g2, mo_g3, mo_s3, mo_g4, mo_s4, mo_g5, mo_s5, mo_g6, mo_s6, mo_g7, mo_s7, mo_g8, mo_s8, mo_g9, mo_g10, mo_g11, mo_g12, mo_g13, mo_s13, mo_g14, mo_s14, mo_g15, mo_s15, mo_g16, mo_g17, mo_s17, mo_g18, mo_s18, mo_g19, mo_g20, mo_s20, mo_g21, mo_s21, mo_g22, mo_s22, mo_g23, mo_s23, ra_25, wa_25, al_25, ra_68, wa_68, al_68, ra_69, wa_69, al_69, ra_70, wa_70, al_70, ra_71, wa_71, al_71, ra_72, wa_72, al_72, ra_73, wa_73, al_73, ra_74, wa_74, al_74, ra_75, wa_75, al_75, hm, mo_in, hin]
  · have hc := cl_treeN (X := X) (d := d + 3) h ha
    have hm := mo_treeN (X := X) (d := d + 4) h ha
    refine ⟨-1, μ, μ, ?_, ?_, h⟩
    · simp (disch := first | assumption | omega | decide) only [e127, i127_0, i127_1, i127_2, i127_5, i127_5n, i127_6, i127_6n, i127_7n, i127_7, i127_10, i127_11, i127_12, i127_14, i127_17, i127_20, i127_21, i127_22, i127_22n, i127_23, i127_24, i127_27, i127_30, i127_30n, i127_31, i127_34, i127_37, i127_40, i127_42, ix_pv_s, ix_pi_s, zpn, ix_po_s, ix_po_n, ix_ph_s, ix_bk_v, ix_bk_n, zcv, zcv_ne, ↓reduceIte, Nat.reduceEqDiff, zn_m1, zd_lt_p, zd_lt_n, zd_le_p, zd_le_n, zd_eq_p, zd_eq_n, zd_0_p, zd_0_n, zd_0lt_p, zd_0lt_n, zd_le0_p, zd_le0_n, zn_lt0, zn_le0, zn_add, zn_mul, zn_sub, zm_lt, zm_le, zm_eq, zb_1, zb_0, not_true_eq_false, not_false_eq_true, t0_c, t0_g0, t0_g1, t0_g2, t0_g3, t0_g4, t0_g5, t0_g6, t0_g7, t0_g8, t0_g9, t0_g10, t0_s11, t0_g12, t0_s12, t0_g13, t0_g14, t0_g15, t0_g16, t0_c, rw_c, hc]
    · simp (disch := first | assumption | omega | decide) only [e220, i220_0, i220_1, i220_2, i220_5, i220_8, i220_9, i220_10, i220_12, i220_15, i220_18, i220_19, i220_20, i220_21, i220_24, i220_26, i220_27, i220_28, i220_29, i220_30, i220_33, i220_36, i220_37, i220_40, i220_42, i220_43, i220_44, i220_45, i220_48, i220_50, ix_pv_s, ix_pi_s, zpn, ix_po_s, ix_po_n, ix_ph_s, ix_bk_v, ix_bk_n, zcv, zcv_ne, ↓reduceIte, Nat.reduceEqDiff, zn_m1, zd_lt_p, zd_lt_n, zd_le_p, zd_le_n, zd_eq_p, zd_eq_n, zd_0_p, zd_0_n, zd_0lt_p, zd_0lt_n, zd_le0_p, zd_le0_n, zn_lt0, zn_le0, zn_add, zn_mul, zn_sub, zm_lt, zm_le, zm_eq, zb_1, zb_0, not_true_eq_false, not_false_eq_true, mo_c, mo_g0, mo_s0, mo_g1, mo_g2, mo_g3, mo_s3, mo_g4, mo_s4, mo_g5, mo_s5, mo_g6, mo_s6, mo_g7, mo_s7, mo_g8, mo_s8, mo_g9, mo_g10, mo_g11, mo_g12, mo_g13, mo_s13, mo_g14, mo_s14, mo_g15, mo_s15, mo_g16, mo_g17, mo_s17, mo_g18, mo_s18, mo_g19, mo_g20, mo_s20, mo_g21, mo_s21, mo_g22, mo_s22, mo_g23, mo_s23, ra_25, wa_25, al_25, ra_68, wa_68, al_68, ra_69, wa_69, al_69, ra_70, wa_70, al_70, ra_71, wa_71, al_71, ra_72, wa_72, al_72, ra_73, wa_73, al_73, ra_74, wa_74, al_74, ra_75, wa_75, al_75, hm]
theorem agr_trace {a : Int32} : agr X (d + 6) τ S N C Q 126 219 [.int a] := by
  intro μ h
  obtain ⟨ran, hran, ⟨r0, r1, r2⟩, m20, hbo⟩ := h.2.1.2.1
  have hA : rwA 19 20 := ⟨rfl, rfl, rfl⟩
  have hO : rwO 19 := rfl
  by_cases ha : inS a ran
  · have hin := mo_is' (n := ran) (by omega) ha
    obtain ⟨i, hi, rfl⟩ := ha
    have k0 := cl_has (X := X) (d := d + 5) (τ := τ) (μ := μ) hA r2 (by omega) hi
    have k1 := rw_cell (X := X) (d := d + 5) (τ := τ) (i := i) (c := 0) hA r1 r2 hi (by omega) (by omega) (by decide) (by omega) (by decide)
    rw [show i * 1 + 0 = i by omega] at k1
    have hv := hbo i hi
    refine ⟨μ 20 i, μ, μ, ?_, ?_, h⟩
    · simp (disch := first | assumption | omega | decide) only [e126, i126_0, i126_1, i126_4, i126_5, i126_8, i126_11, i126_12, i126_15, i126_16, i126_17, i126_20, i126_23, i126_24, ix_pv_s, ix_pi_s, zpn, ix_po_s, ix_po_n, ix_ph_s, ix_bk_v, ix_bk_n, zcv, zcv_ne, ↓reduceIte, Nat.reduceEqDiff, zn_m1, zd_lt_p, zd_lt_n, zd_le_p, zd_le_n, zd_eq_p, zd_eq_n, zd_0_p, zd_0_n, zd_0lt_p, zd_0lt_n, zd_le0_p, zd_le0_n, zn_lt0, zn_le0, zn_add, zn_mul, zn_sub, zm_lt, zm_le, zm_eq, zb_1, zb_0, not_true_eq_false, not_false_eq_true, t0_c, t0_g0, t0_g1, t0_g2, t0_g3, t0_g4, t0_g5, t0_g6, t0_g7, t0_g8, t0_g9, t0_g10, t0_s11, t0_g12, t0_s12, t0_g13, t0_g14, t0_g15, t0_g16, t0_c, rw_c, k0, k1]
    · rw [hv]
      rcases (by omega : ran = 20 ∨ ran < 20) with rfl | hl
      · simp (disch := first | assumption | omega | decide) only [e219, i219_0, i219_1, i219_2, i219_3, i219_6, i219_8, i219_11, i219_12, i219_15, i219_18, i219_20, i219_21, i219_22, i219_25, i219_28, i219_29, i219_32, i219_33, i219_34, i219_37, i219_38, ix_pv_s, ix_pi_s, zpn, ix_po_s, ix_po_n, ix_ph_s, ix_bk_v, ix_bk_n, zcv, zcv_ne, ↓reduceIte, Nat.reduceEqDiff, mo_c, mo_g0, mo_s0, mo_g1, mo_g2, mo_g3, mo_s3, mo_g4, mo_s4, mo_g5, mo_s5, mo_g6, mo_s6, mo_g7, mo_s7, mo_g8, mo_s8, mo_g9, mo_g10, mo_g11, mo_g12, mo_g13, mo_s13, mo_g14, mo_s14, mo_g15, mo_s15, mo_g16, mo_g17, mo_s17, mo_g18, mo_s18, mo_g19, mo_g20, mo_s20, mo_g21, mo_s21, mo_g22, mo_s22, mo_g23, mo_s23, ra_25, wa_25, al_25, ra_68, wa_68, al_68, ra_69, wa_69, al_69, ra_70, wa_70, al_70, ra_71, wa_71, al_71, ra_72, wa_72, al_72, ra_73, wa_73, al_73, ra_74, wa_74, al_74, ra_75, wa_75, al_75, m20, zd_le_p, zd_0_p, zd_0_n, mo_in, hin, and_self, zb_1, zb_0]
      · simp (disch := first | assumption | omega | decide) only [e219, i219_0, i219_1, i219_2, i219_3, i219_6, i219_8, i219_11, i219_12, i219_15, i219_18, i219_20, i219_21, i219_22, i219_25, i219_28, i219_29, i219_32, i219_33, i219_34, i219_37, i219_38, ix_pv_s, ix_pi_s, zpn, ix_po_s, ix_po_n, ix_ph_s, ix_bk_v, ix_bk_n, zcv, zcv_ne, ↓reduceIte, Nat.reduceEqDiff, mo_c, mo_g0, mo_s0, mo_g1, mo_g2, mo_g3, mo_s3, mo_g4, mo_s4, mo_g5, mo_s5, mo_g6, mo_s6, mo_g7, mo_s7, mo_g8, mo_s8, mo_g9, mo_g10, mo_g11, mo_g12, mo_g13, mo_s13, mo_g14, mo_s14, mo_g15, mo_s15, mo_g16, mo_g17, mo_s17, mo_g18, mo_s18, mo_g19, mo_g20, mo_s20, mo_g21, mo_s21, mo_g22, mo_s22, mo_g23, mo_s23, ra_25, wa_25, al_25, ra_68, wa_68, al_68, ra_69, wa_69, al_69, ra_70, wa_70, al_70, ra_71, wa_71, al_71, ra_72, wa_72, al_72, ra_73, wa_73, al_73, ra_74, wa_74, al_74, ra_75, wa_75, al_75, m20, zd_le_n, zd_0_p, zd_0_n, mo_in, hin, and_self, zb_1, zb_0]
  · have hin := mo_isN' (n := ran) (by omega) ha
    have k0 := cl_hasN (X := X) (d := d + 5) (τ := τ) (μ := μ) hA r2 (by omega) ha
    refine ⟨-1, μ, μ, ?_, ?_, h⟩
    · simp (disch := first | assumption | omega | decide) only [e126, i126_0, i126_1, i126_4, i126_5, i126_8, i126_11, i126_12, i126_15, i126_16, i126_17, i126_20, i126_23, i126_24, ix_pv_s, ix_pi_s, zpn, ix_po_s, ix_po_n, ix_ph_s, ix_bk_v, ix_bk_n, zcv, zcv_ne, ↓reduceIte, Nat.reduceEqDiff, zn_m1, zd_lt_p, zd_lt_n, zd_le_p, zd_le_n, zd_eq_p, zd_eq_n, zd_0_p, zd_0_n, zd_0lt_p, zd_0lt_n, zd_le0_p, zd_le0_n, zn_lt0, zn_le0, zn_add, zn_mul, zn_sub, zm_lt, zm_le, zm_eq, zb_1, zb_0, not_true_eq_false, not_false_eq_true, t0_c, t0_g0, t0_g1, t0_g2, t0_g3, t0_g4, t0_g5, t0_g6, t0_g7, t0_g8, t0_g9, t0_g10, t0_s11, t0_g12, t0_s12, t0_g13, t0_g14, t0_g15, t0_g16, t0_c, rw_c, k0]
    · rcases (by omega : ran = 20 ∨ ran < 20) with rfl | hl
      · simp (disch := first | assumption | omega | decide) only [e219, i219_0, i219_1, i219_2, i219_3, i219_6, i219_8, i219_11, i219_12, i219_15, i219_18, i219_20, i219_21, i219_22, i219_25, i219_28, i219_29, i219_32, i219_33, i219_34, i219_37, i219_38, ix_pv_s, ix_pi_s, zpn, ix_po_s, ix_po_n, ix_ph_s, ix_bk_v, ix_bk_n, zcv, zcv_ne, ↓reduceIte, Nat.reduceEqDiff, mo_c, mo_g0, mo_s0, mo_g1, mo_g2, mo_g3, mo_s3, mo_g4, mo_s4, mo_g5, mo_s5, mo_g6, mo_s6, mo_g7, mo_s7, mo_g8, mo_s8, mo_g9, mo_g10, mo_g11, mo_g12, mo_g13, mo_s13, mo_g14, mo_s14, mo_g15, mo_s15, mo_g16, mo_g17, mo_s17, mo_g18, mo_s18, mo_g19, mo_g20, mo_s20, mo_g21, mo_s21, mo_g22, mo_s22, mo_g23, mo_s23, ra_25, wa_25, al_25, ra_68, wa_68, al_68, ra_69, wa_69, al_69, ra_70, wa_70, al_70, ra_71, wa_71, al_71, ra_72, wa_72, al_72, ra_73, wa_73, al_73, ra_74, wa_74, al_74, ra_75, wa_75, al_75, m20, zd_le_p, zd_0_p, zd_0_n, mo_in, hin, zb_1, zb_0]
      · simp (disch := first | assumption | omega | decide) only [e219, i219_0, i219_1, i219_2, i219_3, i219_6, i219_8, i219_11, i219_12, i219_15, i219_18, i219_20, i219_21, i219_22, i219_25, i219_28, i219_29, i219_32, i219_33, i219_34, i219_37, i219_38, ix_pv_s, ix_pi_s, zpn, ix_po_s, ix_po_n, ix_ph_s, ix_bk_v, ix_bk_n, zcv, zcv_ne, ↓reduceIte, Nat.reduceEqDiff, mo_c, mo_g0, mo_s0, mo_g1, mo_g2, mo_g3, mo_s3, mo_g4, mo_s4, mo_g5, mo_s5, mo_g6, mo_s6, mo_g7, mo_s7, mo_g8, mo_s8, mo_g9, mo_g10, mo_g11, mo_g12, mo_g13, mo_s13, mo_g14, mo_s14, mo_g15, mo_s15, mo_g16, mo_g17, mo_s17, mo_g18, mo_s18, mo_g19, mo_g20, mo_s20, mo_g21, mo_s21, mo_g22, mo_s22, mo_g23, mo_s23, ra_25, wa_25, al_25, ra_68, wa_68, al_68, ra_69, wa_69, al_69, ra_70, wa_70, al_70, ra_71, wa_71, al_71, ra_72, wa_72, al_72, ra_73, wa_73, al_73, ra_74, wa_74, al_74, ra_75, wa_75, al_75, m20, zd_le_n, zd_0_p, zd_0_n, mo_in, hin, zb_1, zb_0]
theorem agr_count {a : Int32} : agr X (d + 6) τ S N C Q 131 223 [.int a] := by
  intro μ h
  have e68 := QI_68 h
  obtain ⟨ran, hran, ⟨r0, r1, r2⟩, m20, hbo⟩ := h.2.1.2.1
  have rO1 : rwO 4 := rfl
  have rO2 : rwO 7 := rfl
  have rO3 : rwO 10 := rfl
  have rO4 : rwO 13 := rfl
  have rO5 : rwO 16 := rfl
  have rO6 : rwO 19 := rfl
  obtain ⟨⟨w1, g1⟩, ⟨w2, g2⟩, ⟨w3, g3⟩, ⟨w4, g4⟩, ⟨w5, g5⟩, ⟨w6, g6⟩⟩ := h.2.1.1
  have z2 := w2.2.2
  have z3 := w3.2.2
  have z4 := w4.2.2
  have z5 := w5.2.2
  have z6 := w6.2.2
  have k0 := cl_number (X := X) (d := d + 4) (τ := τ) (k := 4) (QI_nb h) (by decide)
  have k3 := cl_number (X := X) (d := d + 4) (τ := τ) (k := 3) (QI_nb h) (by decide)
  rw [g1.2.2.2.2] at k0
  rw [g1.2.2.2.1] at k3
  by_cases hin7 : nI 0 ≤ a ∧ a ≤ nI 7
  · obtain ⟨k, _, hk, rfl⟩ := in_nat hin7 (by decide) (by decide)
    by_cases hk7 : k = 7
    · subst hk7
      refine ⟨nI ran, μ, μ, ?_, ?_, h⟩
      · simp (disch := first | assumption | omega | decide) only [e131, i131_0, i131_1, i131_48, i131_49, i131_50, i131_53, i131_54, i131_55, i131_58, i131_61, i131_62, i131_63, i131_64, i131_67, i131_68, i131_69, i131_72, i131_75, i131_76, i131_77, i131_80, i131_83, i131_84, i131_85, i131_88, i131_91, i131_92, i131_93, i131_96, i131_99, i131_100, i131_101, i131_104, i131_107, i131_108, i131_109, ix_pv_s, ix_pi_s, zpn, ix_po_s, ix_po_n, ix_ph_s, ix_bk_v, ix_bk_n, zcv, zcv_ne, ↓reduceIte, Nat.reduceEqDiff, zn_m1, zd_lt_p, zd_lt_n, zd_le_p, zd_le_n, zd_eq_p, zd_eq_n, zd_0_p, zd_0_n, zd_0lt_p, zd_0lt_n, zd_le0_p, zd_le0_n, zn_lt0, zn_le0, zn_add, zn_mul, zn_sub, zm_lt, zm_le, zm_eq, zb_1, zb_0, not_true_eq_false, not_false_eq_true, t0_c, t0_g0, t0_g1, t0_g2, t0_g3, t0_g4, t0_g5, t0_g6, t0_g7, t0_g8, t0_g9, t0_g10, t0_s11, t0_g12, t0_s12, t0_g13, t0_g14, t0_g15, t0_g16, t0_c, rw_c, rw_g4, r2]
      · simp (disch := first | assumption | omega | decide) only [e223, i223_0, i223_1, i223_3, i223_6, i223_7, i223_10, i223_13, i223_14, i223_15, i223_17, i223_20, i223_23, i223_24, i223_27, i223_28, i223_29, i223_32, i223_33, ix_pv_s, ix_pi_s, zpn, ix_po_s, ix_po_n, ix_ph_s, ix_bk_v, ix_bk_n, zcv, zcv_ne, ↓reduceIte, Nat.reduceEqDiff, zn_m1, zd_lt_p, zd_lt_n, zd_le_p, zd_le_n, zd_eq_p, zd_eq_n, zd_0_p, zd_0_n, zd_0lt_p, zd_0lt_n, zd_le0_p, zd_le0_n, zn_lt0, zn_le0, zn_add, zn_mul, zn_sub, zm_lt, zm_le, zm_eq, zb_1, zb_0, not_true_eq_false, not_false_eq_true, mo_c, mo_g0, mo_s0, mo_g1, mo_g2, mo_g3, mo_s3, mo_g4, mo_s4, mo_g5, mo_s5, mo_g6, mo_s6, mo_g7, mo_s7, mo_g8, mo_s8, mo_g9, mo_g10, mo_g11, mo_g12, mo_g13, mo_s13, mo_g14, mo_s14, mo_g15, mo_s15, mo_g16, mo_g17, mo_s17, mo_g18, mo_s18, mo_g19, mo_g20, mo_s20, mo_g21, mo_s21, mo_g22, mo_s22, mo_g23, mo_s23, ra_25, wa_25, al_25, ra_68, wa_68, al_68, ra_69, wa_69, al_69, ra_70, wa_70, al_70, ra_71, wa_71, al_71, ra_72, wa_72, al_72, ra_73, wa_73, al_73, ra_74, wa_74, al_74, ra_75, wa_75, al_75, m20]
    · have hin : nI 0 ≤ nI k ∧ nI k ≤ nI 6 := in_p (by omega) (by omega) (by decide)
      refine ⟨S k, μ, μ, ?_, ?_, h⟩
      · rcases (by omega : k = 0 ∨ k = 1 ∨ k = 2 ∨ k = 3 ∨ k = 4 ∨ k = 5 ∨ k = 6) with rfl | rfl | rfl | rfl | rfl | rfl | rfl <;> simp (disch := first | assumption | omega | decide) only [e131, i131_0, i131_1, i131_48, i131_49, i131_50, i131_53, i131_54, i131_55, i131_58, i131_61, i131_62, i131_63, i131_64, i131_67, i131_68, i131_69, i131_72, i131_75, i131_76, i131_77, i131_80, i131_83, i131_84, i131_85, i131_88, i131_91, i131_92, i131_93, i131_96, i131_99, i131_100, i131_101, i131_104, i131_107, i131_108, i131_109, ix_pv_s, ix_pi_s, zpn, ix_po_s, ix_po_n, ix_ph_s, ix_bk_v, ix_bk_n, zcv, zcv_ne, ↓reduceIte, Nat.reduceEqDiff, zn_m1, zd_lt_p, zd_lt_n, zd_le_p, zd_le_n, zd_eq_p, zd_eq_n, zd_0_p, zd_0_n, zd_0lt_p, zd_0lt_n, zd_le0_p, zd_le0_n, zn_lt0, zn_le0, zn_add, zn_mul, zn_sub, zm_lt, zm_le, zm_eq, zb_1, zb_0, not_true_eq_false, not_false_eq_true, t0_c, t0_g0, t0_g1, t0_g2, t0_g3, t0_g4, t0_g5, t0_g6, t0_g7, t0_g8, t0_g9, t0_g10, t0_s11, t0_g12, t0_s12, t0_g13, t0_g14, t0_g15, t0_g16, t0_c, rw_c, rw_g4, k0, k3, z2, z3, z4, z5, z6]
      · simp (disch := first | assumption | omega | decide) only [e223, i223_0, i223_1, i223_3, i223_6, i223_7, i223_10, i223_13, i223_14, i223_15, i223_17, i223_20, i223_23, i223_24, i223_27, i223_28, i223_29, i223_32, i223_33, ix_pv_s, ix_pi_s, zpn, ix_po_s, ix_po_n, ix_ph_s, ix_bk_v, ix_bk_n, zcv, zcv_ne, ↓reduceIte, Nat.reduceEqDiff, zn_m1, zd_lt_p, zd_lt_n, zd_le_p, zd_le_n, zd_eq_p, zd_eq_n, zd_0_p, zd_0_n, zd_0lt_p, zd_0lt_n, zd_le0_p, zd_le0_n, zn_lt0, zn_le0, zn_add, zn_mul, zn_sub, zm_lt, zm_le, zm_eq, zb_1, zb_0, not_true_eq_false, not_false_eq_true, mo_c, mo_g0, mo_s0, mo_g1, mo_g2, mo_g3, mo_s3, mo_g4, mo_s4, mo_g5, mo_s5, mo_g6, mo_s6, mo_g7, mo_s7, mo_g8, mo_s8, mo_g9, mo_g10, mo_g11, mo_g12, mo_g13, mo_s13, mo_g14, mo_s14, mo_g15, mo_s15, mo_g16, mo_g17, mo_s17, mo_g18, mo_s18, mo_g19, mo_g20, mo_s20, mo_g21, mo_s21, mo_g22, mo_s22, mo_g23, mo_s23, ra_25, wa_25, al_25, ra_68, wa_68, al_68, ra_69, wa_69, al_69, ra_70, wa_70, al_70, ra_71, wa_71, al_71, ra_72, wa_72, al_72, ra_73, wa_73, al_73, ra_74, wa_74, al_74, ra_75, wa_75, al_75, mo_in, hin, and_self, e68]
  · have n0 := in_ne (k := 0) hin7 (by decide) (by decide) (by decide)
    have n1 := in_ne (k := 1) hin7 (by decide) (by decide) (by decide)
    have n2 := in_ne (k := 2) hin7 (by decide) (by decide) (by decide)
    have n3 := in_ne (k := 3) hin7 (by decide) (by decide) (by decide)
    have n4 := in_ne (k := 4) hin7 (by decide) (by decide) (by decide)
    have n5 := in_ne (k := 5) hin7 (by decide) (by decide) (by decide)
    have n6 := in_ne (k := 6) hin7 (by decide) (by decide) (by decide)
    have n7 := in_ne (k := 7) hin7 (by decide) (by decide) (by decide)
    have hin : ¬ (nI 0 ≤ a ∧ a ≤ nI 6) := by
      intro hh
      obtain ⟨k, k1, k2, e⟩ := in_nat hh (by decide) (by decide)
      subst e
      exact hin7 (in_p k1 (by omega) (by decide))
    refine ⟨-1, μ, μ, ?_, ?_, h⟩
    · simp (disch := first | assumption | omega | decide) only [e131, i131_0, i131_1, i131_48, i131_49, i131_50, i131_53, i131_54, i131_55, i131_58, i131_61, i131_62, i131_63, i131_64, i131_67, i131_68, i131_69, i131_72, i131_75, i131_76, i131_77, i131_80, i131_83, i131_84, i131_85, i131_88, i131_91, i131_92, i131_93, i131_96, i131_99, i131_100, i131_101, i131_104, i131_107, i131_108, i131_109, ix_pv_s, ix_pi_s, zpn, ix_po_s, ix_po_n, ix_ph_s, ix_bk_v, ix_bk_n, zcv, zcv_ne, ↓reduceIte, Nat.reduceEqDiff, zn_m1, zd_lt_p, zd_lt_n, zd_le_p, zd_le_n, zd_eq_p, zd_eq_n, zd_0_p, zd_0_n, zd_0lt_p, zd_0lt_n, zd_le0_p, zd_le0_n, zn_lt0, zn_le0, zn_add, zn_mul, zn_sub, zm_lt, zm_le, zm_eq, zb_1, zb_0, not_true_eq_false, not_false_eq_true, t0_c, t0_g0, t0_g1, t0_g2, t0_g3, t0_g4, t0_g5, t0_g6, t0_g7, t0_g8, t0_g9, t0_g10, t0_s11, t0_g12, t0_s12, t0_g13, t0_g14, t0_g15, t0_g16, t0_c, rw_c, n0, n1, n2, n3, n4, n5, n6, n7]
    · simp (disch := first | assumption | omega | decide) only [e223, i223_0, i223_1, i223_3, i223_6, i223_7, i223_10, i223_13, i223_14, i223_15, i223_17, i223_20, i223_23, i223_24, i223_27, i223_28, i223_29, i223_32, i223_33, ix_pv_s, ix_pi_s, zpn, ix_po_s, ix_po_n, ix_ph_s, ix_bk_v, ix_bk_n, zcv, zcv_ne, ↓reduceIte, Nat.reduceEqDiff, zn_m1, zd_lt_p, zd_lt_n, zd_le_p, zd_le_n, zd_eq_p, zd_eq_n, zd_0_p, zd_0_n, zd_0lt_p, zd_0lt_n, zd_le0_p, zd_le0_n, zn_lt0, zn_le0, zn_add, zn_mul, zn_sub, zm_lt, zm_le, zm_eq, zb_1, zb_0, not_true_eq_false, not_false_eq_true, mo_c, mo_g0, mo_s0, mo_g1, mo_g2, mo_g3, mo_s3, mo_g4, mo_s4, mo_g5, mo_s5, mo_g6, mo_s6, mo_g7, mo_s7, mo_g8, mo_s8, mo_g9, mo_g10, mo_g11, mo_g12, mo_g13, mo_s13, mo_g14, mo_s14, mo_g15, mo_s15, mo_g16, mo_g17, mo_s17, mo_g18, mo_s18, mo_g19, mo_g20, mo_s20, mo_g21, mo_s21, mo_g22, mo_s22, mo_g23, mo_s23, ra_25, wa_25, al_25, ra_68, wa_68, al_68, ra_69, wa_69, al_69, ra_70, wa_70, al_70, ra_71, wa_71, al_71, ra_72, wa_72, al_72, ra_73, wa_73, al_73, ra_74, wa_74, al_74, ra_75, wa_75, al_75, mo_in, hin, n7]
end Q3
