/-! ===== the model reads a clause, a park ===== -/
--need 75.mread3
def mq2 (a : Nat) (μ μ' : fm_M) : Prop := (∀ q, q ≠ 67 → q ≠ 68 → μ' q = μ q) ∧ (∀ k, k ≠ 5 → k ≠ 7 → k ≠ 8 → μ' 67 k = μ 67 k) ∧ ∀ k, k ≠ 209 + a → k ≠ 214 + a → k ≠ 219 + a → (k < 224 + 140 * a ∨ 224 + 140 * a + 140 ≤ k) → μ' 68 k = μ 68 k
theorem mq2_of {a : Nat} {μ μ' : fm_M} (h : mq a μ μ') : mq2 a μ μ' := ⟨h.1, h.2.1, fun k _ _ b c => h.2.2 k b c⟩
theorem mq2_trans {a : Nat} {μ1 μ2 μ3 : fm_M} (h : mq2 a μ1 μ2) (h' : mq2 a μ2 μ3) : mq2 a μ1 μ3 := ⟨fun q b c => (h'.1 q b c).trans (h.1 q b c), fun k b c e => (h'.2.1 k b c e).trans (h.2.1 k b c e), fun k b c e f => (h'.2.2 k b c e f).trans (h.2.2 k b c e f)⟩
def MC (μ' : fm_M) (a n : Nat) (T : Nat → Int32) (cs : List Nat) (res : Nat ⊕ (Nat × List Nat × Nat × Nat)) : Prop := match res with
  | .inl z => MW μ' a z
  | .inr (q, l, sk, wt) => MS μ' a n T 0 q (cs ++ l) ∧ μ' 68 (209 + a) = nI sk ∧ μ' 68 (214 + a) = nI wt
/-- how reading ends -/
def MO (μ' : fm_M) (a n : Nat) (T : Nat → Int32) (res : Nat ⊕ (List Nat × Nat × Nat)) : Prop := match res with
  | .inl z => MW μ' a z ∨ (μ' 67 7 = nI 0 ∧ μ' 67 5 = nI z ∧ μ' 67 6 = nI n ∧ z < n)
  | .inr (l, sk, wt) => MS μ' a n T 0 n l ∧ μ' 68 (209 + a) = nI sk ∧ μ' 68 (214 + a) = nI wt
section MZ
variable {X : ix_X} {d e : Nat} {τ : List fm_D} {μ : fm_M} {a n p sk wt : Nat} {T : Nat → Int32} {cs : List Nat}
theorem m_much {k A : Nat} {K : Int32} (hk : k < 6) (h5 : tl k = 5) (hk4 : k < 4) (hK : ∀ w, w ≤ 99 → K - nI w = stp (A * 100 + w)) (ha : a < 5) (hn : n ≤ 100) (h : MS μ a n T 0 p cs) : ∃ μ' : fm_M, ix_call X (e + 23) 142 [.ref 67, .int K, .retAddr (2 + 2 * k)] (fm_W μ τ) = some (none, fm_W μ' τ) ∧ MR μ' a n T 0 cs (rainS n T k A p) ∧ mq a μ μ' := by
  obtain ⟨μ1, a1, r1, c1⟩ := m_spells (X := X) (d := e + 18) (τ := τ) hk h5 hn h
  have wrong : ∀ (μ1 : fm_M) (z : Nat), MW μ1 a z → ∃ (μ2 μ3 : fm_M), ix_call X (e + 22) 141 [.ref 67] (fm_W μ1 τ) = some (some (.int (nI 0)), fm_W μ2 τ) ∧ ix_call X (e + 22) 140 [.ref 67, .int (nI 32)] (fm_W μ2 τ) = some (none, fm_W μ3 τ) ∧ MW μ3 a z ∧ mq a μ1 μ3 := fun μ1 z w => by
    obtain ⟨μ2, b1, b2, b3⟩ := m_figuresW (X := X) (d := e + 21) (τ := τ) w
    obtain ⟨μ3, b4, b5, b6⟩ := m_mustW (X := X) (d := e + 21) (τ := τ) (c := nI 32) b2
    exact ⟨μ2, μ3, b1, b4, b5, mq_trans b3 b6⟩
  rw [rainS, wnS]
  cases hw : wordL n T k 5 0 p with
  | inl z =>
    rw [hw] at r1
    have w1 : MW μ1 a z := r1
    obtain ⟨μ2, μ3, a2, a3, w3, c3⟩ := wrong μ1 z w1
    have k4 := m_someW (X := X) (d := e + 20) (τ := τ) w3
    have k5 := fun x => m_emitsW (X := X) (d := e + 22) (τ := τ) (x := x) w3
    refine ⟨μ3, ?_, w3, mq_trans c1 c3⟩
    simp (disch := first | assumption | omega | decide) only [e142, i142_0, i142_1, i142_2, i142_5, i142_6, i142_9, i142_10, i142_11, i142_13, i142_16, i142_17, i142_20, i142_21, i142_22, i142_23, i142_24, i142_27, ix_pv_s, ix_pi_s, zpn, ix_po_s, ix_po_n, ix_ph_s, ix_bk_v, ix_bk_n, zcv, zcv_ne, ↓reduceIte, Nat.reduceEqDiff, zn_m1, zd_lt_p, zd_lt_n, zd_le_p, zd_le_n, zd_eq_p, zd_eq_n, zd_0_p, zd_0_n, zd_0lt_p, zd_0lt_n, zd_le0_p, zd_le0_n, zn_lt0, zn_le0, zn_add, zn_mul, zn_sub, zm_lt, zm_le, zm_eq, zb_1, zb_0, not_true_eq_false, not_false_eq_true, mo_c, mo_g0, mo_s0, mo_g1, mo_g2, mo_g3, mo_s3, mo_g4, mo_s4, mo_g5, mo_s5, mo_g6, mo_s6, mo_g7, mo_s7, mo_g8, mo_s8, mo_g9, mo_g10, mo_g11, mo_g12, mo_g13, mo_s13, mo_g14, mo_s14, mo_g15, mo_s15, mo_g16, mo_g17, mo_s17, mo_g18, mo_s18, mo_g19, mo_g20, mo_s20, mo_g21, mo_s21, mo_g22, mo_s22, mo_g23, mo_s23, ra_25, wa_25, al_25, ra_68, wa_68, al_68, ra_69, wa_69, al_69, ra_70, wa_70, al_70, ra_71, wa_71, al_71, ra_72, wa_72, al_72, ra_73, wa_73, al_73, ra_74, wa_74, al_74, ra_75, wa_75, al_75, a1, a2, a3, k4, k5]
  | inr q1 =>
    rw [hw] at r1
    have p1 : MS μ1 a n T 0 q1 cs := r1
    obtain ⟨v, μ2, a2, c2, r2⟩ := m_figures (X := X) (d := e + 21) (τ := τ) hn p1
    simp only
    cases hv : numS n T q1 with
    | inl z =>
      rw [hv] at r2
      have w2 : MW μ2 a z := r2
      obtain ⟨μ3, a3, w3, c3⟩ := m_mustW (X := X) (d := e + 21) (τ := τ) (c := nI 32) w2
      have k4 := m_someW (X := X) (d := e + 20) (τ := τ) w3
      have k5 := fun x => m_emitsW (X := X) (d := e + 22) (τ := τ) (x := x) w3
      refine ⟨μ3, ?_, w3, mq_trans c1 (mq_trans c2 c3)⟩
      simp (disch := first | assumption | omega | decide) only [e142, i142_0, i142_1, i142_2, i142_5, i142_6, i142_9, i142_10, i142_11, i142_13, i142_16, i142_17, i142_20, i142_21, i142_22, i142_23, i142_24, i142_27, ix_pv_s, ix_pi_s, zpn, ix_po_s, ix_po_n, ix_ph_s, ix_bk_v, ix_bk_n, zcv, zcv_ne, ↓reduceIte, Nat.reduceEqDiff, zn_m1, zd_lt_p, zd_lt_n, zd_le_p, zd_le_n, zd_eq_p, zd_eq_n, zd_0_p, zd_0_n, zd_0lt_p, zd_0lt_n, zd_le0_p, zd_le0_n, zn_lt0, zn_le0, zn_add, zn_mul, zn_sub, zm_lt, zm_le, zm_eq, zb_1, zb_0, not_true_eq_false, not_false_eq_true, mo_c, mo_g0, mo_s0, mo_g1, mo_g2, mo_g3, mo_s3, mo_g4, mo_s4, mo_g5, mo_s5, mo_g6, mo_s6, mo_g7, mo_s7, mo_g8, mo_s8, mo_g9, mo_g10, mo_g11, mo_g12, mo_g13, mo_s13, mo_g14, mo_s14, mo_g15, mo_s15, mo_g16, mo_g17, mo_s17, mo_g18, mo_s18, mo_g19, mo_g20, mo_s20, mo_g21, mo_s21, mo_g22, mo_s22, mo_g23, mo_s23, ra_25, wa_25, al_25, ra_68, wa_68, al_68, ra_69, wa_69, al_69, ra_70, wa_70, al_70, ra_71, wa_71, al_71, ra_72, wa_72, al_72, ra_73, wa_73, al_73, ra_74, wa_74, al_74, ra_75, wa_75, al_75, a1, a2, a3, k4, k5]
    | inr y =>
      obtain ⟨q, w⟩ := y
      rw [hv] at r2
      obtain ⟨rfl, p2⟩ := r2
      obtain ⟨n1, n2, n3⟩ := num_ok hv
      obtain ⟨μ3, a3, c3, r3⟩ := m_must (X := X) (d := e + 21) (τ := τ) (c := 32) hn (by decide) p2
      simp only
      rcases r3 with ⟨q32, p3⟩ | ⟨q32, w3⟩
      · rw [if_pos q32]
        obtain ⟨μ4, a4, r4, c4⟩ := m_some (X := X) (τ := τ) (e := e + 3 * 5 + 5) ha hn (par_adv 5) (m_factor ha hn 5 0 e rfl) μ3 (q + 1) cs p3
        have a4' : ix_call X (e + 22) 143 [.ref 67] (fm_W μ3 τ) = _ := a4
        cases hc : choS n T (parS n T 5) (q + 1) with
        | inl z =>
          rw [hc] at r4
          have w4 : MW μ4 a z := r4
          have k5 := fun x => m_emitsW (X := X) (d := e + 22) (τ := τ) (x := x) w4
          refine ⟨μ4, ?_, w4, mq_trans c1 (mq_trans c2 (mq_trans c3 c4))⟩
          simp (disch := first | assumption | omega | decide) only [e142, i142_0, i142_1, i142_2, i142_5, i142_6, i142_9, i142_10, i142_11, i142_13, i142_16, i142_17, i142_20, i142_21, i142_22, i142_23, i142_24, i142_27, ix_pv_s, ix_pi_s, zpn, ix_po_s, ix_po_n, ix_ph_s, ix_bk_v, ix_bk_n, zcv, zcv_ne, ↓reduceIte, Nat.reduceEqDiff, zn_m1, zd_lt_p, zd_lt_n, zd_le_p, zd_le_n, zd_eq_p, zd_eq_n, zd_0_p, zd_0_n, zd_0lt_p, zd_0lt_n, zd_le0_p, zd_le0_n, zn_lt0, zn_le0, zn_add, zn_mul, zn_sub, zm_lt, zm_le, zm_eq, zb_1, zb_0, not_true_eq_false, not_false_eq_true, mo_c, mo_g0, mo_s0, mo_g1, mo_g2, mo_g3, mo_s3, mo_g4, mo_s4, mo_g5, mo_s5, mo_g6, mo_s6, mo_g7, mo_s7, mo_g8, mo_s8, mo_g9, mo_g10, mo_g11, mo_g12, mo_g13, mo_s13, mo_g14, mo_s14, mo_g15, mo_s15, mo_g16, mo_g17, mo_s17, mo_g18, mo_s18, mo_g19, mo_g20, mo_s20, mo_g21, mo_s21, mo_g22, mo_s22, mo_g23, mo_s23, ra_25, wa_25, al_25, ra_68, wa_68, al_68, ra_69, wa_69, al_69, ra_70, wa_70, al_70, ra_71, wa_71, al_71, ra_72, wa_72, al_72, ra_73, wa_73, al_73, ra_74, wa_74, al_74, ra_75, wa_75, al_75, a1, a2, a3, a4', k5]
        | inr y =>
          obtain ⟨q', l⟩ := y
          rw [hc] at r4
          obtain ⟨b1, b2, b3⟩ := cho_adv (par_adv 5) _ _ _ hc
          have hl := p2.2.2.2.2.2.2.2.2.2
          obtain ⟨μ5, a5, p5, c5⟩ := m_emits (X := X) (d := e + 22) (τ := τ) (hK v n3) ha hn (by rw [List.length_append]; omega) r4
          refine ⟨μ5, ?_, ?_, mq_trans c1 (mq_trans c2 (mq_trans c3 (mq_trans c4 c5)))⟩
          · simp (disch := first | assumption | omega | decide) only [e142, i142_0, i142_1, i142_2, i142_5, i142_6, i142_9, i142_10, i142_11, i142_13, i142_16, i142_17, i142_20, i142_21, i142_22, i142_23, i142_24, i142_27, ix_pv_s, ix_pi_s, zpn, ix_po_s, ix_po_n, ix_ph_s, ix_bk_v, ix_bk_n, zcv, zcv_ne, ↓reduceIte, Nat.reduceEqDiff, zn_m1, zd_lt_p, zd_lt_n, zd_le_p, zd_le_n, zd_eq_p, zd_eq_n, zd_0_p, zd_0_n, zd_0lt_p, zd_0lt_n, zd_le0_p, zd_le0_n, zn_lt0, zn_le0, zn_add, zn_mul, zn_sub, zm_lt, zm_le, zm_eq, zb_1, zb_0, not_true_eq_false, not_false_eq_true, mo_c, mo_g0, mo_s0, mo_g1, mo_g2, mo_g3, mo_s3, mo_g4, mo_s4, mo_g5, mo_s5, mo_g6, mo_s6, mo_g7, mo_s7, mo_g8, mo_s8, mo_g9, mo_g10, mo_g11, mo_g12, mo_g13, mo_s13, mo_g14, mo_s14, mo_g15, mo_s15, mo_g16, mo_g17, mo_s17, mo_g18, mo_s18, mo_g19, mo_g20, mo_s20, mo_g21, mo_s21, mo_g22, mo_s22, mo_g23, mo_s23, ra_25, wa_25, al_25, ra_68, wa_68, al_68, ra_69, wa_69, al_69, ra_70, wa_70, al_70, ra_71, wa_71, al_71, ra_72, wa_72, al_72, ra_73, wa_73, al_73, ra_74, wa_74, al_74, ra_75, wa_75, al_75, a1, a2, a3, a4', a5]
          · refine MR_pb ?_
            exact p5
      · rw [if_neg q32]
        have k4 := m_someW (X := X) (d := e + 20) (τ := τ) w3
        have k5 := fun x => m_emitsW (X := X) (d := e + 22) (τ := τ) (x := x) w3
        refine ⟨μ3, ?_, w3, mq_trans c1 (mq_trans c2 c3)⟩
        simp (disch := first | assumption | omega | decide) only [e142, i142_0, i142_1, i142_2, i142_5, i142_6, i142_9, i142_10, i142_11, i142_13, i142_16, i142_17, i142_20, i142_21, i142_22, i142_23, i142_24, i142_27, ix_pv_s, ix_pi_s, zpn, ix_po_s, ix_po_n, ix_ph_s, ix_bk_v, ix_bk_n, zcv, zcv_ne, ↓reduceIte, Nat.reduceEqDiff, zn_m1, zd_lt_p, zd_lt_n, zd_le_p, zd_le_n, zd_eq_p, zd_eq_n, zd_0_p, zd_0_n, zd_0lt_p, zd_0lt_n, zd_le0_p, zd_le0_n, zn_lt0, zn_le0, zn_add, zn_mul, zn_sub, zm_lt, zm_le, zm_eq, zb_1, zb_0, not_true_eq_false, not_false_eq_true, mo_c, mo_g0, mo_s0, mo_g1, mo_g2, mo_g3, mo_s3, mo_g4, mo_s4, mo_g5, mo_s5, mo_g6, mo_s6, mo_g7, mo_s7, mo_g8, mo_s8, mo_g9, mo_g10, mo_g11, mo_g12, mo_g13, mo_s13, mo_g14, mo_s14, mo_g15, mo_s15, mo_g16, mo_g17, mo_s17, mo_g18, mo_s18, mo_g19, mo_g20, mo_s20, mo_g21, mo_s21, mo_g22, mo_s22, mo_g23, mo_s23, ra_25, wa_25, al_25, ra_68, wa_68, al_68, ra_69, wa_69, al_69, ra_70, wa_70, al_70, ra_71, wa_71, al_71, ra_72, wa_72, al_72, ra_73, wa_73, al_73, ra_74, wa_74, al_74, ra_75, wa_75, al_75, a1, a2, a3, k4, k5]
theorem m_tellsP {k W : Nat} (hk : k < 6) (h5 : tl k = 5) (hW : W = 209 ∨ W = 214) (ha : a < 5) (hn : n ≤ 100) (h : MS μ a n T 0 p cs) : ∃ μ' : fm_M, ix_call X (d + 5) 138 [.ref 67, .int (nI W), .retAddr (2 + 2 * k)] (fm_W μ τ) = some (none, fm_W μ' τ) ∧ (match wnS n T k p with
    | .inl z => MW μ' a z ∧ mq a μ μ'
    | .inr (q, v) => ∃ μ1, μ' = fm_u μ1 68 (W + a) (nI v) ∧ MS μ1 a n T 0 q cs ∧ mq a μ μ1) := by
  obtain ⟨μ1, a1, r1, c1⟩ := m_spells (X := X) (d := d) (τ := τ) hk h5 hn h
  rw [wnS]
  cases hw : wordL n T k 5 0 p with
  | inl z =>
    rw [hw] at r1
    have w1 : MW μ1 a z := r1
    obtain ⟨μ2, a2, w2, c2⟩ := m_figuresW (X := X) (d := d + 3) (τ := τ) w1
    have r7 := w2.2.2
    refine ⟨μ2, ?_, w2, mq_trans c1 c2⟩
    simp (disch := first | assumption | omega | decide) only [e138, i138_0, i138_1, i138_2, i138_5, i138_6, i138_9, i138_10, i138_11, i138_14, i138_17, i138_18, i138_21, i138_22, i138_23, i138_26, i138_27, i138_28, i138_29, ix_pv_s, ix_pi_s, zpn, ix_po_s, ix_po_n, ix_ph_s, ix_bk_v, ix_bk_n, zcv, zcv_ne, ↓reduceIte, Nat.reduceEqDiff, zn_m1, zd_lt_p, zd_lt_n, zd_le_p, zd_le_n, zd_eq_p, zd_eq_n, zd_0_p, zd_0_n, zd_0lt_p, zd_0lt_n, zd_le0_p, zd_le0_n, zn_lt0, zn_le0, zn_add, zn_mul, zn_sub, zm_lt, zm_le, zm_eq, zb_1, zb_0, not_true_eq_false, not_false_eq_true, mo_c, mo_g0, mo_s0, mo_g1, mo_g2, mo_g3, mo_s3, mo_g4, mo_s4, mo_g5, mo_s5, mo_g6, mo_s6, mo_g7, mo_s7, mo_g8, mo_s8, mo_g9, mo_g10, mo_g11, mo_g12, mo_g13, mo_s13, mo_g14, mo_s14, mo_g15, mo_s15, mo_g16, mo_g17, mo_s17, mo_g18, mo_s18, mo_g19, mo_g20, mo_s20, mo_g21, mo_s21, mo_g22, mo_s22, mo_g23, mo_s23, ra_25, wa_25, al_25, ra_68, wa_68, al_68, ra_69, wa_69, al_69, ra_70, wa_70, al_70, ra_71, wa_71, al_71, ra_72, wa_72, al_72, ra_73, wa_73, al_73, ra_74, wa_74, al_74, ra_75, wa_75, al_75, a1, a2, r7]
  | inr q1 =>
    rw [hw] at r1
    have p1 : MS μ1 a n T 0 q1 cs := r1
    obtain ⟨v, μ2, a2, c2, r2⟩ := m_figures (X := X) (d := d + 3) (τ := τ) hn p1
    simp only
    cases hv : numS n T q1 with
    | inl z =>
      rw [hv] at r2
      have w2 : MW μ2 a z := r2
      have r7 := w2.2.2
      refine ⟨μ2, ?_, w2, mq_trans c1 c2⟩
      simp (disch := first | assumption | omega | decide) only [e138, i138_0, i138_1, i138_2, i138_5, i138_6, i138_9, i138_10, i138_11, i138_14, i138_17, i138_18, i138_21, i138_22, i138_23, i138_26, i138_27, i138_28, i138_29, ix_pv_s, ix_pi_s, zpn, ix_po_s, ix_po_n, ix_ph_s, ix_bk_v, ix_bk_n, zcv, zcv_ne, ↓reduceIte, Nat.reduceEqDiff, zn_m1, zd_lt_p, zd_lt_n, zd_le_p, zd_le_n, zd_eq_p, zd_eq_n, zd_0_p, zd_0_n, zd_0lt_p, zd_0lt_n, zd_le0_p, zd_le0_n, zn_lt0, zn_le0, zn_add, zn_mul, zn_sub, zm_lt, zm_le, zm_eq, zb_1, zb_0, not_true_eq_false, not_false_eq_true, mo_c, mo_g0, mo_s0, mo_g1, mo_g2, mo_g3, mo_s3, mo_g4, mo_s4, mo_g5, mo_s5, mo_g6, mo_s6, mo_g7, mo_s7, mo_g8, mo_s8, mo_g9, mo_g10, mo_g11, mo_g12, mo_g13, mo_s13, mo_g14, mo_s14, mo_g15, mo_s15, mo_g16, mo_g17, mo_s17, mo_g18, mo_s18, mo_g19, mo_g20, mo_s20, mo_g21, mo_s21, mo_g22, mo_s22, mo_g23, mo_s23, ra_25, wa_25, al_25, ra_68, wa_68, al_68, ra_69, wa_69, al_69, ra_70, wa_70, al_70, ra_71, wa_71, al_71, ra_72, wa_72, al_72, ra_73, wa_73, al_73, ra_74, wa_74, al_74, ra_75, wa_75, al_75, a1, a2, r7]
    | inr y =>
      obtain ⟨q, w⟩ := y
      rw [hv] at r2
      obtain ⟨rfl, p2⟩ := r2
      have r7 := p2.2.2.2.1
      have r4 := p2.1
      refine ⟨fm_u μ2 68 (W + a) (nI v), ?_, μ2, rfl, p2, mq_trans c1 c2⟩
      simp (disch := first | assumption | omega | decide) only [e138, i138_0, i138_1, i138_2, i138_5, i138_6, i138_9, i138_10, i138_11, i138_14, i138_17, i138_18, i138_21, i138_22, i138_23, i138_26, i138_27, i138_28, i138_29, ix_pv_s, ix_pi_s, zpn, ix_po_s, ix_po_n, ix_ph_s, ix_bk_v, ix_bk_n, zcv, zcv_ne, ↓reduceIte, Nat.reduceEqDiff, zn_m1, zd_lt_p, zd_lt_n, zd_le_p, zd_le_n, zd_eq_p, zd_eq_n, zd_0_p, zd_0_n, zd_0lt_p, zd_0lt_n, zd_le0_p, zd_le0_n, zn_lt0, zn_le0, zn_add, zn_mul, zn_sub, zm_lt, zm_le, zm_eq, zb_1, zb_0, not_true_eq_false, not_false_eq_true, mo_c, mo_g0, mo_s0, mo_g1, mo_g2, mo_g3, mo_s3, mo_g4, mo_s4, mo_g5, mo_s5, mo_g6, mo_s6, mo_g7, mo_s7, mo_g8, mo_s8, mo_g9, mo_g10, mo_g11, mo_g12, mo_g13, mo_s13, mo_g14, mo_s14, mo_g15, mo_s15, mo_g16, mo_g17, mo_s17, mo_g18, mo_s18, mo_g19, mo_g20, mo_s20, mo_g21, mo_s21, mo_g22, mo_s22, mo_g23, mo_s23, ra_25, wa_25, al_25, ra_68, wa_68, al_68, ra_69, wa_69, al_69, ra_70, wa_70, al_70, ra_71, wa_71, al_71, ra_72, wa_72, al_72, ra_73, wa_73, al_73, ra_74, wa_74, al_74, ra_75, wa_75, al_75, a1, a2, r7, r4]
theorem MS_68 {W q : Nat} {v : Int32} (hn : n ≤ 100) (hW : W = 209 ∨ W = 214) (ha : a < 5) (h : MS μ a n T 0 q cs) : MS (fm_u μ 68 (W + a) v) a n T 0 q cs := by
  obtain ⟨y1, y2, y3, y4, y5, y6, y7, y8, y9, y10⟩ := h
  exact ⟨by rw [fm_un (by decide)]; exact y1, by rw [fm_un (by decide)]; exact y2, by rw [fm_un (by decide)]; exact y3, by rw [fm_un (by decide)]; exact y4, by rw [fm_un (by decide)]; exact y5, fun i hi => by rw [fm_uk (by omega)]; exact y6 i hi, by rw [fm_uk (by omega)]; exact y7, fun i hi => by rw [fm_uk (by omega)]; exact y8 i hi, y9, y10⟩
theorem mq2_68 {W : Nat} {v : Int32} (hW : W = 209 ∨ W = 214) : mq2 a μ (fm_u μ 68 (W + a) v) := ⟨fun q _ b => fm_un b, fun k _ _ _ => by rw [fm_un (by decide)], fun k b c _ _ => fm_uk (by omega)⟩
theorem MC_of {μ' : fm_M} {res : pT} (h : MR μ' a n T 0 cs res) (h0 : μ' 68 (209 + a) = nI sk) (h1 : μ' 68 (214 + a) = nI wt) : MC μ' a n T cs (match (motive := pT → Nat ⊕ (Nat × List Nat × Nat × Nat)) res with
    | .inl e => .inl e
    | .inr (q, l) => .inr (q, l, sk, wt)) := by
  cases res with
  | inl z => exact h
  | inr y => exact ⟨h, h0, h1⟩
theorem m_clause (ha : a < 5) (hn : n ≤ 100) (h : MS μ a n T 0 p cs) (hs : μ 68 (209 + a) = nI sk) (hw : μ 68 (214 + a) = nI wt) : ∃ μ' : fm_M, ix_call X (e + 24) 136 [.ref 67] (fm_W μ τ) = some (none, fm_W μ' τ) ∧ MC μ' a n T cs (clauS n T p sk wt) ∧ mq2 a μ μ' := by
  have k1 := m_here (X := X) (d := e + 23) (τ := τ) hn h
  have keep : ∀ μ' : fm_M, mq a μ μ' → μ' 68 (209 + a) = nI sk ∧ μ' 68 (214 + a) = nI wt := fun μ' c => ⟨(c.2.2 _ (by omega) (by omega)).trans hs, (c.2.2 _ (by omega) (by omega)).trans hw⟩
  by_cases q115 : sg n T p = nI 115
  · rw [q115] at k1
    obtain ⟨μ1, a1, r1⟩ := m_tellsP (X := X) (d := e + 18) (τ := τ) (k := 0) (W := 209) (by decide) (by decide) (Or.inl rfl) ha hn h
    have a1' : ix_call X (e + 23) 138 [.ref 67, .int (nI 209), .retAddr 2] (fm_W μ τ) = _ := a1
    rw [clauS, if_pos q115]
    cases hv : wnS n T 0 p with
    | inl z =>
      rw [hv] at r1
      obtain ⟨w1, c1⟩ := r1
      refine ⟨μ1, ?_, w1, mq2_of c1⟩
      simp (disch := first | assumption | omega | decide) only [e136, i136_0, i136_1, i136_4, i136_48, i136_49, i136_52, i136_54, i136_57, i136_60, i136_61, i136_64, i136_66, i136_69, i136_72, i136_73, i136_75, i136_77, i136_80, i136_83, i136_84, i136_87, i136_89, i136_92, i136_95, i136_96, i136_97, i136_100, ix_pv_s, ix_pi_s, zpn, ix_po_s, ix_po_n, ix_ph_s, ix_bk_v, ix_bk_n, zcv, zcv_ne, ↓reduceIte, Nat.reduceEqDiff, zn_m1, zd_lt_p, zd_lt_n, zd_le_p, zd_le_n, zd_eq_p, zd_eq_n, zd_0_p, zd_0_n, zd_0lt_p, zd_0lt_n, zd_le0_p, zd_le0_n, zn_lt0, zn_le0, zn_add, zn_mul, zn_sub, zm_lt, zm_le, zm_eq, zb_1, zb_0, not_true_eq_false, not_false_eq_true, mo_c, mo_g0, mo_s0, mo_g1, mo_g2, mo_g3, mo_s3, mo_g4, mo_s4, mo_g5, mo_s5, mo_g6, mo_s6, mo_g7, mo_s7, mo_g8, mo_s8, mo_g9, mo_g10, mo_g11, mo_g12, mo_g13, mo_s13, mo_g14, mo_s14, mo_g15, mo_s15, mo_g16, mo_g17, mo_s17, mo_g18, mo_s18, mo_g19, mo_g20, mo_s20, mo_g21, mo_s21, mo_g22, mo_s22, mo_g23, mo_s23, ra_25, wa_25, al_25, ra_68, wa_68, al_68, ra_69, wa_69, al_69, ra_70, wa_70, al_70, ra_71, wa_71, al_71, ra_72, wa_72, al_72, ra_73, wa_73, al_73, ra_74, wa_74, al_74, ra_75, wa_75, al_75, k1, a1']
    | inr y =>
      obtain ⟨q, v⟩ := y
      rw [hv] at r1
      obtain ⟨μ2, rfl, p2, c2⟩ := r1
      obtain ⟨g1, g2⟩ := keep μ2 c2
      refine ⟨_, ?_, ⟨?_, fm_us, ?_⟩, mq2_trans (mq2_of c2) (mq2_68 (Or.inl rfl))⟩
      · simp (disch := first | assumption | omega | decide) only [e136, i136_0, i136_1, i136_4, i136_48, i136_49, i136_52, i136_54, i136_57, i136_60, i136_61, i136_64, i136_66, i136_69, i136_72, i136_73, i136_75, i136_77, i136_80, i136_83, i136_84, i136_87, i136_89, i136_92, i136_95, i136_96, i136_97, i136_100, ix_pv_s, ix_pi_s, zpn, ix_po_s, ix_po_n, ix_ph_s, ix_bk_v, ix_bk_n, zcv, zcv_ne, ↓reduceIte, Nat.reduceEqDiff, zn_m1, zd_lt_p, zd_lt_n, zd_le_p, zd_le_n, zd_eq_p, zd_eq_n, zd_0_p, zd_0_n, zd_0lt_p, zd_0lt_n, zd_le0_p, zd_le0_n, zn_lt0, zn_le0, zn_add, zn_mul, zn_sub, zm_lt, zm_le, zm_eq, zb_1, zb_0, not_true_eq_false, not_false_eq_true, mo_c, mo_g0, mo_s0, mo_g1, mo_g2, mo_g3, mo_s3, mo_g4, mo_s4, mo_g5, mo_s5, mo_g6, mo_s6, mo_g7, mo_s7, mo_g8, mo_s8, mo_g9, mo_g10, mo_g11, mo_g12, mo_g13, mo_s13, mo_g14, mo_s14, mo_g15, mo_s15, mo_g16, mo_g17, mo_s17, mo_g18, mo_s18, mo_g19, mo_g20, mo_s20, mo_g21, mo_s21, mo_g22, mo_s22, mo_g23, mo_s23, ra_25, wa_25, al_25, ra_68, wa_68, al_68, ra_69, wa_69, al_69, ra_70, wa_70, al_70, ra_71, wa_71, al_71, ra_72, wa_72, al_72, ra_73, wa_73, al_73, ra_74, wa_74, al_74, ra_75, wa_75, al_75, k1, a1']
      · rw [List.append_nil]
        exact MS_68 hn (Or.inl rfl) ha p2
      · rw [fm_uk (by omega)]
        exact g2
  · by_cases q119 : sg n T p = nI 119
    · rw [q119] at k1
      obtain ⟨μ1, a1, r1⟩ := m_tellsP (X := X) (d := e + 18) (τ := τ) (k := 1) (W := 214) (by decide) (by decide) (Or.inr rfl) ha hn h
      have a1' : ix_call X (e + 23) 138 [.ref 67, .int (nI 214), .retAddr 4] (fm_W μ τ) = _ := a1
      rw [clauS, if_neg q115, if_pos q119]
      cases hv : wnS n T 1 p with
      | inl z =>
        rw [hv] at r1
        obtain ⟨w1, c1⟩ := r1
        refine ⟨μ1, ?_, w1, mq2_of c1⟩
        simp (disch := first | assumption | omega | decide) only [e136, i136_0, i136_1, i136_4, i136_48, i136_49, i136_52, i136_54, i136_57, i136_60, i136_61, i136_64, i136_66, i136_69, i136_72, i136_73, i136_75, i136_77, i136_80, i136_83, i136_84, i136_87, i136_89, i136_92, i136_95, i136_96, i136_97, i136_100, ix_pv_s, ix_pi_s, zpn, ix_po_s, ix_po_n, ix_ph_s, ix_bk_v, ix_bk_n, zcv, zcv_ne, ↓reduceIte, Nat.reduceEqDiff, zn_m1, zd_lt_p, zd_lt_n, zd_le_p, zd_le_n, zd_eq_p, zd_eq_n, zd_0_p, zd_0_n, zd_0lt_p, zd_0lt_n, zd_le0_p, zd_le0_n, zn_lt0, zn_le0, zn_add, zn_mul, zn_sub, zm_lt, zm_le, zm_eq, zb_1, zb_0, not_true_eq_false, not_false_eq_true, mo_c, mo_g0, mo_s0, mo_g1, mo_g2, mo_g3, mo_s3, mo_g4, mo_s4, mo_g5, mo_s5, mo_g6, mo_s6, mo_g7, mo_s7, mo_g8, mo_s8, mo_g9, mo_g10, mo_g11, mo_g12, mo_g13, mo_s13, mo_g14, mo_s14, mo_g15, mo_s15, mo_g16, mo_g17, mo_s17, mo_g18, mo_s18, mo_g19, mo_g20, mo_s20, mo_g21, mo_s21, mo_g22, mo_s22, mo_g23, mo_s23, ra_25, wa_25, al_25, ra_68, wa_68, al_68, ra_69, wa_69, al_69, ra_70, wa_70, al_70, ra_71, wa_71, al_71, ra_72, wa_72, al_72, ra_73, wa_73, al_73, ra_74, wa_74, al_74, ra_75, wa_75, al_75, k1, a1']
      | inr y =>
        obtain ⟨q, v⟩ := y
        rw [hv] at r1
        obtain ⟨μ2, rfl, p2, c2⟩ := r1
        obtain ⟨g1, g2⟩ := keep μ2 c2
        refine ⟨_, ?_, ⟨?_, ?_, fm_us⟩, mq2_trans (mq2_of c2) (mq2_68 (Or.inr rfl))⟩
        · simp (disch := first | assumption | omega | decide) only [e136, i136_0, i136_1, i136_4, i136_48, i136_49, i136_52, i136_54, i136_57, i136_60, i136_61, i136_64, i136_66, i136_69, i136_72, i136_73, i136_75, i136_77, i136_80, i136_83, i136_84, i136_87, i136_89, i136_92, i136_95, i136_96, i136_97, i136_100, ix_pv_s, ix_pi_s, zpn, ix_po_s, ix_po_n, ix_ph_s, ix_bk_v, ix_bk_n, zcv, zcv_ne, ↓reduceIte, Nat.reduceEqDiff, zn_m1, zd_lt_p, zd_lt_n, zd_le_p, zd_le_n, zd_eq_p, zd_eq_n, zd_0_p, zd_0_n, zd_0lt_p, zd_0lt_n, zd_le0_p, zd_le0_n, zn_lt0, zn_le0, zn_add, zn_mul, zn_sub, zm_lt, zm_le, zm_eq, zb_1, zb_0, not_true_eq_false, not_false_eq_true, mo_c, mo_g0, mo_s0, mo_g1, mo_g2, mo_g3, mo_s3, mo_g4, mo_s4, mo_g5, mo_s5, mo_g6, mo_s6, mo_g7, mo_s7, mo_g8, mo_s8, mo_g9, mo_g10, mo_g11, mo_g12, mo_g13, mo_s13, mo_g14, mo_s14, mo_g15, mo_s15, mo_g16, mo_g17, mo_s17, mo_g18, mo_s18, mo_g19, mo_g20, mo_s20, mo_g21, mo_s21, mo_g22, mo_s22, mo_g23, mo_s23, ra_25, wa_25, al_25, ra_68, wa_68, al_68, ra_69, wa_69, al_69, ra_70, wa_70, al_70, ra_71, wa_71, al_71, ra_72, wa_72, al_72, ra_73, wa_73, al_73, ra_74, wa_74, al_74, ra_75, wa_75, al_75, k1, a1']
        · rw [List.append_nil]
          exact MS_68 hn (Or.inr rfl) ha p2
        · rw [fm_uk (by omega)]
          exact g1
    · by_cases q114 : sg n T p = nI 114
      · rw [q114] at k1
        obtain ⟨μ1, a1, r1, c1⟩ := m_much (X := X) (e := e) (τ := τ) (k := 2) (A := 18) (K := -10) (by decide) (by decide) (by decide) (fun w hw => stp_m hw) ha hn h
        have a1' : ix_call X (e + 23) 142 [.ref 67, .int (-10), .retAddr 6] (fm_W μ τ) = _ := a1
        obtain ⟨g1, g2⟩ := keep μ1 c1
        rw [clauS, if_neg q115, if_neg q119, if_pos q114]
        refine ⟨μ1, ?_, MC_of r1 g1 g2, mq2_of c1⟩
        simp (disch := first | assumption | omega | decide) only [e136, i136_0, i136_1, i136_4, i136_48, i136_49, i136_52, i136_54, i136_57, i136_60, i136_61, i136_64, i136_66, i136_69, i136_72, i136_73, i136_75, i136_77, i136_80, i136_83, i136_84, i136_87, i136_89, i136_92, i136_95, i136_96, i136_97, i136_100, ix_pv_s, ix_pi_s, zpn, ix_po_s, ix_po_n, ix_ph_s, ix_bk_v, ix_bk_n, zcv, zcv_ne, ↓reduceIte, Nat.reduceEqDiff, zn_m1, zd_lt_p, zd_lt_n, zd_le_p, zd_le_n, zd_eq_p, zd_eq_n, zd_0_p, zd_0_n, zd_0lt_p, zd_0lt_n, zd_le0_p, zd_le0_n, zn_lt0, zn_le0, zn_add, zn_mul, zn_sub, zm_lt, zm_le, zm_eq, zb_1, zb_0, not_true_eq_false, not_false_eq_true, mo_c, mo_g0, mo_s0, mo_g1, mo_g2, mo_g3, mo_s3, mo_g4, mo_s4, mo_g5, mo_s5, mo_g6, mo_s6, mo_g7, mo_s7, mo_g8, mo_s8, mo_g9, mo_g10, mo_g11, mo_g12, mo_g13, mo_s13, mo_g14, mo_s14, mo_g15, mo_s15, mo_g16, mo_g17, mo_s17, mo_g18, mo_s18, mo_g19, mo_g20, mo_s20, mo_g21, mo_s21, mo_g22, mo_s22, mo_g23, mo_s23, ra_25, wa_25, al_25, ra_68, wa_68, al_68, ra_69, wa_69, al_69, ra_70, wa_70, al_70, ra_71, wa_71, al_71, ra_72, wa_72, al_72, ra_73, wa_73, al_73, ra_74, wa_74, al_74, ra_75, wa_75, al_75, k1, a1']
      · by_cases q108 : sg n T p = nI 108
        · rw [q108] at k1
          obtain ⟨μ1, a1, r1, c1⟩ := m_much (X := X) (e := e) (τ := τ) (k := 3) (A := 19) (K := -200) (by decide) (by decide) (by decide) (fun w hw => stp_l hw) ha hn h
          have a1' : ix_call X (e + 23) 142 [.ref 67, .int (-200), .retAddr 8] (fm_W μ τ) = _ := a1
          obtain ⟨g1, g2⟩ := keep μ1 c1
          rw [clauS, if_neg q115, if_neg q119, if_neg q114, if_pos q108]
          refine ⟨μ1, ?_, MC_of r1 g1 g2, mq2_of c1⟩
          simp (disch := first | assumption | omega | decide) only [e136, i136_0, i136_1, i136_4, i136_48, i136_49, i136_52, i136_54, i136_57, i136_60, i136_61, i136_64, i136_66, i136_69, i136_72, i136_73, i136_75, i136_77, i136_80, i136_83, i136_84, i136_87, i136_89, i136_92, i136_95, i136_96, i136_97, i136_100, ix_pv_s, ix_pi_s, zpn, ix_po_s, ix_po_n, ix_ph_s, ix_bk_v, ix_bk_n, zcv, zcv_ne, ↓reduceIte, Nat.reduceEqDiff, zn_m1, zd_lt_p, zd_lt_n, zd_le_p, zd_le_n, zd_eq_p, zd_eq_n, zd_0_p, zd_0_n, zd_0lt_p, zd_0lt_n, zd_le0_p, zd_le0_n, zn_lt0, zn_le0, zn_add, zn_mul, zn_sub, zm_lt, zm_le, zm_eq, zb_1, zb_0, not_true_eq_false, not_false_eq_true, mo_c, mo_g0, mo_s0, mo_g1, mo_g2, mo_g3, mo_s3, mo_g4, mo_s4, mo_g5, mo_s5, mo_g6, mo_s6, mo_g7, mo_s7, mo_g8, mo_s8, mo_g9, mo_g10, mo_g11, mo_g12, mo_g13, mo_s13, mo_g14, mo_s14, mo_g15, mo_s15, mo_g16, mo_g17, mo_s17, mo_g18, mo_s18, mo_g19, mo_g20, mo_s20, mo_g21, mo_s21, mo_g22, mo_s22, mo_g23, mo_s23, ra_25, wa_25, al_25, ra_68, wa_68, al_68, ra_69, wa_69, al_69, ra_70, wa_70, al_70, ra_71, wa_71, al_71, ra_72, wa_72, al_72, ra_73, wa_73, al_73, ra_74, wa_74, al_74, ra_75, wa_75, al_75, k1, a1']
        · rw [clauS, if_neg q115, if_neg q119, if_neg q114, if_neg q108]
          refine ⟨fm_u μ 67 7 (nI 1), ?_, ⟨?_, ?_, fm_us⟩, mq2_of mq_7⟩
          · simp (disch := first | assumption | omega | decide) only [e136, i136_0, i136_1, i136_4, i136_48, i136_49, i136_52, i136_54, i136_57, i136_60, i136_61, i136_64, i136_66, i136_69, i136_72, i136_73, i136_75, i136_77, i136_80, i136_83, i136_84, i136_87, i136_89, i136_92, i136_95, i136_96, i136_97, i136_100, ix_pv_s, ix_pi_s, zpn, ix_po_s, ix_po_n, ix_ph_s, ix_bk_v, ix_bk_n, zcv, zcv_ne, ↓reduceIte, Nat.reduceEqDiff, zn_m1, zd_lt_p, zd_lt_n, zd_le_p, zd_le_n, zd_eq_p, zd_eq_n, zd_0_p, zd_0_n, zd_0lt_p, zd_0lt_n, zd_le0_p, zd_le0_n, zn_lt0, zn_le0, zn_add, zn_mul, zn_sub, zm_lt, zm_le, zm_eq, zb_1, zb_0, not_true_eq_false, not_false_eq_true, mo_c, mo_g0, mo_s0, mo_g1, mo_g2, mo_g3, mo_s3, mo_g4, mo_s4, mo_g5, mo_s5, mo_g6, mo_s6, mo_g7, mo_s7, mo_g8, mo_s8, mo_g9, mo_g10, mo_g11, mo_g12, mo_g13, mo_s13, mo_g14, mo_s14, mo_g15, mo_s15, mo_g16, mo_g17, mo_s17, mo_g18, mo_s18, mo_g19, mo_g20, mo_s20, mo_g21, mo_s21, mo_g22, mo_s22, mo_g23, mo_s23, ra_25, wa_25, al_25, ra_68, wa_68, al_68, ra_69, wa_69, al_69, ra_70, wa_70, al_70, ra_71, wa_71, al_71, ra_72, wa_72, al_72, ra_73, wa_73, al_73, ra_74, wa_74, al_74, ra_75, wa_75, al_75, k1, q115, q119, q114, q108]
          · rw [fm_uk (by decide)]; exact h.1
          · rw [fm_uk (by decide)]; exact h.2.1
theorem m_clsL (ha : a < 5) (hn : n ≤ 100) : ∀ (m i p : Nat) (cs : List Nat) (sk wt : Nat) (μ : fm_M), i + m = 10 → MS μ a n T 0 p cs → μ 68 (209 + a) = nI sk → μ 68 (214 + a) = nI wt → ∃ (y : Option Value) (μ' : fm_M), ix_sem X (e + 25) 135 106 [some (.ref 67), some (.int (nI i))] [] (fm_W μ τ) = ix_sem X (e + 25) 135 148 [some (.ref 67), y] [] (fm_W μ' τ) ∧ MO μ' a n T (clsS n T m p cs sk wt) ∧ mq2 a μ μ'
  | 0, i, p, cs, sk, wt, μ, hi, h, h0, h1 => by
    have h7 := h.2.2.2.1
    have hpl := h.2.2.2.2.2.2.2.2
    have hi' : i = 10 := hi
    subst hi'
    refine ⟨some (.int (nI 10)), μ, ?_, ?_, mq2_of mq_refl⟩
    · simp (disch := first | assumption | omega | decide) only [i135_0, i135_1, i135_4, i135_5, i135_6, i135_7, i135_10, i135_12, i135_13, i135_14, i135_15, i135_18, i135_19, i135_20, i135_23, i135_24, i135_25, i135_28, i135_30, i135_31, i135_34, i135_35, i135_38, i135_40, i135_41, i135_42, i135_43, i135_46, i135_49, i135_50, i135_53, i135_54, i135_56, i135_57, i135_58, i135_61, i135_64, i135_65, i135_68, i135_69, i135_70, i135_71, i135_72, i135_75, i135_78, i135_79, i135_82, i135_83, i135_84, i135_85, i135_86, i135_87, i135_90, i135_91, i135_92, i135_95, i135_96, i135_97, i135_100, i135_101, i135_102, i135_103, i135_106, i135_107, i135_110, i135_113, i135_114, i135_116, i135_119, i135_120, i135_123, i135_125, i135_128, i135_129, i135_130, i135_133, i135_134, i135_135, i135_138, i135_139, i135_142, i135_145, i135_149, i135_152, i135_155, i135_156, i135_159, i135_160, i135_163, i135_166, i135_168, i135_169, i135_172, i135_173, i135_174, i135_175, i135_178, i135_179, i135_180, i135_181, i135_182, i135_183, i135_184, i135_185, i135_188, i135_190, i135_191, i135_194, i135_195, i135_196, i135_199, i135_200, i135_203, ix_pv_s, ix_pi_s, zpn, ix_po_s, ix_po_n, ix_ph_s, ix_bk_v, ix_bk_n, zcv, zcv_ne, ↓reduceIte, Nat.reduceEqDiff, zn_m1, zd_lt_p, zd_lt_n, zd_le_p, zd_le_n, zd_eq_p, zd_eq_n, zd_0_p, zd_0_n, zd_0lt_p, zd_0lt_n, zd_le0_p, zd_le0_n, zn_lt0, zn_le0, zn_add, zn_mul, zn_sub, zm_lt, zm_le, zm_eq, zb_1, zb_0, not_true_eq_false, not_false_eq_true, mo_c, mo_g0, mo_s0, mo_g1, mo_g2, mo_g3, mo_s3, mo_g4, mo_s4, mo_g5, mo_s5, mo_g6, mo_s6, mo_g7, mo_s7, mo_g8, mo_s8, mo_g9, mo_g10, mo_g11, mo_g12, mo_g13, mo_s13, mo_g14, mo_s14, mo_g15, mo_s15, mo_g16, mo_g17, mo_s17, mo_g18, mo_s18, mo_g19, mo_g20, mo_s20, mo_g21, mo_s21, mo_g22, mo_s22, mo_g23, mo_s23, ra_25, wa_25, al_25, ra_68, wa_68, al_68, ra_69, wa_69, al_69, ra_70, wa_70, al_70, ra_71, wa_71, al_71, ra_72, wa_72, al_72, ra_73, wa_73, al_73, ra_74, wa_74, al_74, ra_75, wa_75, al_75, h7]
    · rw [clsS]
      by_cases q : n ≤ p
      · rw [if_pos q]
        have e : p = n := by omega
        subst e
        exact ⟨h, h0, h1⟩
      · rw [if_neg q]
        exact Or.inr ⟨h7, h.2.1, h.2.2.1, by omega⟩
  | m + 1, i, p, cs, sk, wt, μ, hi, h, h0, h1 => by
    have k1 := m_here (X := X) (d := e + 24) (τ := τ) hn h
    have h7 := h.2.2.2.1
    have h5 := h.2.1
    have hpl := h.2.2.2.2.2.2.2.2
    rw [clsS]
    by_cases q59 : sg n T p = nI 59
    · have lp := sg_lt (by decide) q59
      rw [if_neg (by omega), if_pos q59]
      rw [q59] at k1
      obtain ⟨μ2, a2, r2, c2⟩ := m_clause (X := X) (e := e) (τ := τ) ha hn (m_sp1 h lp) (sk := sk) (wt := wt) (by rw [fm_un (by decide)]; exact h0) (by rw [fm_un (by decide)]; exact h1)
      cases hc : clauS n T (p + 1) sk wt with
      | inl z =>
        rw [hc] at r2
        have w2 : MW μ2 a z := r2
        have r7 := w2.2.2
        refine ⟨some (.int (nI (i + 1))), μ2, ?_, Or.inl w2, mq2_trans (mq2_of mq_5) c2⟩
        simp (disch := first | assumption | omega | decide) only [i135_0, i135_1, i135_4, i135_5, i135_6, i135_7, i135_10, i135_12, i135_13, i135_14, i135_15, i135_18, i135_19, i135_20, i135_23, i135_24, i135_25, i135_28, i135_30, i135_31, i135_34, i135_35, i135_38, i135_40, i135_41, i135_42, i135_43, i135_46, i135_49, i135_50, i135_53, i135_54, i135_56, i135_57, i135_58, i135_61, i135_64, i135_65, i135_68, i135_69, i135_70, i135_71, i135_72, i135_75, i135_78, i135_79, i135_82, i135_83, i135_84, i135_85, i135_86, i135_87, i135_90, i135_91, i135_92, i135_95, i135_96, i135_97, i135_100, i135_101, i135_102, i135_103, i135_106, i135_107, i135_110, i135_113, i135_114, i135_116, i135_119, i135_120, i135_123, i135_125, i135_128, i135_129, i135_130, i135_133, i135_134, i135_135, i135_138, i135_139, i135_142, i135_145, i135_149, i135_152, i135_155, i135_156, i135_159, i135_160, i135_163, i135_166, i135_168, i135_169, i135_172, i135_173, i135_174, i135_175, i135_178, i135_179, i135_180, i135_181, i135_182, i135_183, i135_184, i135_185, i135_188, i135_190, i135_191, i135_194, i135_195, i135_196, i135_199, i135_200, i135_203, ix_pv_s, ix_pi_s, zpn, ix_po_s, ix_po_n, ix_ph_s, ix_bk_v, ix_bk_n, zcv, zcv_ne, ↓reduceIte, Nat.reduceEqDiff, zn_m1, zd_lt_p, zd_lt_n, zd_le_p, zd_le_n, zd_eq_p, zd_eq_n, zd_0_p, zd_0_n, zd_0lt_p, zd_0lt_n, zd_le0_p, zd_le0_n, zn_lt0, zn_le0, zn_add, zn_mul, zn_sub, zm_lt, zm_le, zm_eq, zb_1, zb_0, not_true_eq_false, not_false_eq_true, mo_c, mo_g0, mo_s0, mo_g1, mo_g2, mo_g3, mo_s3, mo_g4, mo_s4, mo_g5, mo_s5, mo_g6, mo_s6, mo_g7, mo_s7, mo_g8, mo_s8, mo_g9, mo_g10, mo_g11, mo_g12, mo_g13, mo_s13, mo_g14, mo_s14, mo_g15, mo_s15, mo_g16, mo_g17, mo_s17, mo_g18, mo_s18, mo_g19, mo_g20, mo_s20, mo_g21, mo_s21, mo_g22, mo_s22, mo_g23, mo_s23, ra_25, wa_25, al_25, ra_68, wa_68, al_68, ra_69, wa_69, al_69, ra_70, wa_70, al_70, ra_71, wa_71, al_71, ra_72, wa_72, al_72, ra_73, wa_73, al_73, ra_74, wa_74, al_74, ra_75, wa_75, al_75, h7, h5, k1, a2, r7]
      | inr y =>
        obtain ⟨q', l, sk', wt'⟩ := y
        rw [hc] at r2
        obtain ⟨p2, s2, w2⟩ := r2
        obtain ⟨y, μ3, a3, r3, c3⟩ := m_clsL ha hn m (i + 1) q' _ sk' wt' μ2 (by omega) p2 s2 w2
        refine ⟨y, μ3, ?_, r3, mq2_trans (mq2_of mq_5) (mq2_trans c2 c3)⟩
        rw [← a3, i135_106]
        simp (disch := first | assumption | omega | decide) only [i135_0, i135_1, i135_4, i135_5, i135_6, i135_7, i135_10, i135_12, i135_13, i135_14, i135_15, i135_18, i135_19, i135_20, i135_23, i135_24, i135_25, i135_28, i135_30, i135_31, i135_34, i135_35, i135_38, i135_40, i135_41, i135_42, i135_43, i135_46, i135_49, i135_50, i135_53, i135_54, i135_56, i135_57, i135_58, i135_61, i135_64, i135_65, i135_68, i135_69, i135_70, i135_71, i135_72, i135_75, i135_78, i135_79, i135_82, i135_83, i135_84, i135_85, i135_86, i135_87, i135_90, i135_91, i135_92, i135_95, i135_96, i135_97, i135_100, i135_101, i135_102, i135_103, i135_107, i135_110, i135_113, i135_114, i135_116, i135_119, i135_120, i135_123, i135_125, i135_128, i135_129, i135_130, i135_133, i135_134, i135_135, i135_138, i135_139, i135_142, i135_145, i135_149, i135_152, i135_155, i135_156, i135_159, i135_160, i135_163, i135_166, i135_168, i135_169, i135_172, i135_173, i135_174, i135_175, i135_178, i135_179, i135_180, i135_181, i135_182, i135_183, i135_184, i135_185, i135_188, i135_190, i135_191, i135_194, i135_195, i135_196, i135_199, i135_200, i135_203, ix_pv_s, ix_pi_s, zpn, ix_po_s, ix_po_n, ix_ph_s, ix_bk_v, ix_bk_n, zcv, zcv_ne, ↓reduceIte, Nat.reduceEqDiff, zn_m1, zd_lt_p, zd_lt_n, zd_le_p, zd_le_n, zd_eq_p, zd_eq_n, zd_0_p, zd_0_n, zd_0lt_p, zd_0lt_n, zd_le0_p, zd_le0_n, zn_lt0, zn_le0, zn_add, zn_mul, zn_sub, zm_lt, zm_le, zm_eq, zb_1, zb_0, not_true_eq_false, not_false_eq_true, mo_c, mo_g0, mo_s0, mo_g1, mo_g2, mo_g3, mo_s3, mo_g4, mo_s4, mo_g5, mo_s5, mo_g6, mo_s6, mo_g7, mo_s7, mo_g8, mo_s8, mo_g9, mo_g10, mo_g11, mo_g12, mo_g13, mo_s13, mo_g14, mo_s14, mo_g15, mo_s15, mo_g16, mo_g17, mo_s17, mo_g18, mo_s18, mo_g19, mo_g20, mo_s20, mo_g21, mo_s21, mo_g22, mo_s22, mo_g23, mo_s23, ra_25, wa_25, al_25, ra_68, wa_68, al_68, ra_69, wa_69, al_69, ra_70, wa_70, al_70, ra_71, wa_71, al_71, ra_72, wa_72, al_72, ra_73, wa_73, al_73, ra_74, wa_74, al_74, ra_75, wa_75, al_75, h7, h5, k1, a2]
    · refine ⟨some (.int (nI i)), μ, ?_, ?_, mq2_of mq_refl⟩
      · simp (disch := first | assumption | omega | decide) only [i135_0, i135_1, i135_4, i135_5, i135_6, i135_7, i135_10, i135_12, i135_13, i135_14, i135_15, i135_18, i135_19, i135_20, i135_23, i135_24, i135_25, i135_28, i135_30, i135_31, i135_34, i135_35, i135_38, i135_40, i135_41, i135_42, i135_43, i135_46, i135_49, i135_50, i135_53, i135_54, i135_56, i135_57, i135_58, i135_61, i135_64, i135_65, i135_68, i135_69, i135_70, i135_71, i135_72, i135_75, i135_78, i135_79, i135_82, i135_83, i135_84, i135_85, i135_86, i135_87, i135_90, i135_91, i135_92, i135_95, i135_96, i135_97, i135_100, i135_101, i135_102, i135_103, i135_106, i135_107, i135_110, i135_113, i135_114, i135_116, i135_119, i135_120, i135_123, i135_125, i135_128, i135_129, i135_130, i135_133, i135_134, i135_135, i135_138, i135_139, i135_142, i135_145, i135_149, i135_152, i135_155, i135_156, i135_159, i135_160, i135_163, i135_166, i135_168, i135_169, i135_172, i135_173, i135_174, i135_175, i135_178, i135_179, i135_180, i135_181, i135_182, i135_183, i135_184, i135_185, i135_188, i135_190, i135_191, i135_194, i135_195, i135_196, i135_199, i135_200, i135_203, ix_pv_s, ix_pi_s, zpn, ix_po_s, ix_po_n, ix_ph_s, ix_bk_v, ix_bk_n, zcv, zcv_ne, ↓reduceIte, Nat.reduceEqDiff, zn_m1, zd_lt_p, zd_lt_n, zd_le_p, zd_le_n, zd_eq_p, zd_eq_n, zd_0_p, zd_0_n, zd_0lt_p, zd_0lt_n, zd_le0_p, zd_le0_n, zn_lt0, zn_le0, zn_add, zn_mul, zn_sub, zm_lt, zm_le, zm_eq, zb_1, zb_0, not_true_eq_false, not_false_eq_true, mo_c, mo_g0, mo_s0, mo_g1, mo_g2, mo_g3, mo_s3, mo_g4, mo_s4, mo_g5, mo_s5, mo_g6, mo_s6, mo_g7, mo_s7, mo_g8, mo_s8, mo_g9, mo_g10, mo_g11, mo_g12, mo_g13, mo_s13, mo_g14, mo_s14, mo_g15, mo_s15, mo_g16, mo_g17, mo_s17, mo_g18, mo_s18, mo_g19, mo_g20, mo_s20, mo_g21, mo_s21, mo_g22, mo_s22, mo_g23, mo_s23, ra_25, wa_25, al_25, ra_68, wa_68, al_68, ra_69, wa_69, al_69, ra_70, wa_70, al_70, ra_71, wa_71, al_71, ra_72, wa_72, al_72, ra_73, wa_73, al_73, ra_74, wa_74, al_74, ra_75, wa_75, al_75, h7, k1, q59]
      · by_cases q : n ≤ p
        · rw [if_pos q]
          have e : p = n := by omega
          subst e
          exact ⟨h, h0, h1⟩
        · rw [if_neg q, if_neg q59]
          exact Or.inr ⟨h7, h.2.1, h.2.2.1, by omega⟩
end MZ
