/-! ===== the program reads a word, a clause, a park ===== -/
--need 70.cpart
def RW (μ' : fm_M) (r n : Nat) (T : Nat → Int32) (cs : List Nat) (res : Nat ⊕ (Nat × Nat)) (ok : Int32) : Prop := match res with
  | .inl e => ok = nI 0 ∧ μ' r 7 = nI e
  | .inr (q, v) => ok = nI 1 ∧ PS μ' r n T q cs ∧ μ' r 9 = nI v
def wnG (n : Nat) (T : Nat → Int32) (k m i p : Nat) : Nat ⊕ (Nat × Nat) := match wordL n T k m i p with
  | .inl e => .inl e
  | .inr q => numS n T q
def RC (μ' : fm_M) (r n : Nat) (T : Nat → Int32) (cs : List Nat) (res : Nat ⊕ (Nat × List Nat × Nat × Nat)) (ok : Int32) : Prop := match res with
  | .inl e => ok = nI 0 ∧ μ' r 7 = nI e
  | .inr (q, l, sk, wt) => ok = nI 1 ∧ PS μ' r n T q (cs ++ l) ∧ μ' r 0 = nI sk ∧ μ' r 1 = nI wt
def pf2 (r : Nat) (μ μ' : fm_M) : Prop := (∀ q, q ≠ r → q ≠ r + 1 → μ' q = μ q) ∧ ∀ k, k ≠ 0 → k ≠ 1 → k ≠ 3 → k ≠ 7 → k ≠ 8 → k ≠ 9 → μ' r k = μ r k
theorem pf2_of {r : Nat} {μ μ' : fm_M} (h : pf r μ μ') : pf2 r μ μ' := ⟨h.1, fun k _ _ a b c e => h.2 k a b c e⟩
theorem pf2_trans {r : Nat} {μ1 μ2 μ3 : fm_M} (h : pf2 r μ1 μ2) (h' : pf2 r μ2 μ3) : pf2 r μ1 μ3 := ⟨fun q a b => (h'.1 q a b).trans (h.1 q a b), fun k a b c e f g => (h'.2 k a b c e f g).trans (h.2 k a b c e f g)⟩
theorem PS_u {μ : fm_M} {r n p k : Nat} {T : Nat → Int32} {cs : List Nat} {v : Int32} (h : PS μ r n T p cs) (h3 : k ≠ 3) (h6 : k ≠ 6) (h7 : k ≠ 7) (h8 : k ≠ 8) : PS (fm_u μ r k v) r n T p cs := by
  obtain ⟨y1, y2, y3, y4, y5, y6, y7, y8⟩ := h
  exact ⟨by rw [fm_uk h6.symm]; exact y1, fun i hi => by rw [fm_un (by omega)]; exact y2 i hi, by rw [fm_uk h7.symm]; exact y3, by rw [fm_uk h8.symm]; exact y4, by rw [fm_uk h3.symm]; exact y5, fun i hi => by rw [fm_un (by omega)]; exact y6 i hi, y7, y8⟩
section CW
variable {X : ix_X} {d e : Nat} {τ : List fm_D} {r n : Nat} {T : Nat → Int32} {cs : List Nat}
theorem RW_01 {μ' : fm_M} {res : Nat ⊕ (Nat × Nat)} {ok : Int32} (h : RW μ' r n T cs res ok) : ok = nI 0 ∨ ok = nI 1 := by
  cases res with
  | inl e => exact Or.inl h.1
  | inr y => exact Or.inr h.1
theorem c_wordL {k : Nat} (hk : k < 6) (hr : pkO r) (hn : n ≤ 100) (hT : ∀ i, i < n → ∃ b, b < 128 ∧ T i = nI b) : ∀ (m i p : Nat) (μ : fm_M), i + m = tl k → PS μ r n T p cs → ∃ (ok : Int32) (μ' : fm_M), ix_sem X (d + 4) 13 2 [some (.ref r), some (.retAddr (2 + 2 * k)), some (.int (nI i))] [] (fm_W μ τ) = some (some (.int ok), fm_W μ' τ) ∧ RW μ' r n T cs (wnG n T k m i p) ok ∧ pf r μ μ'
  | 0, i, p, μ, hi, h => by
    obtain ⟨t1, t2⟩ := tl_5 hk
    have hi' : i = tl k := hi
    subst hi'
    have k1 := tx_length (X := X) (d := d + 2) (H := fm_W μ τ) hk
    obtain ⟨ok, μ1, a1, c1, r1⟩ := c_number (X := X) (d := d + 2) (τ := τ) hr hn hT h
    have r1' : RW μ1 r n T cs (numS n T p) ok := r1
    have ho := RW_01 r1'
    refine ⟨ok, μ1, ?_, r1', c1⟩
    rcases ho with rfl | rfl <;> simp (disch := first | assumption | omega | decide) only [i13_0, i13_1, i13_2, i13_3, i13_4, i13_7, i13_10, i13_11, i13_12, i13_13, i13_16, i13_19, i13_22, i13_23, i13_24, i13_27, i13_30, i13_31, i13_34, ix_pv_s, ix_pi_s, zpn, ix_po_s, ix_po_n, ix_ph_s, ix_bk_v, ix_bk_n, zcv, zcv_ne, ↓reduceIte, Nat.reduceEqDiff, zn_m1, zd_lt_p, zd_lt_n, zd_le_p, zd_le_n, zd_eq_p, zd_eq_n, zd_0_p, zd_0_n, zd_0lt_p, zd_0lt_n, zd_le0_p, zd_le0_n, zn_lt0, zn_le0, zn_add, zn_mul, zn_sub, zm_lt, zm_le, zm_eq, zb_1, zb_0, not_true_eq_false, not_false_eq_true, pk_c, pk_g0, pk_s0, pk_g1, pk_s1, pk_g2, pk_g3, pk_s3, pk_g4, pk_g5, pk_g6, pk_s6, pk_g7, pk_s7, pk_g8, pk_s8, pk_g9, pk_s9, k1, a1]
  | m + 1, i, p, μ, hi, h => by
    obtain ⟨t1, t2⟩ := tl_5 hk
    have k1 := tx_length (X := X) (d := d + 2) (H := fm_W μ τ) hk
    have k2 := tx_char (X := X) (d := d) (H := fm_W μ τ) hk (show i < tl k by omega)
    obtain ⟨b1, b2⟩ := tx_by hk (show i < tl k by omega)
    obtain ⟨ok, μ1, a1, c1, _, r1⟩ := c_sign (X := X) (d := d + 2) (τ := τ) (c := ch k i) hr hn b2 h
    rcases r1 with ⟨q, rfl, p1⟩ | ⟨q, rfl, rfl⟩
    · obtain ⟨ok, μ2, a2, r2, c2⟩ := c_wordL hk hr hn hT m (i + 1) (p + 1) μ1 (by omega) p1
      refine ⟨ok, μ2, ?_, ?_, pf_trans c1 c2⟩
      · rw [← a2, i13_2]
        simp (disch := first | assumption | omega | decide) only [i13_0, i13_1, i13_3, i13_4, i13_7, i13_10, i13_11, i13_12, i13_13, i13_16, i13_19, i13_22, i13_23, i13_24, i13_27, i13_30, i13_31, i13_34, ix_pv_s, ix_pi_s, zpn, ix_po_s, ix_po_n, ix_ph_s, ix_bk_v, ix_bk_n, zcv, zcv_ne, ↓reduceIte, Nat.reduceEqDiff, zn_m1, zd_lt_p, zd_lt_n, zd_le_p, zd_le_n, zd_eq_p, zd_eq_n, zd_0_p, zd_0_n, zd_0lt_p, zd_0lt_n, zd_le0_p, zd_le0_n, zn_lt0, zn_le0, zn_add, zn_mul, zn_sub, zm_lt, zm_le, zm_eq, zb_1, zb_0, not_true_eq_false, not_false_eq_true, pk_c, pk_g0, pk_s0, pk_g1, pk_s1, pk_g2, pk_g3, pk_s3, pk_g4, pk_g5, pk_g6, pk_s6, pk_g7, pk_s7, pk_g8, pk_s8, pk_g9, pk_s9, k1, k2, a1]
      · rw [wnG, wordL, if_pos q]
        exact r2
    · refine ⟨nI 0, μ1, ?_, ?_, c1⟩
      · simp (disch := first | assumption | omega | decide) only [i13_0, i13_1, i13_2, i13_3, i13_4, i13_7, i13_10, i13_11, i13_12, i13_13, i13_16, i13_19, i13_22, i13_23, i13_24, i13_27, i13_30, i13_31, i13_34, ix_pv_s, ix_pi_s, zpn, ix_po_s, ix_po_n, ix_ph_s, ix_bk_v, ix_bk_n, zcv, zcv_ne, ↓reduceIte, Nat.reduceEqDiff, zn_m1, zd_lt_p, zd_lt_n, zd_le_p, zd_le_n, zd_eq_p, zd_eq_n, zd_0_p, zd_0_n, zd_0lt_p, zd_0lt_n, zd_le0_p, zd_le0_n, zn_lt0, zn_le0, zn_add, zn_mul, zn_sub, zm_lt, zm_le, zm_eq, zb_1, zb_0, not_true_eq_false, not_false_eq_true, pk_c, pk_g0, pk_s0, pk_g1, pk_s1, pk_g2, pk_g3, pk_s3, pk_g4, pk_g5, pk_g6, pk_s6, pk_g7, pk_s7, pk_g8, pk_s8, pk_g9, pk_s9, k1, k2, a1]
      · rw [wnG, wordL, if_neg q]
        exact ⟨rfl, h.2.2.1⟩
theorem c_word {k p : Nat} {μ : fm_M} (hk : k < 6) (h5 : tl k = 5) (hr : pkO r) (hn : n ≤ 100) (hT : ∀ i, i < n → ∃ b, b < 128 ∧ T i = nI b) (h : PS μ r n T p cs) : ∃ (ok : Int32) (μ' : fm_M), ix_call X (d + 4) 13 [.ref r, .retAddr (2 + 2 * k)] (fm_W μ τ) = some (some (.int ok), fm_W μ' τ) ∧ RW μ' r n T cs (wnS n T k p) ok ∧ pf r μ μ' := by
  obtain ⟨ok, μ1, a1, r1, c1⟩ := c_wordL (X := X) (d := d) (τ := τ) hk hr hn hT 5 0 p μ (by omega) h
  refine ⟨ok, μ1, Eq.trans ?_ a1, r1, c1⟩
  simp (disch := first | assumption | omega | decide) only [e13, i13_0, i13_1, i13_3, i13_4, i13_7, i13_10, i13_11, i13_12, i13_13, i13_16, i13_19, i13_22, i13_23, i13_24, i13_27, i13_30, i13_31, i13_34, ix_pv_s, ix_pi_s, zpn, ix_po_s, ix_po_n, ix_ph_s, ix_bk_v, ix_bk_n, zcv, zcv_ne, ↓reduceIte, Nat.reduceEqDiff, zn_m1, zd_lt_p, zd_lt_n, zd_le_p, zd_le_n, zd_eq_p, zd_eq_n, zd_0_p, zd_0_n, zd_0lt_p, zd_0lt_n, zd_le0_p, zd_le0_n, zn_lt0, zn_le0, zn_add, zn_mul, zn_sub, zm_lt, zm_le, zm_eq, zb_1, zb_0, not_true_eq_false, not_false_eq_true, pk_c, pk_g0, pk_s0, pk_g1, pk_s1, pk_g2, pk_g3, pk_s3, pk_g4, pk_g5, pk_g6, pk_s6, pk_g7, pk_s7, pk_g8, pk_s8, pk_g9, pk_s9]
theorem c_rain {a v q : Nat} {μ : fm_M} {x2 : Option Value} (ha : a < 100) (hv : v < 1000) (hr : pkO r) (hn : n ≤ 100) (hT : ∀ i, i < n → ∃ b, b < 128 ∧ T i = nI b) (h : PS μ r n T q cs) (h9 : μ r 9 = nI v) : ∃ (ok : Int32) (μ' : fm_M), ix_sem X (e + 22) 12 126 [some (.ref r), some (.int (nI a)), x2] [] (fm_W μ τ) = some (some (.int ok), fm_W μ' τ) ∧ RS μ' r n T cs (if sg n T q = nI 32 then pb (choS n T (parS n T 5) (q + 1)) (em (a * 100 + v)) else .inl q) ok ∧ pf r μ μ' := by
  obtain ⟨ok, μ1, a1, c1, _, r1⟩ := c_sign (X := X) (d := e + 20) (τ := τ) (c := 32) hr hn (by decide) h
  rcases r1 with ⟨q32, rfl, p1⟩ | ⟨q32, rfl, rfl⟩
  · obtain ⟨ok, μ2, a2, r2, c2⟩ := c_choice (e := e + 3 * 5 + 5) hr hn (par_adv 5) (c_part (X := X) (τ := τ) hr hn hT 5 0 e rfl) μ1 (q + 1) cs p1
    have a2' : ix_call X (e + 21) 17 [.ref r, .int (nI 0)] (fm_W μ1 τ) = _ := a2
    rw [if_pos q32]
    cases hc : choS n T (parS n T 5) (q + 1) with
    | inl z =>
      rw [hc] at r2
      obtain ⟨rfl, r2⟩ := r2
      refine ⟨nI 0, μ2, ?_, ⟨rfl, r2⟩, pf_trans c1 c2⟩
      simp (disch := first | assumption | omega | decide) only [i12_0, i12_1, i12_4, i12_48, i12_49, i12_51, i12_54, i12_57, i12_58, i12_59, i12_60, i12_61, i12_64, i12_67, i12_68, i12_69, i12_70, i12_72, i12_75, i12_78, i12_79, i12_80, i12_81, i12_82, i12_85, i12_88, i12_89, i12_90, i12_91, i12_93, i12_96, i12_99, i12_100, i12_101, i12_103, i12_104, i12_107, i12_108, i12_110, i12_113, i12_116, i12_117, i12_118, i12_120, i12_121, i12_124, i12_125, i12_126, i12_127, i12_130, i12_131, i12_132, i12_134, i12_137, i12_140, i12_141, i12_142, i12_145, i12_148, i12_149, i12_150, i12_151, i12_152, i12_153, i12_156, i12_157, ix_pv_s, ix_pi_s, zpn, ix_po_s, ix_po_n, ix_ph_s, ix_bk_v, ix_bk_n, zcv, zcv_ne, ↓reduceIte, Nat.reduceEqDiff, zn_m1, zd_lt_p, zd_lt_n, zd_le_p, zd_le_n, zd_eq_p, zd_eq_n, zd_0_p, zd_0_n, zd_0lt_p, zd_0lt_n, zd_le0_p, zd_le0_n, zn_lt0, zn_le0, zn_add, zn_mul, zn_sub, zm_lt, zm_le, zm_eq, zb_1, zb_0, not_true_eq_false, not_false_eq_true, pk_c, pk_g0, pk_s0, pk_g1, pk_s1, pk_g2, pk_g3, pk_s3, pk_g4, pk_g5, pk_g6, pk_s6, pk_g7, pk_s7, pk_g8, pk_s8, pk_g9, pk_s9, h9, a1, a2']
    | inr y =>
      obtain ⟨q', l⟩ := y
      rw [hc] at r2
      obtain ⟨rfl, p2⟩ := r2
      obtain ⟨b1, b2, b3⟩ := cho_adv (par_adv 5) _ _ _ hc
      have hl8 := h.2.2.2.2.2.2.2
      obtain ⟨μ3, a3, p3, c3⟩ := c_emit (X := X) (d := e + 21) (τ := τ) (a := a) (v := v) hr hn p2 (by rw [List.length_append]; omega) ha hv
      refine ⟨nI 1, μ3, ?_, ?_, pf_trans c1 (pf_trans c2 c3)⟩
      · simp (disch := first | assumption | omega | decide) only [i12_0, i12_1, i12_4, i12_48, i12_49, i12_51, i12_54, i12_57, i12_58, i12_59, i12_60, i12_61, i12_64, i12_67, i12_68, i12_69, i12_70, i12_72, i12_75, i12_78, i12_79, i12_80, i12_81, i12_82, i12_85, i12_88, i12_89, i12_90, i12_91, i12_93, i12_96, i12_99, i12_100, i12_101, i12_103, i12_104, i12_107, i12_108, i12_110, i12_113, i12_116, i12_117, i12_118, i12_120, i12_121, i12_124, i12_125, i12_126, i12_127, i12_130, i12_131, i12_132, i12_134, i12_137, i12_140, i12_141, i12_142, i12_145, i12_148, i12_149, i12_150, i12_151, i12_152, i12_153, i12_156, i12_157, ix_pv_s, ix_pi_s, zpn, ix_po_s, ix_po_n, ix_ph_s, ix_bk_v, ix_bk_n, zcv, zcv_ne, ↓reduceIte, Nat.reduceEqDiff, zn_m1, zd_lt_p, zd_lt_n, zd_le_p, zd_le_n, zd_eq_p, zd_eq_n, zd_0_p, zd_0_n, zd_0lt_p, zd_0lt_n, zd_le0_p, zd_le0_n, zn_lt0, zn_le0, zn_add, zn_mul, zn_sub, zm_lt, zm_le, zm_eq, zb_1, zb_0, not_true_eq_false, not_false_eq_true, pk_c, pk_g0, pk_s0, pk_g1, pk_s1, pk_g2, pk_g3, pk_s3, pk_g4, pk_g5, pk_g6, pk_s6, pk_g7, pk_s7, pk_g8, pk_s8, pk_g9, pk_s9, h9, a1, a2', a3]
      · refine RS_pb ?_
        exact ⟨rfl, p3⟩
  · rw [if_neg q32]
    refine ⟨nI 0, μ1, ?_, ⟨rfl, h.2.2.1⟩, c1⟩
    simp (disch := first | assumption | omega | decide) only [i12_0, i12_1, i12_4, i12_48, i12_49, i12_51, i12_54, i12_57, i12_58, i12_59, i12_60, i12_61, i12_64, i12_67, i12_68, i12_69, i12_70, i12_72, i12_75, i12_78, i12_79, i12_80, i12_81, i12_82, i12_85, i12_88, i12_89, i12_90, i12_91, i12_93, i12_96, i12_99, i12_100, i12_101, i12_103, i12_104, i12_107, i12_108, i12_110, i12_113, i12_116, i12_117, i12_118, i12_120, i12_121, i12_124, i12_125, i12_126, i12_127, i12_130, i12_131, i12_132, i12_134, i12_137, i12_140, i12_141, i12_142, i12_145, i12_148, i12_149, i12_150, i12_151, i12_152, i12_153, i12_156, i12_157, ix_pv_s, ix_pi_s, zpn, ix_po_s, ix_po_n, ix_ph_s, ix_bk_v, ix_bk_n, zcv, zcv_ne, ↓reduceIte, Nat.reduceEqDiff, zn_m1, zd_lt_p, zd_lt_n, zd_le_p, zd_le_n, zd_eq_p, zd_eq_n, zd_0_p, zd_0_n, zd_0lt_p, zd_0lt_n, zd_le0_p, zd_le0_n, zn_lt0, zn_le0, zn_add, zn_mul, zn_sub, zm_lt, zm_le, zm_eq, zb_1, zb_0, not_true_eq_false, not_false_eq_true, pk_c, pk_g0, pk_s0, pk_g1, pk_s1, pk_g2, pk_g3, pk_s3, pk_g4, pk_g5, pk_g6, pk_s6, pk_g7, pk_s7, pk_g8, pk_s8, pk_g9, pk_s9, h9, a1]
theorem RC_of {μ' : fm_M} {res : pT} {ok : Int32} {sk wt : Nat} (h : RS μ' r n T cs res ok) (h0 : μ' r 0 = nI sk) (h1 : μ' r 1 = nI wt) : RC μ' r n T cs (match (motive := pT → Nat ⊕ (Nat × List Nat × Nat × Nat)) res with
    | .inl e => .inl e
    | .inr (q, l) => .inr (q, l, sk, wt)) ok := by
  cases res with
  | inl z => exact h
  | inr y => exact ⟨h.1, h.2, h0, h1⟩
theorem c_clause {p sk wt : Nat} {μ : fm_M} (hr : pkO r) (hn : n ≤ 100) (hT : ∀ i, i < n → ∃ b, b < 128 ∧ T i = nI b) (h : PS μ r n T p cs) (hs : μ r 0 = nI sk) (hw : μ r 1 = nI wt) : ∃ (ok : Int32) (μ' : fm_M), ix_call X (e + 22) 12 [.ref r] (fm_W μ τ) = some (some (.int ok), fm_W μ' τ) ∧ RC μ' r n T cs (clauS n T p sk wt) ok ∧ pf2 r μ μ' := by
  have h4 := h.2.2.2.1
  have hr6 := pk_cases hr
  by_cases q115 : sg n T p = nI 115
  · rw [q115] at h4
    obtain ⟨ok, μ1, a1, r1, c1⟩ := c_word (X := X) (d := e + 17) (τ := τ) (k := 0) (by decide) (by decide) hr hn hT h
    have a1' : ix_call X (e + 21) 13 [.ref r, .retAddr 2] (fm_W μ τ) = _ := a1
    rw [clauS, if_pos q115]
    cases hv : wnS n T 0 p with
    | inl z =>
      rw [hv] at r1
      obtain ⟨rfl, r1⟩ := r1
      refine ⟨nI 0, μ1, ?_, ⟨rfl, r1⟩, pf2_of c1⟩
      simp (disch := first | assumption | omega | decide) only [e12, i12_0, i12_1, i12_4, i12_48, i12_49, i12_51, i12_54, i12_57, i12_58, i12_59, i12_60, i12_61, i12_64, i12_67, i12_68, i12_69, i12_70, i12_72, i12_75, i12_78, i12_79, i12_80, i12_81, i12_82, i12_85, i12_88, i12_89, i12_90, i12_91, i12_93, i12_96, i12_99, i12_100, i12_101, i12_103, i12_104, i12_107, i12_108, i12_110, i12_113, i12_116, i12_117, i12_118, i12_120, i12_121, i12_124, i12_125, i12_126, i12_127, i12_130, i12_131, i12_132, i12_134, i12_137, i12_140, i12_141, i12_142, i12_145, i12_148, i12_149, i12_150, i12_151, i12_152, i12_153, i12_156, i12_157, ix_pv_s, ix_pi_s, zpn, ix_po_s, ix_po_n, ix_ph_s, ix_bk_v, ix_bk_n, zcv, zcv_ne, ↓reduceIte, Nat.reduceEqDiff, zn_m1, zd_lt_p, zd_lt_n, zd_le_p, zd_le_n, zd_eq_p, zd_eq_n, zd_0_p, zd_0_n, zd_0lt_p, zd_0lt_n, zd_le0_p, zd_le0_n, zn_lt0, zn_le0, zn_add, zn_mul, zn_sub, zm_lt, zm_le, zm_eq, zb_1, zb_0, not_true_eq_false, not_false_eq_true, pk_c, pk_g0, pk_s0, pk_g1, pk_s1, pk_g2, pk_g3, pk_s3, pk_g4, pk_g5, pk_g6, pk_s6, pk_g7, pk_s7, pk_g8, pk_s8, pk_g9, pk_s9, h4, a1']
    | inr y =>
      obtain ⟨q, v⟩ := y
      rw [hv] at r1
      obtain ⟨rfl, p1, r9⟩ := r1
      refine ⟨nI 1, fm_u μ1 r 0 (nI v), ?_, ⟨rfl, ?_, fm_us, ?_⟩, pf2_trans (pf2_of c1) ⟨fun q a b => fm_un a, fun k a b c e f g => fm_uk a⟩⟩
      · simp (disch := first | assumption | omega | decide) only [e12, i12_0, i12_1, i12_4, i12_48, i12_49, i12_51, i12_54, i12_57, i12_58, i12_59, i12_60, i12_61, i12_64, i12_67, i12_68, i12_69, i12_70, i12_72, i12_75, i12_78, i12_79, i12_80, i12_81, i12_82, i12_85, i12_88, i12_89, i12_90, i12_91, i12_93, i12_96, i12_99, i12_100, i12_101, i12_103, i12_104, i12_107, i12_108, i12_110, i12_113, i12_116, i12_117, i12_118, i12_120, i12_121, i12_124, i12_125, i12_126, i12_127, i12_130, i12_131, i12_132, i12_134, i12_137, i12_140, i12_141, i12_142, i12_145, i12_148, i12_149, i12_150, i12_151, i12_152, i12_153, i12_156, i12_157, ix_pv_s, ix_pi_s, zpn, ix_po_s, ix_po_n, ix_ph_s, ix_bk_v, ix_bk_n, zcv, zcv_ne, ↓reduceIte, Nat.reduceEqDiff, zn_m1, zd_lt_p, zd_lt_n, zd_le_p, zd_le_n, zd_eq_p, zd_eq_n, zd_0_p, zd_0_n, zd_0lt_p, zd_0lt_n, zd_le0_p, zd_le0_n, zn_lt0, zn_le0, zn_add, zn_mul, zn_sub, zm_lt, zm_le, zm_eq, zb_1, zb_0, not_true_eq_false, not_false_eq_true, pk_c, pk_g0, pk_s0, pk_g1, pk_s1, pk_g2, pk_g3, pk_s3, pk_g4, pk_g5, pk_g6, pk_s6, pk_g7, pk_s7, pk_g8, pk_s8, pk_g9, pk_s9, h4, a1', r9]
      · rw [List.append_nil]
        exact PS_u p1 (by decide) (by decide) (by decide) (by decide)
      · rw [fm_uk (by decide), c1.2 1 (by decide) (by decide) (by decide) (by decide)]
        exact hw
  · by_cases q119 : sg n T p = nI 119
    · rw [q119] at h4
      obtain ⟨ok, μ1, a1, r1, c1⟩ := c_word (X := X) (d := e + 17) (τ := τ) (k := 1) (by decide) (by decide) hr hn hT h
      have a1' : ix_call X (e + 21) 13 [.ref r, .retAddr 4] (fm_W μ τ) = _ := a1
      rw [clauS, if_neg q115, if_pos q119]
      cases hv : wnS n T 1 p with
      | inl z =>
        rw [hv] at r1
        obtain ⟨rfl, r1⟩ := r1
        refine ⟨nI 0, μ1, ?_, ⟨rfl, r1⟩, pf2_of c1⟩
        simp (disch := first | assumption | omega | decide) only [e12, i12_0, i12_1, i12_4, i12_48, i12_49, i12_51, i12_54, i12_57, i12_58, i12_59, i12_60, i12_61, i12_64, i12_67, i12_68, i12_69, i12_70, i12_72, i12_75, i12_78, i12_79, i12_80, i12_81, i12_82, i12_85, i12_88, i12_89, i12_90, i12_91, i12_93, i12_96, i12_99, i12_100, i12_101, i12_103, i12_104, i12_107, i12_108, i12_110, i12_113, i12_116, i12_117, i12_118, i12_120, i12_121, i12_124, i12_125, i12_126, i12_127, i12_130, i12_131, i12_132, i12_134, i12_137, i12_140, i12_141, i12_142, i12_145, i12_148, i12_149, i12_150, i12_151, i12_152, i12_153, i12_156, i12_157, ix_pv_s, ix_pi_s, zpn, ix_po_s, ix_po_n, ix_ph_s, ix_bk_v, ix_bk_n, zcv, zcv_ne, ↓reduceIte, Nat.reduceEqDiff, zn_m1, zd_lt_p, zd_lt_n, zd_le_p, zd_le_n, zd_eq_p, zd_eq_n, zd_0_p, zd_0_n, zd_0lt_p, zd_0lt_n, zd_le0_p, zd_le0_n, zn_lt0, zn_le0, zn_add, zn_mul, zn_sub, zm_lt, zm_le, zm_eq, zb_1, zb_0, not_true_eq_false, not_false_eq_true, pk_c, pk_g0, pk_s0, pk_g1, pk_s1, pk_g2, pk_g3, pk_s3, pk_g4, pk_g5, pk_g6, pk_s6, pk_g7, pk_s7, pk_g8, pk_s8, pk_g9, pk_s9, h4, a1']
      | inr y =>
        obtain ⟨q, v⟩ := y
        rw [hv] at r1
        obtain ⟨rfl, p1, r9⟩ := r1
        refine ⟨nI 1, fm_u μ1 r 1 (nI v), ?_, ⟨rfl, ?_, ?_, fm_us⟩, pf2_trans (pf2_of c1) ⟨fun q a b => fm_un a, fun k a b c e f g => fm_uk b⟩⟩
        · simp (disch := first | assumption | omega | decide) only [e12, i12_0, i12_1, i12_4, i12_48, i12_49, i12_51, i12_54, i12_57, i12_58, i12_59, i12_60, i12_61, i12_64, i12_67, i12_68, i12_69, i12_70, i12_72, i12_75, i12_78, i12_79, i12_80, i12_81, i12_82, i12_85, i12_88, i12_89, i12_90, i12_91, i12_93, i12_96, i12_99, i12_100, i12_101, i12_103, i12_104, i12_107, i12_108, i12_110, i12_113, i12_116, i12_117, i12_118, i12_120, i12_121, i12_124, i12_125, i12_126, i12_127, i12_130, i12_131, i12_132, i12_134, i12_137, i12_140, i12_141, i12_142, i12_145, i12_148, i12_149, i12_150, i12_151, i12_152, i12_153, i12_156, i12_157, ix_pv_s, ix_pi_s, zpn, ix_po_s, ix_po_n, ix_ph_s, ix_bk_v, ix_bk_n, zcv, zcv_ne, ↓reduceIte, Nat.reduceEqDiff, zn_m1, zd_lt_p, zd_lt_n, zd_le_p, zd_le_n, zd_eq_p, zd_eq_n, zd_0_p, zd_0_n, zd_0lt_p, zd_0lt_n, zd_le0_p, zd_le0_n, zn_lt0, zn_le0, zn_add, zn_mul, zn_sub, zm_lt, zm_le, zm_eq, zb_1, zb_0, not_true_eq_false, not_false_eq_true, pk_c, pk_g0, pk_s0, pk_g1, pk_s1, pk_g2, pk_g3, pk_s3, pk_g4, pk_g5, pk_g6, pk_s6, pk_g7, pk_s7, pk_g8, pk_s8, pk_g9, pk_s9, h4, a1', r9]
        · rw [List.append_nil]
          exact PS_u p1 (by decide) (by decide) (by decide) (by decide)
        · rw [fm_uk (by decide), c1.2 0 (by decide) (by decide) (by decide) (by decide)]
          exact hs
    · by_cases q114 : sg n T p = nI 114
      · rw [q114] at h4
        obtain ⟨ok, μ1, a1, r1, c1⟩ := c_word (X := X) (d := e + 17) (τ := τ) (k := 2) (by decide) (by decide) hr hn hT h
        have a1' : ix_call X (e + 21) 13 [.ref r, .retAddr 6] (fm_W μ τ) = _ := a1
        rw [clauS, if_neg q115, if_neg q119, if_pos q114, rainS]
        cases hv : wnS n T 2 p with
        | inl z =>
          rw [hv] at r1
          obtain ⟨rfl, r1⟩ := r1
          refine ⟨nI 0, μ1, ?_, ⟨rfl, r1⟩, pf2_of c1⟩
          simp (disch := first | assumption | omega | decide) only [e12, i12_0, i12_1, i12_4, i12_48, i12_49, i12_51, i12_54, i12_57, i12_58, i12_59, i12_60, i12_61, i12_64, i12_67, i12_68, i12_69, i12_70, i12_72, i12_75, i12_78, i12_79, i12_80, i12_81, i12_82, i12_85, i12_88, i12_89, i12_90, i12_91, i12_93, i12_96, i12_99, i12_100, i12_101, i12_103, i12_104, i12_107, i12_108, i12_110, i12_113, i12_116, i12_117, i12_118, i12_120, i12_121, i12_124, i12_125, i12_126, i12_127, i12_130, i12_131, i12_132, i12_134, i12_137, i12_140, i12_141, i12_142, i12_145, i12_148, i12_149, i12_150, i12_151, i12_152, i12_153, i12_156, i12_157, ix_pv_s, ix_pi_s, zpn, ix_po_s, ix_po_n, ix_ph_s, ix_bk_v, ix_bk_n, zcv, zcv_ne, ↓reduceIte, Nat.reduceEqDiff, zn_m1, zd_lt_p, zd_lt_n, zd_le_p, zd_le_n, zd_eq_p, zd_eq_n, zd_0_p, zd_0_n, zd_0lt_p, zd_0lt_n, zd_le0_p, zd_le0_n, zn_lt0, zn_le0, zn_add, zn_mul, zn_sub, zm_lt, zm_le, zm_eq, zb_1, zb_0, not_true_eq_false, not_false_eq_true, pk_c, pk_g0, pk_s0, pk_g1, pk_s1, pk_g2, pk_g3, pk_s3, pk_g4, pk_g5, pk_g6, pk_s6, pk_g7, pk_s7, pk_g8, pk_s8, pk_g9, pk_s9, h4, a1']
        | inr y =>
          obtain ⟨q, v⟩ := y
          rw [hv] at r1
          obtain ⟨rfl, p1, r9⟩ := r1
          have hvv := wn_ok (by decide) hv
          obtain ⟨ok, μ2, a2, r2, c2⟩ := c_rain (X := X) (e := e) (τ := τ) (a := 18) (x2 := none) (by decide) (by omega) hr hn hT p1 r9
          have c12 := pf_trans c1 c2
          refine ⟨ok, μ2, Eq.trans ?_ a2, RC_of r2 ((c12.2 0 (by decide) (by decide) (by decide) (by decide)).trans hs) ((c12.2 1 (by decide) (by decide) (by decide) (by decide)).trans hw), pf2_of c12⟩
          simp (disch := first | assumption | omega | decide) only [e12, i12_0, i12_1, i12_4, i12_48, i12_49, i12_51, i12_54, i12_57, i12_58, i12_59, i12_60, i12_61, i12_64, i12_67, i12_68, i12_69, i12_70, i12_72, i12_75, i12_78, i12_79, i12_80, i12_81, i12_82, i12_85, i12_88, i12_89, i12_90, i12_91, i12_93, i12_96, i12_99, i12_100, i12_101, i12_103, i12_104, i12_107, i12_108, i12_110, i12_113, i12_116, i12_117, i12_118, i12_120, i12_121, i12_124, i12_125, i12_127, i12_130, i12_131, i12_132, i12_134, i12_137, i12_140, i12_141, i12_142, i12_145, i12_148, i12_149, i12_150, i12_151, i12_152, i12_153, i12_156, i12_157, ix_pv_s, ix_pi_s, zpn, ix_po_s, ix_po_n, ix_ph_s, ix_bk_v, ix_bk_n, zcv, zcv_ne, ↓reduceIte, Nat.reduceEqDiff, zn_m1, zd_lt_p, zd_lt_n, zd_le_p, zd_le_n, zd_eq_p, zd_eq_n, zd_0_p, zd_0_n, zd_0lt_p, zd_0lt_n, zd_le0_p, zd_le0_n, zn_lt0, zn_le0, zn_add, zn_mul, zn_sub, zm_lt, zm_le, zm_eq, zb_1, zb_0, not_true_eq_false, not_false_eq_true, pk_c, pk_g0, pk_s0, pk_g1, pk_s1, pk_g2, pk_g3, pk_s3, pk_g4, pk_g5, pk_g6, pk_s6, pk_g7, pk_s7, pk_g8, pk_s8, pk_g9, pk_s9, h4, a1']
      · by_cases q108 : sg n T p = nI 108
        · rw [q108] at h4
          obtain ⟨ok, μ1, a1, r1, c1⟩ := c_word (X := X) (d := e + 17) (τ := τ) (k := 3) (by decide) (by decide) hr hn hT h
          have a1' : ix_call X (e + 21) 13 [.ref r, .retAddr 8] (fm_W μ τ) = _ := a1
          rw [clauS, if_neg q115, if_neg q119, if_neg q114, if_pos q108, rainS]
          cases hv : wnS n T 3 p with
          | inl z =>
            rw [hv] at r1
            obtain ⟨rfl, r1⟩ := r1
            refine ⟨nI 0, μ1, ?_, ⟨rfl, r1⟩, pf2_of c1⟩
            simp (disch := first | assumption | omega | decide) only [e12, i12_0, i12_1, i12_4, i12_48, i12_49, i12_51, i12_54, i12_57, i12_58, i12_59, i12_60, i12_61, i12_64, i12_67, i12_68, i12_69, i12_70, i12_72, i12_75, i12_78, i12_79, i12_80, i12_81, i12_82, i12_85, i12_88, i12_89, i12_90, i12_91, i12_93, i12_96, i12_99, i12_100, i12_101, i12_103, i12_104, i12_107, i12_108, i12_110, i12_113, i12_116, i12_117, i12_118, i12_120, i12_121, i12_124, i12_125, i12_126, i12_127, i12_130, i12_131, i12_132, i12_134, i12_137, i12_140, i12_141, i12_142, i12_145, i12_148, i12_149, i12_150, i12_151, i12_152, i12_153, i12_156, i12_157, ix_pv_s, ix_pi_s, zpn, ix_po_s, ix_po_n, ix_ph_s, ix_bk_v, ix_bk_n, zcv, zcv_ne, ↓reduceIte, Nat.reduceEqDiff, zn_m1, zd_lt_p, zd_lt_n, zd_le_p, zd_le_n, zd_eq_p, zd_eq_n, zd_0_p, zd_0_n, zd_0lt_p, zd_0lt_n, zd_le0_p, zd_le0_n, zn_lt0, zn_le0, zn_add, zn_mul, zn_sub, zm_lt, zm_le, zm_eq, zb_1, zb_0, not_true_eq_false, not_false_eq_true, pk_c, pk_g0, pk_s0, pk_g1, pk_s1, pk_g2, pk_g3, pk_s3, pk_g4, pk_g5, pk_g6, pk_s6, pk_g7, pk_s7, pk_g8, pk_s8, pk_g9, pk_s9, h4, a1']
          | inr y =>
            obtain ⟨q, v⟩ := y
            rw [hv] at r1
            obtain ⟨rfl, p1, r9⟩ := r1
            have hvv := wn_ok (by decide) hv
            obtain ⟨ok, μ2, a2, r2, c2⟩ := c_rain (X := X) (e := e) (τ := τ) (a := 19) (x2 := none) (by decide) (by omega) hr hn hT p1 r9
            have c12 := pf_trans c1 c2
            refine ⟨ok, μ2, Eq.trans ?_ a2, RC_of r2 ((c12.2 0 (by decide) (by decide) (by decide) (by decide)).trans hs) ((c12.2 1 (by decide) (by decide) (by decide) (by decide)).trans hw), pf2_of c12⟩
            simp (disch := first | assumption | omega | decide) only [e12, i12_0, i12_1, i12_4, i12_48, i12_49, i12_51, i12_54, i12_57, i12_58, i12_59, i12_60, i12_61, i12_64, i12_67, i12_68, i12_69, i12_70, i12_72, i12_75, i12_78, i12_79, i12_80, i12_81, i12_82, i12_85, i12_88, i12_89, i12_90, i12_91, i12_93, i12_96, i12_99, i12_100, i12_101, i12_103, i12_104, i12_107, i12_108, i12_110, i12_113, i12_116, i12_117, i12_118, i12_120, i12_121, i12_124, i12_125, i12_127, i12_130, i12_131, i12_132, i12_134, i12_137, i12_140, i12_141, i12_142, i12_145, i12_148, i12_149, i12_150, i12_151, i12_152, i12_153, i12_156, i12_157, ix_pv_s, ix_pi_s, zpn, ix_po_s, ix_po_n, ix_ph_s, ix_bk_v, ix_bk_n, zcv, zcv_ne, ↓reduceIte, Nat.reduceEqDiff, zn_m1, zd_lt_p, zd_lt_n, zd_le_p, zd_le_n, zd_eq_p, zd_eq_n, zd_0_p, zd_0_n, zd_0lt_p, zd_0lt_n, zd_le0_p, zd_le0_n, zn_lt0, zn_le0, zn_add, zn_mul, zn_sub, zm_lt, zm_le, zm_eq, zb_1, zb_0, not_true_eq_false, not_false_eq_true, pk_c, pk_g0, pk_s0, pk_g1, pk_s1, pk_g2, pk_g3, pk_s3, pk_g4, pk_g5, pk_g6, pk_s6, pk_g7, pk_s7, pk_g8, pk_s8, pk_g9, pk_s9, h4, a1']
        · rw [clauS, if_neg q115, if_neg q119, if_neg q114, if_neg q108]
          refine ⟨nI 0, μ, ?_, ⟨rfl, h.2.2.1⟩, pf2_of pf_refl⟩
          simp (disch := first | assumption | omega | decide) only [e12, i12_0, i12_1, i12_4, i12_48, i12_49, i12_51, i12_54, i12_57, i12_58, i12_59, i12_60, i12_61, i12_64, i12_67, i12_68, i12_69, i12_70, i12_72, i12_75, i12_78, i12_79, i12_80, i12_81, i12_82, i12_85, i12_88, i12_89, i12_90, i12_91, i12_93, i12_96, i12_99, i12_100, i12_101, i12_103, i12_104, i12_107, i12_108, i12_110, i12_113, i12_116, i12_117, i12_118, i12_120, i12_121, i12_124, i12_125, i12_126, i12_127, i12_130, i12_131, i12_132, i12_134, i12_137, i12_140, i12_141, i12_142, i12_145, i12_148, i12_149, i12_150, i12_151, i12_152, i12_153, i12_156, i12_157, ix_pv_s, ix_pi_s, zpn, ix_po_s, ix_po_n, ix_ph_s, ix_bk_v, ix_bk_n, zcv, zcv_ne, ↓reduceIte, Nat.reduceEqDiff, zn_m1, zd_lt_p, zd_lt_n, zd_le_p, zd_le_n, zd_eq_p, zd_eq_n, zd_0_p, zd_0_n, zd_0lt_p, zd_0lt_n, zd_le0_p, zd_le0_n, zn_lt0, zn_le0, zn_add, zn_mul, zn_sub, zm_lt, zm_le, zm_eq, zb_1, zb_0, not_true_eq_false, not_false_eq_true, pk_c, pk_g0, pk_s0, pk_g1, pk_s1, pk_g2, pk_g3, pk_s3, pk_g4, pk_g5, pk_g6, pk_s6, pk_g7, pk_s7, pk_g8, pk_s8, pk_g9, pk_s9, h4, q115, q119, q114, q108]
end CW
