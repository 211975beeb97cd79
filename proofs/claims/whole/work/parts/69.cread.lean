/-! ===== the program reads a park ===== -/
--need 68.same
/-- the park at r reads at p, its steps so far cs -/
def PS (μ : fm_M) (r n : Nat) (T : Nat → Int32) (p : Nat) (cs : List Nat) : Prop := μ r 6 = nI n ∧ (∀ i, i < n → μ (r + 3) i = T i) ∧ μ r 7 = nI p ∧ μ r 8 = sg n T p ∧ μ r 3 = nI cs.length ∧ (∀ i, i < cs.length → μ (r + 1) i = nI (cs.getD i 0)) ∧ p ≤ n ∧ cs.length ≤ p
def pf (r : Nat) (μ μ' : fm_M) : Prop := (∀ q, q ≠ r → q ≠ r + 1 → μ' q = μ q) ∧ ∀ k, k ≠ 3 → k ≠ 7 → k ≠ 8 → k ≠ 9 → μ' r k = μ r k
theorem pf_refl {r : Nat} {μ : fm_M} : pf r μ μ := ⟨fun _ _ _ => rfl, fun _ _ _ _ _ => rfl⟩
theorem pf_trans {r : Nat} {μ1 μ2 μ3 : fm_M} (h : pf r μ1 μ2) (h' : pf r μ2 μ3) : pf r μ1 μ3 := ⟨fun q a b => (h'.1 q a b).trans (h.1 q a b), fun k a b c e => (h'.2 k a b c e).trans (h.2 k a b c e)⟩
def RS (μ' : fm_M) (r n : Nat) (T : Nat → Int32) (cs : List Nat) (res : pT) (ok : Int32) : Prop := match res with
  | .inl e => ok = nI 0 ∧ μ' r 7 = nI e
  | .inr (q, l) => ok = nI 1 ∧ PS μ' r n T q (cs ++ l)
theorem gd_appN {l : List Nat} {x : Nat} {i : Nat} (h : i < (l ++ [x]).length) : (l ++ [x]).getD i 0 = if i = l.length then x else l.getD i 0 := by
  simp only [List.length_append, List.length_cons, List.length_nil] at h
  simp only [List.getD_eq_getElem?_getD, List.getElem?_append]
  by_cases e : i = l.length
  · subst e
    simp
  · have : i < l.length := by omega
    simp [this, e]
section CR
variable {X : ix_X} {d : Nat} {τ : List fm_D} {μ : fm_M} {r n p : Nat} {T : Nat → Int32} {cs : List Nat}
theorem sg_or (hT : ∀ i, i < n → ∃ b, b < 128 ∧ T i = nI b) (p : Nat) : (sg n T p = -1 ∧ n ≤ p) ∨ ∃ b, b < 128 ∧ sg n T p = nI b ∧ p < n := by
  unfold sg
  by_cases hp : p < n
  · rw [if_pos hp]
    obtain ⟨b, b1, b2⟩ := hT p hp
    exact Or.inr ⟨b, b1, b2, hp⟩
  · rw [if_neg hp]
    exact Or.inl ⟨rfl, by omega⟩
theorem c_step (hr : pkO r) (hn : n ≤ 100) (h : PS μ r n T p cs) (hp : p < n) : ∃ μ' : fm_M, ix_call X d 11 [.ref r] (fm_W μ τ) = some (none, fm_W μ' τ) ∧ PS μ' r n T (p + 1) cs ∧ pf r μ μ' ∧ μ' r 9 = μ r 9 := by
  obtain ⟨h1, h2, h3, h4, h5, h6, h7, h8⟩ := h
  have hr6 := pk_cases hr
  refine ⟨fm_u (fm_u μ r 7 (nI (p + 1))) r 8 (sg n T (p + 1)), ?_, ⟨?_, fun i hi => ?_, ?_, fm_us, ?_, fun i hi => ?_, by omega, by omega⟩, ⟨fun q a b => by rw [fm_un a, fm_un a], fun k a b c e => by rw [fm_uk c, fm_uk b]⟩, by rw [fm_uk (by decide), fm_uk (by decide)]⟩
  · by_cases hq : p + 1 < n
    · have e : sg n T (p + 1) = T (p + 1) := if_pos hq
      have e2 := h2 (p + 1) hq
      rw [e]
      simp (disch := first | assumption | omega | decide) only [e11, i11_0, i11_1, i11_2, i11_5, i11_6, i11_7, i11_10, i11_11, i11_12, i11_15, i11_18, i11_19, i11_22, i11_23, i11_26, i11_29, i11_30, i11_33, i11_34, i11_37, i11_38, i11_41, i11_42, i11_45, i11_46, i11_49, i11_50, i11_53, i11_54, i11_57, ix_pv_s, ix_pi_s, zpn, ix_po_s, ix_po_n, ix_ph_s, ix_bk_v, ix_bk_n, zcv, zcv_ne, ↓reduceIte, Nat.reduceEqDiff, zn_m1, zd_lt_p, zd_lt_n, zd_le_p, zd_le_n, zd_eq_p, zd_eq_n, zd_0_p, zd_0_n, zd_0lt_p, zd_0lt_n, zd_le0_p, zd_le0_n, zn_lt0, zn_le0, zn_add, zn_mul, zn_sub, zm_lt, zm_le, zm_eq, zb_1, zb_0, not_true_eq_false, not_false_eq_true, pk_c, pk_g0, pk_s0, pk_g1, pk_s1, pk_g2, pk_g3, pk_s3, pk_g4, pk_g5, pk_g6, pk_s6, pk_g7, pk_s7, pk_g8, pk_s8, pk_g9, pk_s9, ra_pk1, wa_pk1, al_pk1, ra_pk2, wa_pk2, al_pk2, ra_pk3, wa_pk3, al_pk3, h3, h1, fm_us, fm_uk, fm_un, e2]
    · have e : sg n T (p + 1) = -1 := if_neg hq
      rw [e]
      simp (disch := first | assumption | omega | decide) only [e11, i11_0, i11_1, i11_2, i11_5, i11_6, i11_7, i11_10, i11_11, i11_12, i11_15, i11_18, i11_19, i11_22, i11_23, i11_26, i11_29, i11_30, i11_33, i11_34, i11_37, i11_38, i11_41, i11_42, i11_45, i11_46, i11_49, i11_50, i11_53, i11_54, i11_57, ix_pv_s, ix_pi_s, zpn, ix_po_s, ix_po_n, ix_ph_s, ix_bk_v, ix_bk_n, zcv, zcv_ne, ↓reduceIte, Nat.reduceEqDiff, zn_m1, zd_lt_p, zd_lt_n, zd_le_p, zd_le_n, zd_eq_p, zd_eq_n, zd_0_p, zd_0_n, zd_0lt_p, zd_0lt_n, zd_le0_p, zd_le0_n, zn_lt0, zn_le0, zn_add, zn_mul, zn_sub, zm_lt, zm_le, zm_eq, zb_1, zb_0, not_true_eq_false, not_false_eq_true, pk_c, pk_g0, pk_s0, pk_g1, pk_s1, pk_g2, pk_g3, pk_s3, pk_g4, pk_g5, pk_g6, pk_s6, pk_g7, pk_s7, pk_g8, pk_s8, pk_g9, pk_s9, ra_pk1, wa_pk1, al_pk1, ra_pk2, wa_pk2, al_pk2, ra_pk3, wa_pk3, al_pk3, h3, h1, fm_us, fm_uk, fm_un]
  · rw [fm_uk (by decide), fm_uk (by decide)]; exact h1
  · rw [fm_un (by omega), fm_un (by omega)]; exact h2 i hi
  · rw [fm_uk (by decide), fm_us]
  · rw [fm_uk (by decide), fm_uk (by decide)]; exact h5
  · rw [fm_un (by omega), fm_un (by omega)]; exact h6 i hi
theorem c_digit (hr : pkO r) (hT : ∀ i, i < n → ∃ b, b < 128 ∧ T i = nI b) (h : PS μ r n T p cs) : ix_call X d 16 [.ref r] (fm_W μ τ) = some (some (.int (if isD (sg n T p) = true then nI 1 else nI 0)), fm_W μ τ) := by
  have h4 := h.2.2.2.1
  rcases sg_or hT p with ⟨e, _⟩ | ⟨b, hb, e, _⟩
  · have e1 : isD (sg n T p) = false := by rw [e]; decide
    have m48 : ((-1 : Int32) < nI 48) = True := eq_true (by decide)
    rw [e1]
    rw [e] at h4
    simp (disch := first | assumption | omega | decide) only [e16, i16_0, i16_1, i16_4, i16_6, i16_9, i16_10, i16_13, i16_15, i16_18, i16_19, i16_22, i16_23, ix_pv_s, ix_pi_s, zpn, ix_po_s, ix_po_n, ix_ph_s, ix_bk_v, ix_bk_n, zcv, zcv_ne, ↓reduceIte, Nat.reduceEqDiff, zn_m1, zd_lt_p, zd_lt_n, zd_le_p, zd_le_n, zd_eq_p, zd_eq_n, zd_0_p, zd_0_n, zd_0lt_p, zd_0lt_n, zd_le0_p, zd_le0_n, zn_lt0, zn_le0, zn_add, zn_mul, zn_sub, zm_lt, zm_le, zm_eq, zb_1, zb_0, not_true_eq_false, not_false_eq_true, pk_c, pk_g0, pk_s0, pk_g1, pk_s1, pk_g2, pk_g3, pk_s3, pk_g4, pk_g5, pk_g6, pk_s6, pk_g7, pk_s7, pk_g8, pk_s8, pk_g9, pk_s9, h4, m48]
    rfl
  · rw [e] at h4
    by_cases q : 48 ≤ b ∧ b ≤ 57
    · have e1 : isD (sg n T p) = true := by
        unfold isD
        rw [e]
        exact decide_eq_true (in_p q.1 q.2 (by omega))
      rw [e1]
      obtain ⟨q1, q2⟩ := q
      simp (disch := first | assumption | omega | decide) only [e16, i16_0, i16_1, i16_4, i16_6, i16_9, i16_10, i16_13, i16_15, i16_18, i16_19, i16_22, i16_23, ix_pv_s, ix_pi_s, zpn, ix_po_s, ix_po_n, ix_ph_s, ix_bk_v, ix_bk_n, zcv, zcv_ne, ↓reduceIte, Nat.reduceEqDiff, zn_m1, zd_lt_p, zd_lt_n, zd_le_p, zd_le_n, zd_eq_p, zd_eq_n, zd_0_p, zd_0_n, zd_0lt_p, zd_0lt_n, zd_le0_p, zd_le0_n, zn_lt0, zn_le0, zn_add, zn_mul, zn_sub, zm_lt, zm_le, zm_eq, zb_1, zb_0, not_true_eq_false, not_false_eq_true, pk_c, pk_g0, pk_s0, pk_g1, pk_s1, pk_g2, pk_g3, pk_s3, pk_g4, pk_g5, pk_g6, pk_s6, pk_g7, pk_s7, pk_g8, pk_s8, pk_g9, pk_s9, h4]
    · have e1 : isD (sg n T p) = false := by
        unfold isD
        rw [e]
        refine decide_eq_false (fun hh => q ?_)
        rw [zn_le (by omega) (by omega), zn_le (by omega) (by omega)] at hh
        exact hh
      rw [e1]
      by_cases q1 : 48 ≤ b
      · simp (disch := first | assumption | omega | decide) only [e16, i16_0, i16_1, i16_4, i16_6, i16_9, i16_10, i16_13, i16_15, i16_18, i16_19, i16_22, i16_23, ix_pv_s, ix_pi_s, zpn, ix_po_s, ix_po_n, ix_ph_s, ix_bk_v, ix_bk_n, zcv, zcv_ne, ↓reduceIte, Nat.reduceEqDiff, zn_m1, zd_lt_p, zd_lt_n, zd_le_p, zd_le_n, zd_eq_p, zd_eq_n, zd_0_p, zd_0_n, zd_0lt_p, zd_0lt_n, zd_le0_p, zd_le0_n, zn_lt0, zn_le0, zn_add, zn_mul, zn_sub, zm_lt, zm_le, zm_eq, zb_1, zb_0, not_true_eq_false, not_false_eq_true, pk_c, pk_g0, pk_s0, pk_g1, pk_s1, pk_g2, pk_g3, pk_s3, pk_g4, pk_g5, pk_g6, pk_s6, pk_g7, pk_s7, pk_g8, pk_s8, pk_g9, pk_s9, h4]
        rfl
      · simp (disch := first | assumption | omega | decide) only [e16, i16_0, i16_1, i16_4, i16_6, i16_9, i16_10, i16_13, i16_15, i16_18, i16_19, i16_22, i16_23, ix_pv_s, ix_pi_s, zpn, ix_po_s, ix_po_n, ix_ph_s, ix_bk_v, ix_bk_n, zcv, zcv_ne, ↓reduceIte, Nat.reduceEqDiff, zn_m1, zd_lt_p, zd_lt_n, zd_le_p, zd_le_n, zd_eq_p, zd_eq_n, zd_0_p, zd_0_n, zd_0lt_p, zd_0lt_n, zd_le0_p, zd_le0_n, zn_lt0, zn_le0, zn_add, zn_mul, zn_sub, zm_lt, zm_le, zm_eq, zb_1, zb_0, not_true_eq_false, not_false_eq_true, pk_c, pk_g0, pk_s0, pk_g1, pk_s1, pk_g2, pk_g3, pk_s3, pk_g4, pk_g5, pk_g6, pk_s6, pk_g7, pk_s7, pk_g8, pk_s8, pk_g9, pk_s9, h4]
        rfl
theorem c_emit {a v : Nat} (hr : pkO r) (hn : n ≤ 100) (h : PS μ r n T p cs) (hl : cs.length < p) (ha : a < 100) (hv : v < 1000) : ∃ μ' : fm_M, ix_call X d 20 [.ref r, .int (nI a), .int (nI v)] (fm_W μ τ) = some (none, fm_W μ' τ) ∧ PS μ' r n T p (cs ++ [a * 100 + v]) ∧ pf r μ μ' := by
  obtain ⟨h1, h2, h3, h4, h5, h6, h7, h8⟩ := h
  have hr6 := pk_cases hr
  refine ⟨fm_u (fm_u μ (r + 1) cs.length (nI (a * 100 + v))) r 3 (nI (cs.length + 1)), ?_, ⟨?_, fun i hi => ?_, ?_, ?_, ?_, fun i hi => ?_, h7, ?_⟩, ⟨fun q a b => by rw [fm_un a, fm_un b], fun k a b c e => by rw [fm_uk a, fm_un (by omega)]⟩⟩
  · have e1 : r ≠ r + 1 := by omega
    simp (disch := first | assumption | omega | decide) only [e20, i20_0, i20_1, i20_4, i20_7, i20_8, i20_11, i20_12, i20_15, i20_16, i20_19, i20_20, i20_21, i20_24, i20_25, i20_28, i20_29, i20_31, i20_32, i20_33, i20_34, i20_35, i20_36, i20_37, i20_40, i20_41, i20_42, i20_45, ix_pv_s, ix_pi_s, zpn, ix_po_s, ix_po_n, ix_ph_s, ix_bk_v, ix_bk_n, zcv, zcv_ne, ↓reduceIte, Nat.reduceEqDiff, zn_m1, zd_lt_p, zd_lt_n, zd_le_p, zd_le_n, zd_eq_p, zd_eq_n, zd_0_p, zd_0_n, zd_0lt_p, zd_0lt_n, zd_le0_p, zd_le0_n, zn_lt0, zn_le0, zn_add, zn_mul, zn_sub, zm_lt, zm_le, zm_eq, zb_1, zb_0, not_true_eq_false, not_false_eq_true, pk_c, pk_g0, pk_s0, pk_g1, pk_s1, pk_g2, pk_g3, pk_s3, pk_g4, pk_g5, pk_g6, pk_s6, pk_g7, pk_s7, pk_g8, pk_s8, pk_g9, pk_s9, ra_pk1, wa_pk1, al_pk1, ra_pk2, wa_pk2, al_pk2, ra_pk3, wa_pk3, al_pk3, h5, fm_un]
  · rw [fm_uk (by decide), fm_un (by omega)]; exact h1
  · rw [fm_un (by omega), fm_un (by omega)]; exact h2 i hi
  · rw [fm_uk (by decide), fm_un (by omega)]; exact h3
  · rw [fm_uk (by decide), fm_un (by omega)]; exact h4
  · rw [fm_us, List.length_append]; rfl
  · rw [fm_un (by omega), fm_uu, gd_appN hi]
    simp only [List.length_append, List.length_cons, List.length_nil] at hi
    by_cases e : i = cs.length
    · rw [if_pos e, e, pk_us]
    · rw [if_neg e, pk_un e]
      exact h6 i (by omega)
  · simp only [List.length_append, List.length_cons, List.length_nil]
    omega
theorem c_sign {c : Nat} (hr : pkO r) (hn : n ≤ 100) (hc : c < 128) (h : PS μ r n T p cs) : ∃ (ok : Int32) (μ' : fm_M), ix_call X (d + 1) 14 [.ref r, .int (nI c)] (fm_W μ τ) = some (some (.int ok), fm_W μ' τ) ∧ pf r μ μ' ∧ μ' r 9 = μ r 9 ∧ ((sg n T p = nI c ∧ ok = nI 1 ∧ PS μ' r n T (p + 1) cs) ∨ (¬ sg n T p = nI c ∧ ok = nI 0 ∧ μ' = μ)) := by
  have h4 := h.2.2.2.1
  by_cases q : sg n T p = nI c
  · obtain ⟨μ1, a1, b1, c1, e1⟩ := c_step (X := X) (d := d) (τ := τ) hr hn h (sg_lt (by omega) q)
    refine ⟨nI 1, μ1, ?_, c1, e1, Or.inl ⟨q, rfl, b1⟩⟩
    rw [q] at h4
    simp (disch := first | assumption | omega | decide) only [e14, i14_0, i14_1, i14_4, i14_5, i14_8, i14_9, i14_10, i14_11, i14_14, i14_15, ix_pv_s, ix_pi_s, zpn, ix_po_s, ix_po_n, ix_ph_s, ix_bk_v, ix_bk_n, zcv, zcv_ne, ↓reduceIte, Nat.reduceEqDiff, zn_m1, zd_lt_p, zd_lt_n, zd_le_p, zd_le_n, zd_eq_p, zd_eq_n, zd_0_p, zd_0_n, zd_0lt_p, zd_0lt_n, zd_le0_p, zd_le0_n, zn_lt0, zn_le0, zn_add, zn_mul, zn_sub, zm_lt, zm_le, zm_eq, zb_1, zb_0, not_true_eq_false, not_false_eq_true, pk_c, pk_g0, pk_s0, pk_g1, pk_s1, pk_g2, pk_g3, pk_s3, pk_g4, pk_g5, pk_g6, pk_s6, pk_g7, pk_s7, pk_g8, pk_s8, pk_g9, pk_s9, h4, a1]
  · refine ⟨nI 0, μ, ?_, pf_refl, rfl, Or.inr ⟨q, rfl, rfl⟩⟩
    simp (disch := first | assumption | omega | decide) only [e14, i14_0, i14_1, i14_4, i14_5, i14_8, i14_9, i14_10, i14_11, i14_14, i14_15, ix_pv_s, ix_pi_s, zpn, ix_po_s, ix_po_n, ix_ph_s, ix_bk_v, ix_bk_n, zcv, zcv_ne, ↓reduceIte, Nat.reduceEqDiff, zn_m1, zd_lt_p, zd_lt_n, zd_le_p, zd_le_n, zd_eq_p, zd_eq_n, zd_0_p, zd_0_n, zd_0lt_p, zd_0lt_n, zd_le0_p, zd_le0_n, zn_lt0, zn_le0, zn_add, zn_mul, zn_sub, zm_lt, zm_le, zm_eq, zb_1, zb_0, not_true_eq_false, not_false_eq_true, pk_c, pk_g0, pk_s0, pk_g1, pk_s1, pk_g2, pk_g3, pk_s3, pk_g4, pk_g5, pk_g6, pk_s6, pk_g7, pk_s7, pk_g8, pk_s8, pk_g9, pk_s9, h4, q]
theorem c_number (hr : pkO r) (hn : n ≤ 100) (hT : ∀ i, i < n → ∃ b, b < 128 ∧ T i = nI b) (h : PS μ r n T p cs) : ∃ (ok : Int32) (μ' : fm_M), ix_call X (d + 1) 15 [.ref r] (fm_W μ τ) = some (some (.int ok), fm_W μ' τ) ∧ pf r μ μ' ∧ (match numS n T p with
    | .inl e => ok = nI 0 ∧ μ' r 7 = nI e
    | .inr (q, v) => ok = nI 1 ∧ PS μ' r n T q cs ∧ μ' r 9 = nI v) := by
  have h4 := h.2.2.2.1
  have hr6 := pk_cases hr
  have k1 := c_digit (X := X) (d := d) (τ := τ) hr hT h
  by_cases q : isD (sg n T p) = true
  · obtain ⟨l1, b, b1, b2, e, e2⟩ := isD_lt q
    rw [if_pos q] at k1
    rw [e] at h4
    have hPS9 : PS (fm_u μ r 9 (nI (b - 48))) r n T p cs := by
      obtain ⟨y1, y2, y3, y4, y5, y6, y7, y8⟩ := h
      exact ⟨by rw [fm_uk (by decide)]; exact y1, fun i hi => by rw [fm_un (by omega)]; exact y2 i hi, by rw [fm_uk (by decide)]; exact y3, by rw [fm_uk (by decide)]; exact y4, by rw [fm_uk (by decide)]; exact y5, fun i hi => by rw [fm_un (by omega)]; exact y6 i hi, y7, y8⟩
    obtain ⟨μ1, a1, p1, c1, v1⟩ := c_step (X := X) (d := d) (τ := τ) hr hn hPS9 l1
    have v1' : μ1 r 9 = nI (b - 48) := v1.trans fm_us
    have f1 : pf r μ μ1 := pf_trans ⟨fun q a b => fm_un a, fun k a b c e => fm_uk e⟩ c1
    have k2 := c_digit (X := X) (d := d) (τ := τ) hr hT p1
    have e9 : nI b - nI 48 = nI (b - 48) := zn_sub (by omega)
    by_cases q2 : dv (sg n T p) ≠ 0 ∧ isD (sg n T (p + 1)) = true
    · obtain ⟨l2, b', b1', b2', e', e2'⟩ := isD_lt q2.2
      rw [if_pos q2.2] at k2
      have h8 : μ1 r 8 = nI b' := by rw [p1.2.2.2.1, e']
      have hb0 : 0 < b - 48 := by have := q2.1; omega
      have hPS9' : PS (fm_u μ1 r 9 (nI ((b - 48) * 10 + b' - 48))) r n T (p + 1) cs := by
        obtain ⟨y1, y2, y3, y4, y5, y6, y7, y8⟩ := p1
        exact ⟨by rw [fm_uk (by decide)]; exact y1, fun i hi => by rw [fm_un (by omega)]; exact y2 i hi, by rw [fm_uk (by decide)]; exact y3, by rw [fm_uk (by decide)]; exact y4, by rw [fm_uk (by decide)]; exact y5, fun i hi => by rw [fm_un (by omega)]; exact y6 i hi, y7, y8⟩
      obtain ⟨μ2, a2, p2, c2, v2⟩ := c_step (X := X) (d := d) (τ := τ) hr hn hPS9' l2
      refine ⟨nI 1, μ2, ?_, pf_trans f1 (pf_trans ⟨fun q a b => fm_un a, fun k a b c e => fm_uk e⟩ c2), ?_⟩
      · simp (disch := first | assumption | omega | decide) only [e15, i15_0, i15_1, i15_4, i15_7, i15_8, i15_9, i15_10, i15_11, i15_14, i15_16, i15_17, i15_20, i15_21, i15_24, i15_25, i15_28, i15_31, i15_32, i15_35, i15_38, i15_39, i15_40, i15_43, i15_45, i15_46, i15_47, i15_50, i15_51, i15_53, i15_54, i15_57, i15_58, i15_61, i15_62, ix_pv_s, ix_pi_s, zpn, ix_po_s, ix_po_n, ix_ph_s, ix_bk_v, ix_bk_n, zcv, zcv_ne, ↓reduceIte, Nat.reduceEqDiff, zn_m1, zd_lt_p, zd_lt_n, zd_le_p, zd_le_n, zd_eq_p, zd_eq_n, zd_0_p, zd_0_n, zd_0lt_p, zd_0lt_n, zd_le0_p, zd_le0_n, zn_lt0, zn_le0, zn_add, zn_mul, zn_sub, zm_lt, zm_le, zm_eq, zb_1, zb_0, not_true_eq_false, not_false_eq_true, pk_c, pk_g0, pk_s0, pk_g1, pk_s1, pk_g2, pk_g3, pk_s3, pk_g4, pk_g5, pk_g6, pk_s6, pk_g7, pk_s7, pk_g8, pk_s8, pk_g9, pk_s9, k1, h4, e9, a1, v1', k2, h8, a2, not_true_eq_false]
      · rw [numS, if_pos q, if_pos q2, e2, e2']
        refine ⟨rfl, p2, ?_⟩
        rw [v2, fm_us]
        exact congrArg nI (by omega)
    · refine ⟨nI 1, μ1, ?_, f1, ?_⟩
      · by_cases z : b - 48 = 0
        · have zz : (nI (b - 48) = 0) = True := by rw [z]; exact eq_true (by decide)
          simp (disch := first | assumption | omega | decide) only [e15, i15_0, i15_1, i15_4, i15_7, i15_8, i15_9, i15_10, i15_11, i15_14, i15_16, i15_17, i15_20, i15_21, i15_24, i15_25, i15_28, i15_31, i15_32, i15_35, i15_38, i15_39, i15_40, i15_43, i15_45, i15_46, i15_47, i15_50, i15_51, i15_53, i15_54, i15_57, i15_58, i15_61, i15_62, ix_pv_s, ix_pi_s, zpn, ix_po_s, ix_po_n, ix_ph_s, ix_bk_v, ix_bk_n, zcv, zcv_ne, ↓reduceIte, Nat.reduceEqDiff, zn_m1, zd_lt_p, zd_lt_n, zd_le_p, zd_le_n, zd_eq_p, zd_eq_n, zd_0_p, zd_0_n, zd_0lt_p, zd_0lt_n, zd_le0_p, zd_le0_n, zn_lt0, zn_le0, zn_add, zn_mul, zn_sub, zm_lt, zm_le, zm_eq, zb_1, zb_0, not_true_eq_false, not_false_eq_true, pk_c, pk_g0, pk_s0, pk_g1, pk_s1, pk_g2, pk_g3, pk_s3, pk_g4, pk_g5, pk_g6, pk_s6, pk_g7, pk_s7, pk_g8, pk_s8, pk_g9, pk_s9, k1, h4, e9, a1, v1', zz]
        · have hz : 0 < b - 48 := Nat.pos_of_ne_zero z
          have nd : ¬ isD (sg n T (p + 1)) = true := fun hh => q2 ⟨by omega, hh⟩
          rw [if_neg nd] at k2
          simp (disch := first | assumption | omega | decide) only [e15, i15_0, i15_1, i15_4, i15_7, i15_8, i15_9, i15_10, i15_11, i15_14, i15_16, i15_17, i15_20, i15_21, i15_24, i15_25, i15_28, i15_31, i15_32, i15_35, i15_38, i15_39, i15_40, i15_43, i15_45, i15_46, i15_47, i15_50, i15_51, i15_53, i15_54, i15_57, i15_58, i15_61, i15_62, ix_pv_s, ix_pi_s, zpn, ix_po_s, ix_po_n, ix_ph_s, ix_bk_v, ix_bk_n, zcv, zcv_ne, ↓reduceIte, Nat.reduceEqDiff, zn_m1, zd_lt_p, zd_lt_n, zd_le_p, zd_le_n, zd_eq_p, zd_eq_n, zd_0_p, zd_0_n, zd_0lt_p, zd_0lt_n, zd_le0_p, zd_le0_n, zn_lt0, zn_le0, zn_add, zn_mul, zn_sub, zm_lt, zm_le, zm_eq, zb_1, zb_0, not_true_eq_false, not_false_eq_true, pk_c, pk_g0, pk_s0, pk_g1, pk_s1, pk_g2, pk_g3, pk_s3, pk_g4, pk_g5, pk_g6, pk_s6, pk_g7, pk_s7, pk_g8, pk_s8, pk_g9, pk_s9, k1, h4, e9, a1, v1', k2]
      · rw [numS, if_pos q, if_neg q2, e2]
        exact ⟨rfl, p1, v1'⟩
  · rw [if_neg q] at k1
    refine ⟨nI 0, μ, ?_, pf_refl, ?_⟩
    · simp (disch := first | assumption | omega | decide) only [e15, i15_0, i15_1, i15_4, i15_7, i15_8, i15_9, i15_10, i15_11, i15_14, i15_16, i15_17, i15_20, i15_21, i15_24, i15_25, i15_28, i15_31, i15_32, i15_35, i15_38, i15_39, i15_40, i15_43, i15_45, i15_46, i15_47, i15_50, i15_51, i15_53, i15_54, i15_57, i15_58, i15_61, i15_62, ix_pv_s, ix_pi_s, zpn, ix_po_s, ix_po_n, ix_ph_s, ix_bk_v, ix_bk_n, zcv, zcv_ne, ↓reduceIte, Nat.reduceEqDiff, zn_m1, zd_lt_p, zd_lt_n, zd_le_p, zd_le_n, zd_eq_p, zd_eq_n, zd_0_p, zd_0_n, zd_0lt_p, zd_0lt_n, zd_le0_p, zd_le0_n, zn_lt0, zn_le0, zn_add, zn_mul, zn_sub, zm_lt, zm_le, zm_eq, zb_1, zb_0, not_true_eq_false, not_false_eq_true, pk_c, pk_g0, pk_s0, pk_g1, pk_s1, pk_g2, pk_g3, pk_s3, pk_g4, pk_g5, pk_g6, pk_s6, pk_g7, pk_s7, pk_g8, pk_s8, pk_g9, pk_s9, k1]
    · rw [numS, if_neg q]
      exact ⟨rfl, h.2.2.1⟩
theorem idx_m1 {k : Nat} (hk : k < 6) : ∀ (m i : Nat), i + m ≤ tl k → idxV k (-1) m i = -1
  | 0, i, _ => rfl
  | m + 1, i, h => by
    rw [idxV, if_neg ?_]
    · exact idx_m1 hk m (i + 1) (by omega)
    · have := (tx_by hk (show i < tl k by omega)).2
      have e : (nI (ch k i) = (-1 : Int32)) = False := zm_eq (by omega)
      intro hh
      rw [← hh] at e
      simp at e
/-- where a letter stands among those of text k -/
theorem c_idx {k : Nat} {H : ix_H} (hk : k < 6) (hT : ∀ i, i < n → ∃ b, b < 128 ∧ T i = nI b) (hp : ¬ sg n T p = -1) : ix_call X (d + 3) 229 [.retAddr (2 + 2 * k), .int ((sg n T p).toUInt32 % 65536).toInt32] H = some (some (.int (idxV k (sg n T p) (tl k) 0)), H) := by
  rcases sg_or hT p with ⟨e, _⟩ | ⟨b, hb, e, _⟩
  · exact absurd e hp
  · rw [e, n_c16 hb]
    exact tx_index hk hb
theorem c_test (hr : pkO r) (hn : n ≤ 100) (hT : ∀ i, i < n → ∃ b, b < 128 ∧ T i = nI b) (h : PS μ r n T p cs) : ∃ (ok : Int32) (μ' : fm_M), ix_call X (d + 4) 19 [.ref r] (fm_W μ τ) = some (some (.int ok), fm_W μ' τ) ∧ RS μ' r n T cs (testS n T p) ok ∧ pf r μ μ' := by
  have h4 := h.2.2.2.1
  have hr6 := pk_cases hr
  have m0 : (0 : Int32) ≤ -1 ↔ False := by decide
  have m0' : ((0 : Int32) ≤ -1) = False := eq_false (by decide)
  have t4 : tl 4 = 5 := by decide
  have t5 : tl 5 = 3 := by decide
  by_cases q1 : sg n T p = -1
  · have e1 : idxV 4 (sg n T p) 5 0 = -1 := by rw [q1]; exact idx_m1 (k := 4) (by decide) 5 0 (by rw [t4]; exact Nat.le_refl _)
    refine ⟨nI 0, μ, ?_, ?_, pf_refl⟩
    · rw [q1] at h4
      simp (disch := first | assumption | omega | decide) only [e19, i19_0, i19_1, i19_4, i19_5, i19_8, i19_9, i19_12, i19_14, i19_15, i19_18, i19_19, i19_22, i19_23, i19_24, i19_27, i19_28, i19_29, i19_30, i19_33, i19_34, i19_37, i19_38, i19_41, i19_42, i19_45, i19_47, i19_48, i19_51, i19_52, i19_55, i19_56, i19_57, i19_60, i19_61, i19_62, i19_63, i19_66, i19_67, i19_70, i19_73, i19_74, i19_75, i19_76, i19_77, i19_78, i19_79, i19_80, i19_81, i19_82, i19_85, i19_88, i19_89, ix_pv_s, ix_pi_s, zpn, ix_po_s, ix_po_n, ix_ph_s, ix_bk_v, ix_bk_n, zcv, zcv_ne, ↓reduceIte, Nat.reduceEqDiff, zn_m1, zd_lt_p, zd_lt_n, zd_le_p, zd_le_n, zd_eq_p, zd_eq_n, zd_0_p, zd_0_n, zd_0lt_p, zd_0lt_n, zd_le0_p, zd_le0_n, zn_lt0, zn_le0, zn_add, zn_mul, zn_sub, zm_lt, zm_le, zm_eq, zb_1, zb_0, not_true_eq_false, not_false_eq_true, pk_c, pk_g0, pk_s0, pk_g1, pk_s1, pk_g2, pk_g3, pk_s3, pk_g4, pk_g5, pk_g6, pk_s6, pk_g7, pk_s7, pk_g8, pk_s8, pk_g9, pk_s9, h4, not_true_eq_false, m0']
    · rw [testS, if_pos e1]
      exact ⟨rfl, h.2.2.1⟩
  · have k4 : ix_call X (d + 3) 229 [.retAddr 10, .int ((sg n T p).toUInt32 % 65536).toInt32] (fm_W μ τ) = some (some (.int (idxV 4 (sg n T p) 5 0)), fm_W μ τ) := c_idx (X := X) (d := d) (k := 4) (by decide) hT q1
    by_cases q2 : idxV 4 (sg n T p) 5 0 = -1
    · rw [q2] at k4
      refine ⟨nI 0, μ, ?_, ?_, pf_refl⟩
      · simp (disch := first | assumption | omega | decide) only [e19, i19_0, i19_1, i19_4, i19_5, i19_8, i19_9, i19_12, i19_14, i19_15, i19_18, i19_19, i19_22, i19_23, i19_24, i19_27, i19_28, i19_29, i19_30, i19_33, i19_34, i19_37, i19_38, i19_41, i19_42, i19_45, i19_47, i19_48, i19_51, i19_52, i19_55, i19_56, i19_57, i19_60, i19_61, i19_62, i19_63, i19_66, i19_67, i19_70, i19_73, i19_74, i19_75, i19_76, i19_77, i19_78, i19_79, i19_80, i19_81, i19_82, i19_85, i19_88, i19_89, ix_pv_s, ix_pi_s, zpn, ix_po_s, ix_po_n, ix_ph_s, ix_bk_v, ix_bk_n, zcv, zcv_ne, ↓reduceIte, Nat.reduceEqDiff, zn_m1, zd_lt_p, zd_lt_n, zd_le_p, zd_le_n, zd_eq_p, zd_eq_n, zd_0_p, zd_0_n, zd_0lt_p, zd_0lt_n, zd_le0_p, zd_le0_n, zn_lt0, zn_le0, zn_add, zn_mul, zn_sub, zm_lt, zm_le, zm_eq, zb_1, zb_0, not_true_eq_false, not_false_eq_true, pk_c, pk_g0, pk_s0, pk_g1, pk_s1, pk_g2, pk_g3, pk_s3, pk_g4, pk_g5, pk_g6, pk_s6, pk_g7, pk_s7, pk_g8, pk_s8, pk_g9, pk_s9, h4, q1, k4, m0']
      · rw [testS, if_pos q2]
        exact ⟨rfl, h.2.2.1⟩
    · obtain ⟨j1, _, l1, e1, z1⟩ := idx_nat (by decide) q2
      rw [e1] at k4
      have hp : p < n := by
        rcases sg_or hT p with ⟨e, _⟩ | ⟨b, hb, e, hp⟩
        · exact absurd e q1
        · exact hp
      obtain ⟨μ1, a1, p1, c1, v1⟩ := c_step (X := X) (d := d + 3) (τ := τ) hr hn h hp
      have h41 := p1.2.2.2.1
      by_cases q3 : sg n T (p + 1) = -1
      · have e5 : idxV 5 (sg n T (p + 1)) 3 0 = -1 := by rw [q3]; exact idx_m1 (k := 5) (by decide) 3 0 (by rw [t5]; exact Nat.le_refl _)
        refine ⟨nI 0, μ1, ?_, ?_, c1⟩
        · rw [q3] at h41
          simp (disch := first | assumption | omega | decide) only [e19, i19_0, i19_1, i19_4, i19_5, i19_8, i19_9, i19_12, i19_14, i19_15, i19_18, i19_19, i19_22, i19_23, i19_24, i19_27, i19_28, i19_29, i19_30, i19_33, i19_34, i19_37, i19_38, i19_41, i19_42, i19_45, i19_47, i19_48, i19_51, i19_52, i19_55, i19_56, i19_57, i19_60, i19_61, i19_62, i19_63, i19_66, i19_67, i19_70, i19_73, i19_74, i19_75, i19_76, i19_77, i19_78, i19_79, i19_80, i19_81, i19_82, i19_85, i19_88, i19_89, ix_pv_s, ix_pi_s, zpn, ix_po_s, ix_po_n, ix_ph_s, ix_bk_v, ix_bk_n, zcv, zcv_ne, ↓reduceIte, Nat.reduceEqDiff, zn_m1, zd_lt_p, zd_lt_n, zd_le_p, zd_le_n, zd_eq_p, zd_eq_n, zd_0_p, zd_0_n, zd_0lt_p, zd_0lt_n, zd_le0_p, zd_le0_n, zn_lt0, zn_le0, zn_add, zn_mul, zn_sub, zm_lt, zm_le, zm_eq, zb_1, zb_0, not_true_eq_false, not_false_eq_true, pk_c, pk_g0, pk_s0, pk_g1, pk_s1, pk_g2, pk_g3, pk_s3, pk_g4, pk_g5, pk_g6, pk_s6, pk_g7, pk_s7, pk_g8, pk_s8, pk_g9, pk_s9, h4, q1, k4, a1, h41, not_true_eq_false, m0']
        · rw [testS, if_neg q2, if_pos e5]
          exact ⟨rfl, p1.2.2.1⟩
      · have k5 : ix_call X (d + 3) 229 [.retAddr 12, .int ((sg n T (p + 1)).toUInt32 % 65536).toInt32] (fm_W μ1 τ) = some (some (.int (idxV 5 (sg n T (p + 1)) 3 0)), fm_W μ1 τ) := c_idx (X := X) (d := d) (k := 5) (by decide) hT q3
        by_cases q4 : idxV 5 (sg n T (p + 1)) 3 0 = -1
        · rw [q4] at k5
          refine ⟨nI 0, μ1, ?_, ?_, c1⟩
          · simp (disch := first | assumption | omega | decide) only [e19, i19_0, i19_1, i19_4, i19_5, i19_8, i19_9, i19_12, i19_14, i19_15, i19_18, i19_19, i19_22, i19_23, i19_24, i19_27, i19_28, i19_29, i19_30, i19_33, i19_34, i19_37, i19_38, i19_41, i19_42, i19_45, i19_47, i19_48, i19_51, i19_52, i19_55, i19_56, i19_57, i19_60, i19_61, i19_62, i19_63, i19_66, i19_67, i19_70, i19_73, i19_74, i19_75, i19_76, i19_77, i19_78, i19_79, i19_80, i19_81, i19_82, i19_85, i19_88, i19_89, ix_pv_s, ix_pi_s, zpn, ix_po_s, ix_po_n, ix_ph_s, ix_bk_v, ix_bk_n, zcv, zcv_ne, ↓reduceIte, Nat.reduceEqDiff, zn_m1, zd_lt_p, zd_lt_n, zd_le_p, zd_le_n, zd_eq_p, zd_eq_n, zd_0_p, zd_0_n, zd_0lt_p, zd_0lt_n, zd_le0_p, zd_le0_n, zn_lt0, zn_le0, zn_add, zn_mul, zn_sub, zm_lt, zm_le, zm_eq, zb_1, zb_0, not_true_eq_false, not_false_eq_true, pk_c, pk_g0, pk_s0, pk_g1, pk_s1, pk_g2, pk_g3, pk_s3, pk_g4, pk_g5, pk_g6, pk_s6, pk_g7, pk_s7, pk_g8, pk_s8, pk_g9, pk_s9, h4, q1, k4, a1, h41, q3, k5, m0']
          · rw [testS, if_neg q2, if_pos q4]
            exact ⟨rfl, p1.2.2.1⟩
        · obtain ⟨j2, _, l2, e2, z2⟩ := idx_nat (by decide) q4
          rw [e2] at k5
          have hp1 : p + 1 < n := by
            rcases sg_or hT (p + 1) with ⟨e, _⟩ | ⟨b, hb, e, hp⟩
            · exact absurd e q3
            · exact hp
          obtain ⟨μ2, a2, p2, c2, v2⟩ := c_step (X := X) (d := d + 3) (τ := τ) hr hn p1 hp1
          obtain ⟨ok, μ3, a3, c3, r3⟩ := c_number (X := X) (d := d + 2) (τ := τ) hr hn hT p2
          cases hv : numS n T (p + 1 + 1) with
          | inl e =>
            rw [hv] at r3
            obtain ⟨rfl, r3⟩ := r3
            refine ⟨nI 0, μ3, ?_, ?_, pf_trans c1 (pf_trans c2 c3)⟩
            · simp (disch := first | assumption | omega | decide) only [e19, i19_0, i19_1, i19_4, i19_5, i19_8, i19_9, i19_12, i19_14, i19_15, i19_18, i19_19, i19_22, i19_23, i19_24, i19_27, i19_28, i19_29, i19_30, i19_33, i19_34, i19_37, i19_38, i19_41, i19_42, i19_45, i19_47, i19_48, i19_51, i19_52, i19_55, i19_56, i19_57, i19_60, i19_61, i19_62, i19_63, i19_66, i19_67, i19_70, i19_73, i19_74, i19_75, i19_76, i19_77, i19_78, i19_79, i19_80, i19_81, i19_82, i19_85, i19_88, i19_89, ix_pv_s, ix_pi_s, zpn, ix_po_s, ix_po_n, ix_ph_s, ix_bk_v, ix_bk_n, zcv, zcv_ne, ↓reduceIte, Nat.reduceEqDiff, zn_m1, zd_lt_p, zd_lt_n, zd_le_p, zd_le_n, zd_eq_p, zd_eq_n, zd_0_p, zd_0_n, zd_0lt_p, zd_0lt_n, zd_le0_p, zd_le0_n, zn_lt0, zn_le0, zn_add, zn_mul, zn_sub, zm_lt, zm_le, zm_eq, zb_1, zb_0, not_true_eq_false, not_false_eq_true, pk_c, pk_g0, pk_s0, pk_g1, pk_s1, pk_g2, pk_g3, pk_s3, pk_g4, pk_g5, pk_g6, pk_s6, pk_g7, pk_s7, pk_g8, pk_s8, pk_g9, pk_s9, h4, q1, k4, a1, h41, q3, k5, a2, a3]
            · rw [testS, if_neg q2, if_neg q4, hv]
              exact ⟨rfl, r3⟩
          | inr y =>
            obtain ⟨q, v⟩ := y
            rw [hv] at r3
            obtain ⟨rfl, r3, r9⟩ := r3
            obtain ⟨n1, n2, n3⟩ := num_ok hv
            have hl8 := h.2.2.2.2.2.2.2
            obtain ⟨μ4, a4, p4, c4⟩ := c_emit (X := X) (d := d + 3) (τ := τ) (a := j1 * 3 + j2) (v := v) hr hn r3 (by omega) (by omega) (by omega)
            refine ⟨nI 1, μ4, ?_, ?_, pf_trans c1 (pf_trans c2 (pf_trans c3 c4))⟩
            · simp (disch := first | assumption | omega | decide) only [e19, i19_0, i19_1, i19_4, i19_5, i19_8, i19_9, i19_12, i19_14, i19_15, i19_18, i19_19, i19_22, i19_23, i19_24, i19_27, i19_28, i19_29, i19_30, i19_33, i19_34, i19_37, i19_38, i19_41, i19_42, i19_45, i19_47, i19_48, i19_51, i19_52, i19_55, i19_56, i19_57, i19_60, i19_61, i19_62, i19_63, i19_66, i19_67, i19_70, i19_73, i19_74, i19_75, i19_76, i19_77, i19_78, i19_79, i19_80, i19_81, i19_82, i19_85, i19_88, i19_89, ix_pv_s, ix_pi_s, zpn, ix_po_s, ix_po_n, ix_ph_s, ix_bk_v, ix_bk_n, zcv, zcv_ne, ↓reduceIte, Nat.reduceEqDiff, zn_m1, zd_lt_p, zd_lt_n, zd_le_p, zd_le_n, zd_eq_p, zd_eq_n, zd_0_p, zd_0_n, zd_0lt_p, zd_0lt_n, zd_le0_p, zd_le0_n, zn_lt0, zn_le0, zn_add, zn_mul, zn_sub, zm_lt, zm_le, zm_eq, zb_1, zb_0, not_true_eq_false, not_false_eq_true, pk_c, pk_g0, pk_s0, pk_g1, pk_s1, pk_g2, pk_g3, pk_s3, pk_g4, pk_g5, pk_g6, pk_s6, pk_g7, pk_s7, pk_g8, pk_s8, pk_g9, pk_s9, h4, q1, k4, a1, h41, q3, k5, a2, a3, r9, a4]
            · rw [testS, if_neg q2, if_neg q4, hv, z1, z2]
              exact ⟨rfl, p4⟩
end CR
