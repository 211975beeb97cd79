/-! ===== the newest park is followed; undo ===== -/
--need 61.image
section FO
variable {X : ix_X} {d : Nat} {τ : List fm_D} {μ μ' : fm_M}
theorem cl_slot {m p : Nat} (hm : m < 6) (h : μ 24 m = nI p) (hp : p < 2147483648) : ix_call X (d + 1) 68 [.ref 0, .int (nI m)] (fm_W μ τ) = some (some (.ref p), fm_W μ τ) := by
  simp (disch := first | assumption | omega | decide) only [e68, i68_0, i68_1, i68_2, i68_3, i68_6, i68_7, i68_8, i68_9, i68_12, i68_15, i68_16, i68_19, i68_20, i68_21, i68_24, i68_25, i68_25n, ix_pv_s, ix_pi_s, zpn, ix_po_s, ix_po_n, ix_ph_s, ix_bk_v, ix_bk_n, zcv, zcv_ne, ↓reduceIte, Nat.reduceEqDiff, zn_m1, zd_lt_p, zd_lt_n, zd_le_p, zd_le_n, zd_eq_p, zd_eq_n, zd_0_p, zd_0_n, zd_0lt_p, zd_0lt_n, zd_le0_p, zd_le0_n, zn_lt0, zn_le0, zn_add, zn_mul, zn_sub, zm_lt, zm_le, zm_eq, zb_1, zb_0, not_true_eq_false, not_false_eq_true, t0_c, t0_g0, t0_g1, t0_g2, t0_g3, t0_g4, t0_g5, t0_g6, t0_g7, t0_g8, t0_g9, t0_g10, t0_s11, t0_g12, t0_s12, t0_g13, t0_g14, t0_g15, t0_g16, t0_c, rw_c, rq_22, rq_23, rq_24, al_22, al_23, al_24, Nat.reduceSub, cl_within, and_self, h, fm_eq]
theorem cl_slotN {m : Nat} (hm : 6 ≤ m) (h2 : m < 10000) : ix_call X (d + 1) 68 [.ref 0, .int (nI m)] (fm_W μ τ) = some (some .null, fm_W μ τ) := by
  simp (disch := first | assumption | omega | decide) only [e68, i68_0, i68_1, i68_2, i68_3, i68_6, i68_7, i68_8, i68_9, i68_12, i68_15, i68_16, i68_19, i68_20, i68_21, i68_24, i68_25, i68_25n, ix_pv_s, ix_pi_s, zpn, ix_po_s, ix_po_n, ix_ph_s, ix_bk_v, ix_bk_n, zcv, zcv_ne, ↓reduceIte, Nat.reduceEqDiff, zn_m1, zd_lt_p, zd_lt_n, zd_le_p, zd_le_n, zd_eq_p, zd_eq_n, zd_0_p, zd_0_n, zd_0lt_p, zd_0lt_n, zd_le0_p, zd_le0_n, zn_lt0, zn_le0, zn_add, zn_mul, zn_sub, zm_lt, zm_le, zm_eq, zb_1, zb_0, not_true_eq_false, not_false_eq_true, t0_c, t0_g0, t0_g1, t0_g2, t0_g3, t0_g4, t0_g5, t0_g6, t0_g7, t0_g8, t0_g9, t0_g10, t0_s11, t0_g12, t0_s12, t0_g13, t0_g14, t0_g15, t0_g16, t0_c, rw_c, rq_22, rq_23, rq_24, al_22, al_23, al_24, Nat.reduceSub, cl_within, and_false]
theorem cl_sfol {r p : Nat} (hr : spO r) (hp : p < 2147483648) : ix_call X d 32 [.ref r, .ref p] (fm_W μ τ) = some (none, fm_W (fm_u (fm_u μ r 2 (nI p)) r 1 (nI 0)) τ) := by
  simp (disch := first | assumption | omega | decide) only [e32, i32_0, i32_1, i32_2, i32_5, i32_6, i32_7, i32_10, ix_pv_s, ix_pi_s, zpn, ix_po_s, ix_po_n, ix_ph_s, ix_bk_v, ix_bk_n, zcv, zcv_ne, ↓reduceIte, Nat.reduceEqDiff, zn_m1, zd_lt_p, zd_lt_n, zd_le_p, zd_le_n, zd_eq_p, zd_eq_n, zd_0_p, zd_0_n, zd_0lt_p, zd_0lt_n, zd_le0_p, zd_le0_n, zn_lt0, zn_le0, zn_add, zn_mul, zn_sub, zm_lt, zm_le, zm_eq, zb_1, zb_0, not_true_eq_false, not_false_eq_true, sp_s2, sp_s1]
def FL (μ μ1 : fm_M) (p i : Nat) : Prop := (∀ r, (∀ j, j < i → r ≠ 52 + 2 * j) → μ1 r = μ r) ∧ ∀ j, j < i → μ1 (52 + 2 * j) 2 = nI p ∧ μ1 (52 + 2 * j) 1 = nI 0 ∧ ∀ k, k ≠ 1 → k ≠ 2 → μ1 (52 + 2 * j) k = μ (52 + 2 * j) k
theorem cl_folL {p : Nat} (hp : p < 2147483648) (h23 : ∀ i, i < 6 → μ 23 i = nI (52 + 2 * i)) : ∀ (k i : Nat) (μ1 : fm_M), FL μ μ1 p i → i + k = 6 → ∃ μ2 : fm_M, ix_sem X (d + 2) 70 30 [some (.ref 0), some (.ref p), some (.int (nI i))] [] (fm_W μ1 τ) = some (none, fm_W μ2 τ) ∧ FL μ μ2 p 6
  | 0, i, μ1, hf, e => by
    have ei : i = 6 := by omega
    subst ei
    refine ⟨μ1, ?_, hf⟩
    simp (disch := first | assumption | omega | decide) only [i70_0, i70_1, i70_2, i70_3, i70_6, i70_9, i70_9n, i70_10, i70_10n, i70_11n, i70_11, i70_14, i70_15, i70_16, i70_16n, i70_17, i70_20, i70_21, i70_24, i70_24n, i70_25, i70_28, i70_29, i70_30, i70_31, i70_32, i70_35, i70_36, i70_39, i70_40, i70_43, i70_44, i70_45n, i70_45, i70_48, i70_49, i70_52, i70_53, i70_54, i70_54n, i70_55, i70_58, i70_61, i70_64, ix_pv_s, ix_pi_s, zpn, ix_po_s, ix_po_n, ix_ph_s, ix_bk_v, ix_bk_n, zcv, zcv_ne, ↓reduceIte, Nat.reduceEqDiff, zn_m1, zd_lt_p, zd_lt_n, zd_le_p, zd_le_n, zd_eq_p, zd_eq_n, zd_0_p, zd_0_n, zd_0lt_p, zd_0lt_n, zd_le0_p, zd_le0_n, zn_lt0, zn_le0, zn_add, zn_mul, zn_sub, zm_lt, zm_le, zm_eq, zb_1, zb_0, not_true_eq_false, not_false_eq_true, t0_c, t0_g0, t0_g1, t0_g2, t0_g3, t0_g4, t0_g5, t0_g6, t0_g7, t0_g8, t0_g9, t0_g10, t0_s11, t0_g12, t0_s12, t0_g13, t0_g14, t0_g15, t0_g16, t0_c, rw_c, rq_22, rq_23, rq_24, al_22, al_23, al_24]
  | k + 1, i, μ1, hf, e => by
    have hi : i < 6 := by omega
    have hO : spO (52 + 2 * i) := by
      have := sp_O (i := i + 1) (by omega)
      rwa [show 50 + 2 * (i + 1) = 52 + 2 * i by omega] at this
    have r23 : μ1 23 i = nI (52 + 2 * i) := by rw [hf.1 23 (fun j hj => by omega)]; exact h23 i hi
    have kf := cl_sfol (X := X) (d := d + 1) (τ := τ) (μ := μ1) hO hp
    obtain ⟨μ2, hμ2⟩ : ∃ μ2, μ2 = fm_u (fm_u μ1 (52 + 2 * i) 2 (nI p)) (52 + 2 * i) 1 (nI 0) := ⟨_, rfl⟩
    rw [← hμ2] at kf
    have row : ∀ r, r ≠ 52 + 2 * i → μ2 r = μ1 r := fun r a => by rw [hμ2, fm_un a, fm_un a]
    have hst : FL μ μ2 p (i + 1) := by
      refine ⟨fun r hr => ?_, fun j hj => ?_⟩
      · rw [row r (hr i (by omega))]
        exact hf.1 r (fun j hj => hr j (by omega))
      · by_cases ej : j = i
        · subst ej
          refine ⟨by rw [hμ2, fm_uk (by decide), fm_us], by rw [hμ2, fm_us], fun k k1 k2 => ?_⟩
          rw [hμ2, fm_uk k1, fm_uk k2, hf.1 _ (fun j' hj' => by omega)]
        · rw [row _ (by omega)]
          exact hf.2 j (by omega)
    obtain ⟨μ3, a3, f3⟩ := cl_folL hp h23 k (i + 1) μ2 hst (by omega)
    refine ⟨μ3, ?_, f3⟩
    rw [← a3, i70_30]
    simp (disch := first | assumption | omega | decide) only [i70_0, i70_1, i70_2, i70_3, i70_6, i70_9, i70_9n, i70_10, i70_10n, i70_11n, i70_11, i70_14, i70_15, i70_16, i70_16n, i70_17, i70_20, i70_21, i70_24, i70_24n, i70_25, i70_28, i70_29, i70_31, i70_32, i70_35, i70_36, i70_39, i70_40, i70_43, i70_44, i70_45n, i70_45, i70_48, i70_49, i70_52, i70_53, i70_54, i70_54n, i70_55, i70_58, i70_61, i70_64, ix_pv_s, ix_pi_s, zpn, ix_po_s, ix_po_n, ix_ph_s, ix_bk_v, ix_bk_n, zcv, zcv_ne, ↓reduceIte, Nat.reduceEqDiff, zn_m1, zd_lt_p, zd_lt_n, zd_le_p, zd_le_n, zd_eq_p, zd_eq_n, zd_0_p, zd_0_n, zd_0lt_p, zd_0lt_n, zd_le0_p, zd_le0_n, zn_lt0, zn_le0, zn_add, zn_mul, zn_sub, zm_lt, zm_le, zm_eq, zb_1, zb_0, not_true_eq_false, not_false_eq_true, t0_c, t0_g0, t0_g1, t0_g2, t0_g3, t0_g4, t0_g5, t0_g6, t0_g7, t0_g8, t0_g9, t0_g10, t0_s11, t0_g12, t0_s12, t0_g13, t0_g14, t0_g15, t0_g16, t0_c, rw_c, rq_22, rq_23, rq_24, al_22, al_23, al_24, r23, fm_eq, sp_c, kf]
theorem cl_newest {m : Nat} (hm : m ≤ 5) (nb : nbS μ) (h3 : μ 2 3 = nI m) (h24 : ∀ i, i < 6 → μ 24 i = nI (26 + 4 * i)) (h23 : ∀ i, i < 6 → μ 23 i = nI (52 + 2 * i)) : ∃ μ' : fm_M, ix_call X (d + 3) 70 [.ref 0] (fm_W μ τ) = some (none, fm_W μ' τ) ∧ (∀ r, r ≠ 0 → (∀ j, j < 7 → r ≠ 50 + 2 * j) → μ' r = μ r) ∧ μ' 0 11 = nI (26 + 4 * m) ∧ (∀ k, k ≠ 11 → μ' 0 k = μ 0 k) ∧ ∀ j, j < 7 → μ' (50 + 2 * j) 2 = nI (26 + 4 * m) ∧ μ' (50 + 2 * j) 1 = nI 0 ∧ ∀ k, k ≠ 1 → k ≠ 2 → μ' (50 + 2 * j) k = μ (50 + 2 * j) k := by
  have k1 := cl_number (X := X) (d := d + 1) (τ := τ) (k := 3) nb (by decide)
  rw [h3] at k1
  have k2 := cl_slot (X := X) (d := d + 1) (τ := τ) (μ := μ) (m := m) (by omega) (h24 m (by omega)) (by omega)
  have hO : spO 50 := spp_O (u := 6) (by omega)
  have kf := cl_sfol (X := X) (d := d + 2) (τ := τ) (μ := fm_u μ 0 11 (nI (26 + 4 * m))) (p := 26 + 4 * m) hO (by omega)
  obtain ⟨μ1, hμ1⟩ : ∃ μ1, μ1 = fm_u (fm_u (fm_u μ 0 11 (nI (26 + 4 * m))) 50 2 (nI (26 + 4 * m))) 50 1 (nI 0) := ⟨_, rfl⟩
  rw [← hμ1] at kf
  have row : ∀ r, r ≠ 0 → r ≠ 50 → μ1 r = μ r := fun r a b => by rw [hμ1, fm_un b, fm_un b, fm_un a]
  obtain ⟨μ2, a2, f2⟩ := cl_folL (X := X) (d := d + 1) (τ := τ) (μ := μ1) (p := 26 + 4 * m) (by omega) (fun i hi => by rw [row 23 (by decide) (by decide)]; exact h23 i hi) 6 0 μ1 ⟨fun _ _ => rfl, fun j hj => by omega⟩ rfl
  refine ⟨μ2, Eq.trans ?_ a2, fun r r1 r2 => ?_, ?_, fun k hk => ?_, fun j hj => ?_⟩
  · simp (disch := first | assumption | omega | decide) only [e70, i70_0, i70_1, i70_2, i70_3, i70_6, i70_9, i70_9n, i70_10, i70_10n, i70_11n, i70_11, i70_14, i70_15, i70_16, i70_16n, i70_17, i70_20, i70_21, i70_24, i70_24n, i70_25, i70_28, i70_29, i70_31, i70_32, i70_35, i70_36, i70_39, i70_40, i70_43, i70_44, i70_45n, i70_45, i70_48, i70_49, i70_52, i70_53, i70_54, i70_54n, i70_55, i70_58, i70_61, i70_64, ix_pv_s, ix_pi_s, zpn, ix_po_s, ix_po_n, ix_ph_s, ix_bk_v, ix_bk_n, zcv, zcv_ne, ↓reduceIte, Nat.reduceEqDiff, zn_m1, zd_lt_p, zd_lt_n, zd_le_p, zd_le_n, zd_eq_p, zd_eq_n, zd_0_p, zd_0_n, zd_0lt_p, zd_0lt_n, zd_le0_p, zd_le0_n, zn_lt0, zn_le0, zn_add, zn_mul, zn_sub, zm_lt, zm_le, zm_eq, zb_1, zb_0, not_true_eq_false, not_false_eq_true, t0_c, t0_g0, t0_g1, t0_g2, t0_g3, t0_g4, t0_g5, t0_g6, t0_g7, t0_g8, t0_g9, t0_g10, t0_s11, t0_g12, t0_s12, t0_g13, t0_g14, t0_g15, t0_g16, t0_c, rw_c, k1, k2, t0_s11, sp_c, kf]
  · rw [f2.1 r (fun j hj => by have := r2 (j + 1) (by omega); omega), row r r1 (by have := r2 0 (by omega); omega)]
  · rw [f2.1 0 (fun j hj => by omega), hμ1, fm_un (by decide), fm_un (by decide), fm_us]
  · rw [f2.1 0 (fun j hj => by omega), hμ1, fm_un (by decide), fm_un (by decide), fm_uk hk]
  · rcases Nat.eq_zero_or_pos j with h0 | h0
    · subst h0
      rw [f2.1 (50 + 2 * 0) (fun j hj => by omega)]
      refine ⟨by rw [hμ1, fm_uk (by decide), fm_us], by rw [hμ1, fm_us], fun k k1 k2 => ?_⟩
      rw [hμ1, fm_uk k1, fm_uk k2, fm_un (by decide)]
    · obtain ⟨j', rfl⟩ : ∃ j', j = j' + 1 := ⟨j - 1, by omega⟩
      obtain ⟨z1, z2, z3⟩ := f2.2 j' (by omega)
      rw [show 50 + 2 * (j' + 1) = 52 + 2 * j' by omega]
      refine ⟨z1, z2, fun k k1 k2 => ?_⟩
      rw [z3 k k1 k2, row _ (by omega) (by omega)]
/-- rows brought back -/
def bk6 (r n : Nat) (μ μ' : fm_M) : Prop := (∀ q, q ≠ r → q ≠ r + 1 → μ' q = μ q) ∧ (∀ k, k ≠ 4 → μ' r k = μ r k) ∧ μ' r 4 = μ r 5 ∧ ∀ i, i < n → μ' (r + 1) i = μ (r + 2) i
theorem cl_back {r n : Nat} (hA : rwA r n) (h31 : n < 10000) : ∃ μ' : fm_M, ix_call X d 30 [.ref r] (fm_W μ τ) = some (none, fm_W μ' τ) ∧ bk6 r n μ μ' := by
  refine ⟨_, rw_back hA h31, fun q a b => ?_, fun k hk => ?_, fm_us, fun i hi => ?_⟩
  · rw [fm_un a, fm_rn b]
  · rw [fm_uk hk, fm_rn (by omega)]
  · rw [fm_un (by omega), fm_rs, if_pos hi]
end FO
section UD
variable {X : ix_X} {d : Nat} {τ : List fm_D} {μ μ' : fm_M} {S I : Nat → Int32} {N : Nat → Nat} {C : Nat → List Nat} {Q : Nat → Nat}
/-- trees brought back: the first i -/
def bkt (μ μ' : fm_M) (S : Nat → Int32) (Q : Nat → Nat) (n i : Nat) : Prop := (∀ r, r < 76 → μ' r = μ r) ∧ (∀ t, t < n → μ' (Q t) 2 = μ (Q t) 2 ∧ (S (11 + t) = nI 6 → μ' (Q t + 2) = μ (Q t + 2))) ∧ ∀ t, t < i → μ' (Q t) 1 = μ (Q t) 2 ∧ (S (11 + t) = nI 6 → ∀ k, k < 4 → μ' (Q t + 1) k = μ (Q t + 2) k)
theorem cl_bkL {β : fm_M} {m : Nat} (h : QI μ τ S N C Q) (hm : m ≤ N 0) (nb0 : nbS β) (n40 : β 2 4 = nI m) (h22 : β 22 = μ 22) {x1 : Option Value} : ∀ (k i : Nat) (μ1 : fm_M) (x3 : Option Value), bkt β μ1 S Q (N 0) i → i + k = m → ∃ (y2 y3 : Option Value) (μ2 : fm_M), ix_sem X (d + 6) 130 60 [some (.ref 0), x1, some (.int (nI i)), x3] [] (fm_W μ1 τ) = ix_sem X (d + 6) 130 89 [some (.ref 0), x1, y2, y3] [] (fm_W μ2 τ) ∧ bkt β μ2 S Q (N 0) m
  | 0, i, μ1, x3, hp, e => by
    have hb := QI_b h
    have nb : nbS μ1 := by unfold nbS; rw [hp.1 1 (by decide)]; exact nb0
    have k1 := cl_number (X := X) (d := d + 4) (τ := τ) (k := 4) nb (by decide)
    rw [hp.1 2 (by decide), n40] at k1
    have ei : i = m := by omega
    refine ⟨some (.int (nI i)), x3, μ1, ?_, by rw [ei] at hp; exact hp⟩
    simp (disch := first | assumption | omega | decide) only [i130_0, i130_1, i130_4, i130_7, i130_9, i130_10, i130_11, i130_12, i130_15, i130_16, i130_17, i130_20, i130_23, i130_24, i130_27, i130_30, i130_31, i130_34, i130_37, i130_38, i130_41, i130_44, i130_45, i130_48, i130_51, i130_52, i130_55, i130_58, i130_59, i130_60, i130_61, i130_62, i130_63, i130_66, i130_69, i130_70, i130_71, i130_74, i130_74n, i130_75, i130_75n, i130_76n, i130_76, i130_79, i130_79n, i130_80, i130_83, i130_86, i130_90, i130_91, i130_94, i130_95, i130_98, i130_99, i130_102, i130_103, i130_104, i130_107, ix_pv_s, ix_pi_s, zpn, ix_po_s, ix_po_n, ix_ph_s, ix_bk_v, ix_bk_n, zcv, zcv_ne, ↓reduceIte, Nat.reduceEqDiff, zn_m1, zd_lt_p, zd_lt_n, zd_le_p, zd_le_n, zd_eq_p, zd_eq_n, zd_0_p, zd_0_n, zd_0lt_p, zd_0lt_n, zd_le0_p, zd_le0_n, zn_lt0, zn_le0, zn_add, zn_mul, zn_sub, zm_lt, zm_le, zm_eq, zb_1, zb_0, not_true_eq_false, not_false_eq_true, t0_c, t0_g0, t0_g1, t0_g2, t0_g3, t0_g4, t0_g5, t0_g6, t0_g7, t0_g8, t0_g9, t0_g10, t0_s11, t0_g12, t0_s12, t0_g13, t0_g14, t0_g15, t0_g16, t0_c, rw_c, k1]
  | k + 1, i, μ1, x3, hp, e => by
    have hb := QI_b h
    have hi : i < N 0 := by omega
    have nb : nbS μ1 := by unfold nbS; rw [hp.1 1 (by decide)]; exact nb0
    have n4 : μ1 2 4 = nI m := by rw [hp.1 2 (by decide)]; exact n40
    have k1 := cl_number (X := X) (d := d + 4) (τ := τ) (k := 4) nb (by decide)
    rw [n4] at k1
    obtain ⟨w1, w2, _, _⟩ := QI_tree h hi
    have hc := cl_treeAt (X := X) (d := d + 3) (τ := τ) (μ := μ1) (i := i) (q := Q i) nb n4 (by omega) (by omega) (by rw [hp.1 22 (by decide), h22]; exact w1) (by omega)
    have q76 : ∀ t, t < N 0 → 76 ≤ Q t := fun t ht => by
      obtain ⟨c, rest, hO⟩ := QI_trO h ht
      exact hO.2.1
    have q76i := q76 i hi
    rcases QI_kc h hi with ⟨h6, ho⟩ | ⟨h6, c, rest, hO, hc6⟩
    · have kk := cl_oback (X := X) (d := d + 4) (μ := μ1) ho
      have hcl := tr_c (μ := μ1) ho.1
      obtain ⟨μ2, hμ2⟩ : ∃ μ2, μ2 = fm_r (fm_u μ1 (Q i) 1 (μ1 (Q i) 2)) (Q i + 1) (fun j => if j < 4 then μ1 (Q i + 2) j else μ1 (Q i + 1) j) := ⟨_, rfl⟩
      rw [← hμ2] at kk
      have row : ∀ r, r ≠ Q i → r ≠ Q i + 1 → μ2 r = μ1 r := fun r a b => by rw [hμ2, fm_rn b, fm_un a]
      have q1 : ∀ k, k ≠ 1 → μ2 (Q i) k = μ1 (Q i) k := fun k a => by rw [hμ2, fm_rn (by omega), fm_uk a]
      have q2 : μ2 (Q i) 1 = μ1 (Q i) 2 := by rw [hμ2, fm_rn (by omega), fm_us]
      have q3 : ∀ k, k < 4 → μ2 (Q i + 1) k = μ1 (Q i + 2) k := fun k a => by rw [hμ2, fm_rs, if_pos a]
      have hst : bkt β μ2 S Q (N 0) (i + 1) := by
        refine ⟨fun r hr => by rw [row r (by omega) (by omega)]; exact hp.1 r hr, fun t ht => ?_, fun t ht => ?_⟩
        · obtain ⟨a1, a2⟩ := QI_arr h ht ho
          by_cases et : t = i
          · subst et
            exact ⟨by rw [q1 2 (by decide)]; exact (hp.2.1 t ht).1, fun h6' => by rw [row _ (by omega) (by omega)]; exact (hp.2.1 t ht).2 h6'⟩
          · have hs := QI_sep h ht hi et
            refine ⟨by rw [row _ hs a1]; exact (hp.2.1 t ht).1, fun h6' => ?_⟩
            obtain ⟨c1, c2⟩ := QI_arr h hi (QI_told h ht h6').1
            rw [row _ (Ne.symm c2) (by omega)]
            exact (hp.2.1 t ht).2 h6'
        · have htn : t < N 0 := by omega
          obtain ⟨a1, a2⟩ := QI_arr h htn ho
          by_cases et : t = i
          · subst et
            refine ⟨q2.trans (hp.2.1 t htn).1, fun h6' j hj => ?_⟩
            rw [q3 j hj, (hp.2.1 t htn).2 h6']
          · have hs := QI_sep h htn hi et
            obtain ⟨p1, p2⟩ := hp.2.2 t (by omega)
            refine ⟨by rw [row _ hs a1]; exact p1, fun h6' j hj => ?_⟩
            obtain ⟨c1, c2⟩ := QI_arr h hi (QI_told h htn h6').1
            rw [row _ (Ne.symm c1) (by omega)]
            exact p2 h6' j hj
      obtain ⟨y2, y3, μ3, a3, p3⟩ := cl_bkL h hm nb0 n40 h22 k (i + 1) μ2 (some (.ref (Q i))) hst (by omega)
      refine ⟨y2, y3, μ3, ?_, p3⟩
      rw [← a3, i130_60]
      simp (disch := first | assumption | omega | decide) only [i130_0, i130_1, i130_4, i130_7, i130_9, i130_10, i130_11, i130_12, i130_15, i130_16, i130_17, i130_20, i130_23, i130_24, i130_27, i130_30, i130_31, i130_34, i130_37, i130_38, i130_41, i130_44, i130_45, i130_48, i130_51, i130_52, i130_55, i130_58, i130_59, i130_61, i130_62, i130_63, i130_66, i130_69, i130_70, i130_71, i130_74, i130_74n, i130_75, i130_75n, i130_76n, i130_76, i130_79, i130_79n, i130_80, i130_83, i130_86, i130_90, i130_91, i130_94, i130_95, i130_98, i130_99, i130_102, i130_103, i130_104, i130_107, ix_pv_s, ix_pi_s, zpn, ix_po_s, ix_po_n, ix_ph_s, ix_bk_v, ix_bk_n, zcv, zcv_ne, ↓reduceIte, Nat.reduceEqDiff, zn_m1, zd_lt_p, zd_lt_n, zd_le_p, zd_le_n, zd_eq_p, zd_eq_n, zd_0_p, zd_0_n, zd_0lt_p, zd_0lt_n, zd_le0_p, zd_le0_n, zn_lt0, zn_le0, zn_add, zn_mul, zn_sub, zm_lt, zm_le, zm_eq, zb_1, zb_0, not_true_eq_false, not_false_eq_true, t0_c, t0_g0, t0_g1, t0_g2, t0_g3, t0_g4, t0_g5, t0_g6, t0_g7, t0_g8, t0_g9, t0_g10, t0_s11, t0_g12, t0_s12, t0_g13, t0_g14, t0_g15, t0_g16, t0_c, rw_c, k1, hc, hcl, kk]
    · have kk := cl_tback (X := X) (d := d + 5) (μ := μ1) hO
      have hcl := tr_c (μ := μ1) hO
      obtain ⟨μ2, hμ2⟩ : ∃ μ2, μ2 = fm_u μ1 (Q i) 1 (μ1 (Q i) 2) := ⟨_, rfl⟩
      rw [← hμ2] at kk
      have row : ∀ r, r ≠ Q i → μ2 r = μ1 r := fun r a => by rw [hμ2, fm_un a]
      have q1 : ∀ k, k ≠ 1 → μ2 (Q i) k = μ1 (Q i) k := fun k a => by rw [hμ2, fm_uk a]
      have q2 : μ2 (Q i) 1 = μ1 (Q i) 2 := by rw [hμ2, fm_us]
      have hst : bkt β μ2 S Q (N 0) (i + 1) := by
        refine ⟨fun r hr => by rw [row r (by omega)]; exact hp.1 r hr, fun t ht => ?_, fun t ht => ?_⟩
        · by_cases et : t = i
          · subst et
            exact ⟨by rw [q1 2 (by decide)]; exact (hp.2.1 t ht).1, fun h6' => absurd h6' h6⟩
          · have hs := QI_sep h ht hi et
            refine ⟨by rw [row _ hs]; exact (hp.2.1 t ht).1, fun h6' => ?_⟩
            obtain ⟨c1, c2⟩ := QI_arr h hi (QI_told h ht h6').1
            rw [row _ (Ne.symm c2)]
            exact (hp.2.1 t ht).2 h6'
        · have htn : t < N 0 := by omega
          by_cases et : t = i
          · subst et
            exact ⟨q2.trans (hp.2.1 t htn).1, fun h6' => absurd h6' h6⟩
          · have hs := QI_sep h htn hi et
            obtain ⟨p1, p2⟩ := hp.2.2 t (by omega)
            refine ⟨by rw [row _ hs]; exact p1, fun h6' j hj => ?_⟩
            obtain ⟨c1, c2⟩ := QI_arr h hi (QI_told h htn h6').1
            rw [row _ (Ne.symm c1)]
            exact p2 h6' j hj
      obtain ⟨y2, y3, μ3, a3, p3⟩ := cl_bkL h hm nb0 n40 h22 k (i + 1) μ2 (some (.ref (Q i))) hst (by omega)
      refine ⟨y2, y3, μ3, ?_, p3⟩
      rw [← a3, i130_60]
      rcases hc6 with rfl | rfl | rfl | rfl | rfl | rfl <;> simp (disch := first | assumption | omega | decide) only [i130_0, i130_1, i130_4, i130_7, i130_9, i130_10, i130_11, i130_12, i130_15, i130_16, i130_17, i130_20, i130_23, i130_24, i130_27, i130_30, i130_31, i130_34, i130_37, i130_38, i130_41, i130_44, i130_45, i130_48, i130_51, i130_52, i130_55, i130_58, i130_59, i130_61, i130_62, i130_63, i130_66, i130_69, i130_70, i130_71, i130_74, i130_74n, i130_75, i130_75n, i130_76n, i130_76, i130_79, i130_79n, i130_80, i130_83, i130_86, i130_90, i130_91, i130_94, i130_95, i130_98, i130_99, i130_102, i130_103, i130_104, i130_107, ix_pv_s, ix_pi_s, zpn, ix_po_s, ix_po_n, ix_ph_s, ix_bk_v, ix_bk_n, zcv, zcv_ne, ↓reduceIte, Nat.reduceEqDiff, zn_m1, zd_lt_p, zd_lt_n, zd_le_p, zd_le_n, zd_eq_p, zd_eq_n, zd_0_p, zd_0_n, zd_0lt_p, zd_0lt_n, zd_le0_p, zd_le0_n, zn_lt0, zn_le0, zn_add, zn_mul, zn_sub, zm_lt, zm_le, zm_eq, zb_1, zb_0, not_true_eq_false, not_false_eq_true, t0_c, t0_g0, t0_g1, t0_g2, t0_g3, t0_g4, t0_g5, t0_g6, t0_g7, t0_g8, t0_g9, t0_g10, t0_s11, t0_g12, t0_s12, t0_g13, t0_g14, t0_g15, t0_g16, t0_c, rw_c, k1, hc, hcl, kk]
theorem mo_udL : ∀ (k i : Nat) (μ : fm_M), i + k = 924 → ∃ μ' : fm_M, ix_sem X (d + 1) 222 12 [some (.ref 67), some (.int (nI i))] [] (fm_W μ τ) = ix_sem X (d + 1) 222 37 [some (.ref 67), some (.int (nI 924))] [] (fm_W μ' τ) ∧ (∀ r, r ≠ 68 → μ' r = μ r) ∧ (∀ j, j < i → μ' 68 j = μ 68 j) ∧ ∀ j, i ≤ j → j < 924 → μ' 68 j = μ 69 j
  | 0, i, μ, e => by
    have ei : i = 924 := by omega
    subst ei
    refine ⟨μ, ?_, fun _ _ => rfl, fun _ _ => rfl, fun j a b => by omega⟩
    simp (disch := first | assumption | omega | decide) only [i222_0, i222_1, i222_4, i222_7, i222_9, i222_10, i222_11, i222_12, i222_13, i222_16, i222_19, i222_20, i222_23, i222_24, i222_25, i222_28, i222_29, i222_30, i222_31, i222_34, i222_38, i222_41, i222_42, i222_45, i222_46, i222_47, ix_pv_s, ix_pi_s, zpn, ix_po_s, ix_po_n, ix_ph_s, ix_bk_v, ix_bk_n, zcv, zcv_ne, ↓reduceIte, Nat.reduceEqDiff, zn_m1, zd_lt_p, zd_lt_n, zd_le_p, zd_le_n, zd_eq_p, zd_eq_n, zd_0_p, zd_0_n, zd_0lt_p, zd_0lt_n, zd_le0_p, zd_le0_n, zn_lt0, zn_le0, zn_add, zn_mul, zn_sub, zm_lt, zm_le, zm_eq, zb_1, zb_0, not_true_eq_false, not_false_eq_true, mo_c, mo_g0, mo_s0, mo_g1, mo_g2, mo_g3, mo_s3, mo_g4, mo_s4, mo_g5, mo_s5, mo_g6, mo_s6, mo_g7, mo_s7, mo_g8, mo_s8, mo_g9, mo_g10, mo_g11, mo_g12, mo_g13, mo_s13, mo_g14, mo_s14, mo_g15, mo_s15, mo_g16, mo_g17, mo_s17, mo_g18, mo_s18, mo_g19, mo_g20, mo_s20, mo_g21, mo_s21, mo_g22, mo_s22, mo_g23, mo_s23, ra_25, wa_25, al_25, ra_68, wa_68, al_68, ra_69, wa_69, al_69, ra_70, wa_70, al_70, ra_71, wa_71, al_71, ra_72, wa_72, al_72, ra_73, wa_73, al_73, ra_74, wa_74, al_74, ra_75, wa_75, al_75]
  | k + 1, i, μ, e => by
    obtain ⟨μ', a, b, c, f⟩ := mo_udL k (i + 1) (fm_u μ 68 i (μ 69 i)) (by omega)
    refine ⟨μ', ?_, fun r hr => (b r hr).trans (fm_un hr), fun j hj => (c j (by omega)).trans (fm_uk (by omega)), fun j h1 h2 => ?_⟩
    · rw [← a, i222_12]
      simp (disch := first | assumption | omega | decide) only [i222_0, i222_1, i222_4, i222_7, i222_9, i222_10, i222_11, i222_13, i222_16, i222_19, i222_20, i222_23, i222_24, i222_25, i222_28, i222_29, i222_30, i222_31, i222_34, i222_38, i222_41, i222_42, i222_45, i222_46, i222_47, ix_pv_s, ix_pi_s, zpn, ix_po_s, ix_po_n, ix_ph_s, ix_bk_v, ix_bk_n, zcv, zcv_ne, ↓reduceIte, Nat.reduceEqDiff, zn_m1, zd_lt_p, zd_lt_n, zd_le_p, zd_le_n, zd_eq_p, zd_eq_n, zd_0_p, zd_0_n, zd_0lt_p, zd_0lt_n, zd_le0_p, zd_le0_n, zn_lt0, zn_le0, zn_add, zn_mul, zn_sub, zm_lt, zm_le, zm_eq, zb_1, zb_0, not_true_eq_false, not_false_eq_true, mo_c, mo_g0, mo_s0, mo_g1, mo_g2, mo_g3, mo_s3, mo_g4, mo_s4, mo_g5, mo_s5, mo_g6, mo_s6, mo_g7, mo_s7, mo_g8, mo_s8, mo_g9, mo_g10, mo_g11, mo_g12, mo_g13, mo_s13, mo_g14, mo_s14, mo_g15, mo_s15, mo_g16, mo_g17, mo_s17, mo_g18, mo_s18, mo_g19, mo_g20, mo_s20, mo_g21, mo_s21, mo_g22, mo_s22, mo_g23, mo_s23, ra_25, wa_25, al_25, ra_68, wa_68, al_68, ra_69, wa_69, al_69, ra_70, wa_70, al_70, ra_71, wa_71, al_71, ra_72, wa_72, al_72, ra_73, wa_73, al_73, ra_74, wa_74, al_74, ra_75, wa_75, al_75]
    · by_cases ej : j = i
      · subst ej
        exact (c j (by omega)).trans fm_us
      · exact (f j (by omega) h2).trans (by rw [fm_un (by decide)])
theorem mo_fgL : ∀ (k i : Nat) (μ : fm_M), i + k = 7 → ∃ μ' : fm_M, ix_sem X d 148 2 [some (.ref 67), some (.int (nI i))] [] (fm_W μ τ) = some (none, fm_W μ' τ) ∧ (∀ r, r ≠ 73 → μ' r = μ r) ∧ (∀ j, j < i → μ' 73 j = μ 73 j) ∧ ∀ j, i ≤ j → j < 7 → μ' 73 j = nI 0
  | 0, i, μ, e => by
    have ei : i = 7 := by omega
    subst ei
    refine ⟨μ, ?_, fun _ _ => rfl, fun _ _ => rfl, fun j a b => by omega⟩
    simp (disch := first | assumption | omega | decide) only [i148_0, i148_1, i148_2, i148_3, i148_5, i148_8, i148_9, i148_12, i148_13, i148_14, i148_15, i148_18, i148_21, ix_pv_s, ix_pi_s, zpn, ix_po_s, ix_po_n, ix_ph_s, ix_bk_v, ix_bk_n, zcv, zcv_ne, ↓reduceIte, Nat.reduceEqDiff, zn_m1, zd_lt_p, zd_lt_n, zd_le_p, zd_le_n, zd_eq_p, zd_eq_n, zd_0_p, zd_0_n, zd_0lt_p, zd_0lt_n, zd_le0_p, zd_le0_n, zn_lt0, zn_le0, zn_add, zn_mul, zn_sub, zm_lt, zm_le, zm_eq, zb_1, zb_0, not_true_eq_false, not_false_eq_true, mo_c, mo_g0, mo_s0, mo_g1, mo_g2, mo_g3, mo_s3, mo_g4, mo_s4, mo_g5, mo_s5, mo_g6, mo_s6, mo_g7, mo_s7, mo_g8, mo_s8, mo_g9, mo_g10, mo_g11, mo_g12, mo_g13, mo_s13, mo_g14, mo_s14, mo_g15, mo_s15, mo_g16, mo_g17, mo_s17, mo_g18, mo_s18, mo_g19, mo_g20, mo_s20, mo_g21, mo_s21, mo_g22, mo_s22, mo_g23, mo_s23, ra_25, wa_25, al_25, ra_68, wa_68, al_68, ra_69, wa_69, al_69, ra_70, wa_70, al_70, ra_71, wa_71, al_71, ra_72, wa_72, al_72, ra_73, wa_73, al_73, ra_74, wa_74, al_74, ra_75, wa_75, al_75]
  | k + 1, i, μ, e => by
    obtain ⟨μ', a, b, c, f⟩ := mo_fgL k (i + 1) (fm_u μ 73 i (nI 0)) (by omega)
    refine ⟨μ', ?_, fun r hr => (b r hr).trans (fm_un hr), fun j hj => (c j (by omega)).trans (fm_uk (by omega)), fun j h1 h2 => ?_⟩
    · rw [← a, i148_2]
      simp (disch := first | assumption | omega | decide) only [i148_0, i148_1, i148_3, i148_5, i148_8, i148_9, i148_12, i148_13, i148_14, i148_15, i148_18, i148_21, ix_pv_s, ix_pi_s, zpn, ix_po_s, ix_po_n, ix_ph_s, ix_bk_v, ix_bk_n, zcv, zcv_ne, ↓reduceIte, Nat.reduceEqDiff, zn_m1, zd_lt_p, zd_lt_n, zd_le_p, zd_le_n, zd_eq_p, zd_eq_n, zd_0_p, zd_0_n, zd_0lt_p, zd_0lt_n, zd_le0_p, zd_le0_n, zn_lt0, zn_le0, zn_add, zn_mul, zn_sub, zm_lt, zm_le, zm_eq, zb_1, zb_0, not_true_eq_false, not_false_eq_true, mo_c, mo_g0, mo_s0, mo_g1, mo_g2, mo_g3, mo_s3, mo_g4, mo_s4, mo_g5, mo_s5, mo_g6, mo_s6, mo_g7, mo_s7, mo_g8, mo_s8, mo_g9, mo_g10, mo_g11, mo_g12, mo_g13, mo_s13, mo_g14, mo_s14, mo_g15, mo_s15, mo_g16, mo_g17, mo_s17, mo_g18, mo_s18, mo_g19, mo_g20, mo_s20, mo_g21, mo_s21, mo_g22, mo_s22, mo_g23, mo_s23, ra_25, wa_25, al_25, ra_68, wa_68, al_68, ra_69, wa_69, al_69, ra_70, wa_70, al_70, ra_71, wa_71, al_71, ra_72, wa_72, al_72, ra_73, wa_73, al_73, ra_74, wa_74, al_74, ra_75, wa_75, al_75]
    · by_cases ej : j = i
      · subst ej
        exact (c j (by omega)).trans fm_us
      · exact f j (by omega) h2
theorem mo_forgets : ∃ μ' : fm_M, ix_call X d 148 [.ref 67] (fm_W μ τ) = some (none, fm_W μ' τ) ∧ (∀ r, r ≠ 73 → μ' r = μ r) ∧ ∀ j, j < 7 → μ' 73 j = nI 0 := by
  obtain ⟨μ', a, b, c, f⟩ := mo_fgL (X := X) (d := d) (τ := τ) 7 0 μ rfl
  refine ⟨μ', Eq.trans ?_ a, b, fun j hj => f j (by omega) hj⟩
  simp (disch := first | assumption | omega | decide) only [e148, i148_0, i148_1, i148_3, i148_5, i148_8, i148_9, i148_12, i148_13, i148_14, i148_15, i148_18, i148_21, ix_pv_s, ix_pi_s, zpn, ix_po_s, ix_po_n, ix_ph_s, ix_bk_v, ix_bk_n, zcv, zcv_ne, ↓reduceIte, Nat.reduceEqDiff, zn_m1, zd_lt_p, zd_lt_n, zd_le_p, zd_le_n, zd_eq_p, zd_eq_n, zd_0_p, zd_0_n, zd_0lt_p, zd_0lt_n, zd_le0_p, zd_le0_n, zn_lt0, zn_le0, zn_add, zn_mul, zn_sub, zm_lt, zm_le, zm_eq, zb_1, zb_0, not_true_eq_false, not_false_eq_true, mo_c, mo_g0, mo_s0, mo_g1, mo_g2, mo_g3, mo_s3, mo_g4, mo_s4, mo_g5, mo_s5, mo_g6, mo_s6, mo_g7, mo_s7, mo_g8, mo_s8, mo_g9, mo_g10, mo_g11, mo_g12, mo_g13, mo_s13, mo_g14, mo_s14, mo_g15, mo_s15, mo_g16, mo_g17, mo_s17, mo_g18, mo_s18, mo_g19, mo_g20, mo_s20, mo_g21, mo_s21, mo_g22, mo_s22, mo_g23, mo_s23, ra_25, wa_25, al_25, ra_68, wa_68, al_68, ra_69, wa_69, al_69, ra_70, wa_70, al_70, ra_71, wa_71, al_71, ra_72, wa_72, al_72, ra_73, wa_73, al_73, ra_74, wa_74, al_74, ra_75, wa_75, al_75]
/-- nothing known yet of the rain: the model -/
theorem mk2_new {cs : List Nat} {n : Nat} (hn : n ≤ 6) (h68 : μ 68 = S) (hmp : mp_cs S cs) (h73 : ∀ j, j < 7 → μ 73 j = nI 0) : mk2 μ S n cs := by
  refine ⟨⟨hn, by rw [h68]; exact hmp, fun u hu => ⟨0, by decide, h73 u (by omega), fun k hk => absurd hk (by omega)⟩⟩, h68⟩
/-- nothing known yet of the rain: the program -/
theorem ck_new {cs : List Nat} {p n : Nat} (hn : n ≤ 6) (hp : pr_cs μ p cs) (hs : ∀ u, u < n ∨ u = 6 → μ (spp u) 2 = nI p ∧ μ (spp u) 3 = (if u = 6 then nI 9 else nI u) ∧ μ (spp u) 4 = (if u = 6 then nI 9 else S (11 + u)) ∧ μ (spp u) 5 = (if u = 6 then nI 9 else S (17 + u)) ∧ μ (spp u) 1 = nI 0 ∧ μ (spp u + 1) 0 = nI 0) : ck μ S cs p n := by
  refine ⟨hn, hp, fun u hu => ?_⟩
  obtain ⟨a, b, c, e, f, g⟩ := hs u hu
  refine ⟨a, b, c, e, 0, by decide, f, fun k hk => ?_⟩
  have hk0 : k = 0 := by omega
  subst hk0
  exact g
theorem sI_mp (h : sI S N C) : mp_cs S (csN N C) := by
  obtain ⟨i1, i2, i3, i4, i5, i6, i7, i8, i9, i10⟩ := h
  have b2 := i2.2.2.1
  unfold csN
  rcases Nat.eq_zero_or_pos (N 2) with h0 | h0
  · rw [if_pos h0] at i3 ⊢
    exact Or.inl ⟨i3, rfl⟩
  · rw [if_neg (by omega)] at i3 ⊢
    obtain ⟨c1, c2, c3, c4, _, _⟩ := i9 (N 2 - 1) (by omega)
    exact Or.inr ⟨N 2 - 1, by omega, i3, c1, c2, c3, c4⟩
end UD
