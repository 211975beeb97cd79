/-! ===== Spot.ahead ===== -/
--need 24.fell
section AH
variable {X : ix_X} {d : Nat} {τ : List fm_D} {μ : fm_M}
/-- how a spot's call leaves memory -/
def spF (r p : Nat) (μ μ' : fm_M) : Prop := (∀ q, q ≠ r → q ≠ r + 1 → q ≠ p + 2 → μ' q = μ q) ∧ (∀ k, k ≠ 1 → μ' r k = μ r k) ∧ μ' (r + 1) 0 = μ (r + 1) 0
/-- spots: all but what is known stays, and the first sum -/
def cs2 (μ μ' : fm_M) : Prop := (∀ i k, i < 7 → k ≠ 1 → μ' (50 + 2 * i) k = μ (50 + 2 * i) k) ∧ ∀ i, i < 7 → μ' (51 + 2 * i) 0 = μ (51 + 2 * i) 0
theorem cs2_refl {μ : fm_M} : cs2 μ μ := ⟨fun _ _ _ _ => rfl, fun _ _ => rfl⟩
theorem cs2_trans {μ1 μ2 μ3 : fm_M} (h : cs2 μ1 μ2) (h' : cs2 μ2 μ3) : cs2 μ1 μ3 := ⟨fun i k a b => (h'.1 i k a b).trans (h.1 i k a b), fun i a => (h'.2 i a).trans (h.2 i a)⟩
theorem cs2_rows {μ μ' : fm_M} (h : ∀ r, 50 ≤ r → r < 64 → μ' r = μ r) : cs2 μ μ' := ⟨fun i k a _ => by rw [h (50 + 2 * i) (by omega) (by omega)], fun i a => by rw [h (51 + 2 * i) (by omega) (by omega)]⟩
theorem spF_trans {r p : Nat} {μ1 μ2 μ3 : fm_M} (h : spF r p μ1 μ2) (h' : spF r p μ2 μ3) : spF r p μ1 μ3 := ⟨fun q a b c => (h'.1 q a b c).trans (h.1 q a b c), fun k hk => (h'.2.1 k hk).trans (h.2.1 k hk), h'.2.2.trans h.2.2⟩
theorem sp_pk {r p : Nat} (hr : spO r) (hp : pkO p) : r ≠ p ∧ r ≠ p + 1 ∧ r ≠ p + 2 ∧ r + 1 ≠ p ∧ r + 1 ≠ p + 1 ∧ r + 1 ≠ p + 2 := by
  obtain ⟨i, hi, rfl⟩ := sp_cases hr
  have := pk_cases hp
  omega
theorem pr_cs_of {μ μ' : fm_M} {p : Nat} {cs : List Nat} (h : pr_cs μ p cs) (h1 : μ' p = μ p) (h2 : μ' (p + 1) = μ (p + 1)) : pr_cs μ' p cs := by
  obtain ⟨a, b, c, e, f⟩ := h
  exact ⟨a, by rw [h1]; exact b, c, by rw [h2]; exact e, f⟩
theorem ah_loop {r p e : Nat} {cs : List Nat} (hr : spO r) (he : e ≤ 1600) {f : Nat → Int32} : ∀ (j i kn : Nat) (μ : fm_M) (x1 : Option Value), e - i = j → i ≤ 1600 → pr_cs μ p cs → μ r 2 = nI p → (∀ m, f m = ev_r cs m (μ r 3) (μ r 4) (μ r 5)) → μ r 1 = nI kn → kn ≤ i → (∀ k, k ≤ i → μ (r + 1) k = sS f k) →
    ∃ μ' : fm_M, ix_sem X (d + 1) 35 35 [some (.ref r), x1, some (.int (nI e)), some (.int (nI i))] [] (fm_W μ τ) = some (some (.int (sS f e)), fm_W μ' τ) ∧ spF r p μ μ' ∧ ∃ kn', kn' ≤ 1600 ∧ μ' r 1 = nI kn' ∧ ∀ k, k ≤ kn' → μ' (r + 1) k = sS f k
  | 0, i, kn, μ, x1, hj, hi, hp, h2, hf, h1, hkn, hv => by
    have hve := hv e (by omega)
    refine ⟨fm_u μ r 1 (nI (if kn < e then e else kn)), ?_, ⟨fun q a _ _ => fm_un a, fun k hk => fm_uk hk, by rw [fm_un (by omega)]⟩, (if kn < e then e else kn), by split <;> omega, fm_us, fun k hk => ?_⟩
    · rcases Nat.lt_or_ge kn e with h | h
      · rw [if_pos h]
        simp (disch := first | assumption | omega | decide) only [i35_0, i35_1, i35_2, i35_5, i35_8, i35_11, i35_12, i35_13, i35_16n, i35_16, i35_19, i35_20, i35_21, i35_24, i35_25, i35_28, i35_29, i35_30, i35_31, i35_34, i35_35, i35_36, i35_39, i35_40, i35_41, i35_44, i35_45, i35_48, i35_49, i35_50, i35_51, i35_52, i35_55, i35_56, i35_57, i35_58, i35_61, i35_62, i35_63, i35_66, i35_67, i35_70, i35_71, i35_74, i35_77, i35_78, i35_79, i35_82, i35_85, i35_86, i35_87, i35_90, i35_91, i35_94, i35_97, i35_98, i35_101, i35_102, i35_103, ix_pv_s, ix_pi_s, zpn, ix_po_s, ix_po_n, ix_ph_s, ix_bk_v, ix_bk_n, zcv, zcv_ne, ↓reduceIte, Nat.reduceEqDiff, zn_m1, zd_lt_p, zd_lt_n, zd_le_p, zd_le_n, zd_eq_p, zd_eq_n, zd_0_p, zd_0_n, zd_0lt_p, zd_0lt_n, zd_le0_p, zd_le0_n, zn_lt0, zn_le0, zn_add, zn_mul, zn_sub, zm_lt, zm_le, zm_eq, zb_1, zb_0, not_true_eq_false, not_false_eq_true, sp_c, sp_g0, sp_g1, sp_s1, sp_s2, sp_g3, sp_s3, sp_g4, sp_s4, sp_g5, sp_s5, sp_g6, sp_s6, ra_sp1, wa_sp1, al_sp1, h1, fm_un, hve]
      · rw [if_neg (by omega)]
        simp (disch := first | assumption | omega | decide) only [i35_0, i35_1, i35_2, i35_5, i35_8, i35_11, i35_12, i35_13, i35_16n, i35_16, i35_19, i35_20, i35_21, i35_24, i35_25, i35_28, i35_29, i35_30, i35_31, i35_34, i35_35, i35_36, i35_39, i35_40, i35_41, i35_44, i35_45, i35_48, i35_49, i35_50, i35_51, i35_52, i35_55, i35_56, i35_57, i35_58, i35_61, i35_62, i35_63, i35_66, i35_67, i35_70, i35_71, i35_74, i35_77, i35_78, i35_79, i35_82, i35_85, i35_86, i35_87, i35_90, i35_91, i35_94, i35_97, i35_98, i35_101, i35_102, i35_103, ix_pv_s, ix_pi_s, zpn, ix_po_s, ix_po_n, ix_ph_s, ix_bk_v, ix_bk_n, zcv, zcv_ne, ↓reduceIte, Nat.reduceEqDiff, zn_m1, zd_lt_p, zd_lt_n, zd_le_p, zd_le_n, zd_eq_p, zd_eq_n, zd_0_p, zd_0_n, zd_0lt_p, zd_0lt_n, zd_le0_p, zd_le0_n, zn_lt0, zn_le0, zn_add, zn_mul, zn_sub, zm_lt, zm_le, zm_eq, zb_1, zb_0, not_true_eq_false, not_false_eq_true, sp_c, sp_g0, sp_g1, sp_s1, sp_s2, sp_g3, sp_s3, sp_g4, sp_s4, sp_g5, sp_s5, sp_g6, sp_s6, ra_sp1, wa_sp1, al_sp1, h1, fm_un, hve]
    · rw [fm_un (by omega)]
      exact hv k (by split at hk <;> omega)
  | j + 1, i, kn, μ, x1, hj, hi, hp, h2, hf, h1, hkn, hv => by
    have hlt : i < e := by omega
    obtain ⟨n1, n2, n3, n4, n5, n6⟩ := sp_pk hr hp.1
    have hvi := hv i (by omega)
    obtain ⟨μ1, hl, hq⟩ := pr_rain (X := X) (d := d) (τ := τ) (m := i) (a := μ r 3) (b := μ r 4) (c := μ r 5) hp (by omega)
    have er : μ1 r = μ r := hq r n3
    have er1 : μ1 (r + 1) = μ (r + 1) := hq (r + 1) n6
    have hp31 : p < 2147483648 := by have := pk_cases hp.1; omega
    obtain ⟨μ', w1, w2, w3⟩ := ah_loop hr he (f := f) j (i + 1) kn (fm_u μ1 (r + 1) (i + 1) (sS f (i + 1))) x1 (by omega) (by omega) (pr_cs_of hp (by rw [fm_un (Ne.symm n4), hq p (by omega)]) (by rw [fm_un (Ne.symm n5), hq (p + 1) (by omega)])) (by rw [fm_un (by omega), er]; exact h2) (fun m => by rw [fm_un (by omega), er]; exact hf m) (by rw [fm_un (by omega), er]; exact h1) (by omega) (fun k hk => by
      rw [fm_uu, er1]
      by_cases e' : k = i + 1
      · subst e'
        simp [upd]
      · simp only [upd, if_neg e']
        exact hv k (by omega))
    refine ⟨μ', ?_, spF_trans ⟨fun q a b c => by rw [fm_un b, hq q c], fun k hk => by rw [fm_un (by omega), er], by rw [fm_uk (by omega), er1]⟩ w2, w3⟩
    rw [← w1, i35_35]
    have hs : sS f i + ev_r cs i (μ r 3) (μ r 4) (μ r 5) = sS f (i + 1) := by simp only [sS]; rw [hf i]
    simp (disch := first | assumption | omega | decide) only [i35_0, i35_1, i35_2, i35_5, i35_8, i35_11, i35_12, i35_13, i35_16n, i35_16, i35_19, i35_20, i35_21, i35_24, i35_25, i35_28, i35_29, i35_30, i35_31, i35_34, i35_36, i35_39, i35_40, i35_41, i35_44, i35_45, i35_48, i35_49, i35_50, i35_51, i35_52, i35_55, i35_56, i35_57, i35_58, i35_61, i35_62, i35_63, i35_66, i35_67, i35_70, i35_71, i35_74, i35_77, i35_78, i35_79, i35_82, i35_85, i35_86, i35_87, i35_90, i35_91, i35_94, i35_97, i35_98, i35_101, i35_102, i35_103, ix_pv_s, ix_pi_s, zpn, ix_po_s, ix_po_n, ix_ph_s, ix_bk_v, ix_bk_n, zcv, zcv_ne, ↓reduceIte, Nat.reduceEqDiff, zn_m1, zd_lt_p, zd_lt_n, zd_le_p, zd_le_n, zd_eq_p, zd_eq_n, zd_0_p, zd_0_n, zd_0lt_p, zd_0lt_n, zd_le0_p, zd_le0_n, zn_lt0, zn_le0, zn_add, zn_mul, zn_sub, zm_lt, zm_le, zm_eq, zb_1, zb_0, not_true_eq_false, not_false_eq_true, sp_c, sp_g0, sp_g1, sp_s1, sp_s2, sp_g3, sp_s3, sp_g4, sp_s4, sp_g5, sp_s5, sp_g6, sp_s6, sp_g2 h2, ra_sp1, wa_sp1, al_sp1, h1, hvi, pk_c hp.1, hl, hs]
theorem ah_n {r p e : Nat} {cs : List Nat} (hr : spO r) (he : e ≤ 1600) {f : Nat → Int32} {kn : Nat} (hp : pr_cs μ p cs) (h2 : μ r 2 = nI p) (hf : ∀ m, f m = ev_r cs m (μ r 3) (μ r 4) (μ r 5)) (h1 : μ r 1 = nI kn) (hk : kn ≤ 1600) (hv : ∀ k, k ≤ kn → μ (r + 1) k = sS f k) :
    ∃ μ' : fm_M, ix_call X (d + 1) 35 [.ref r, .int (nI e)] (fm_W μ τ) = some (some (.int (sS f e)), fm_W μ' τ) ∧ spF r p μ μ' ∧ ∃ kn', kn' ≤ 1600 ∧ μ' r 1 = nI kn' ∧ ∀ k, k ≤ kn' → μ' (r + 1) k = sS f k := by
  obtain ⟨μ', w1, w2⟩ := ah_loop (X := X) (d := d) (τ := τ) hr he (f := f) _ kn kn μ (some (.int (nI e))) rfl hk hp h2 hf h1 (Nat.le_refl _) hv
  refine ⟨μ', ?_, w2⟩
  have hp31 : p < 2147483648 := by have := pk_cases hp.1; omega
  rw [← w1]
  rcases Nat.eq_zero_or_pos e with h0 | h0
  · subst h0
    simp (disch := first | assumption | omega | decide) only [e35, i35_0, i35_1, i35_2, i35_5, i35_8, i35_11, i35_12, i35_13, i35_16n, i35_16, i35_19, i35_20, i35_21, i35_24, i35_25, i35_28, i35_29, i35_30, i35_31, i35_34, i35_36, i35_39, i35_40, i35_41, i35_44, i35_45, i35_48, i35_49, i35_50, i35_51, i35_52, i35_55, i35_56, i35_57, i35_58, i35_61, i35_62, i35_63, i35_66, i35_67, i35_70, i35_71, i35_74, i35_77, i35_78, i35_79, i35_82, i35_85, i35_86, i35_87, i35_90, i35_91, i35_94, i35_97, i35_98, i35_101, i35_102, i35_103, ix_pv_s, ix_pi_s, zpn, ix_po_s, ix_po_n, ix_ph_s, ix_bk_v, ix_bk_n, zcv, zcv_ne, ↓reduceIte, Nat.reduceEqDiff, zn_m1, zd_lt_p, zd_lt_n, zd_le_p, zd_le_n, zd_eq_p, zd_eq_n, zd_0_p, zd_0_n, zd_0lt_p, zd_0lt_n, zd_le0_p, zd_le0_n, zn_lt0, zn_le0, zn_add, zn_mul, zn_sub, zm_lt, zm_le, zm_eq, zb_1, zb_0, not_true_eq_false, not_false_eq_true, sp_c, sp_g0, sp_g1, sp_s1, sp_s2, sp_g3, sp_s3, sp_g4, sp_s4, sp_g5, sp_s5, sp_g6, sp_s6, sp_g2 h2, ra_sp1, wa_sp1, al_sp1, h1]
  · simp (disch := first | assumption | omega | decide) only [e35, i35_0, i35_1, i35_2, i35_5, i35_8, i35_11, i35_12, i35_13, i35_16n, i35_16, i35_19, i35_20, i35_21, i35_24, i35_25, i35_28, i35_29, i35_30, i35_31, i35_34, i35_36, i35_39, i35_40, i35_41, i35_44, i35_45, i35_48, i35_49, i35_50, i35_51, i35_52, i35_55, i35_56, i35_57, i35_58, i35_61, i35_62, i35_63, i35_66, i35_67, i35_70, i35_71, i35_74, i35_77, i35_78, i35_79, i35_82, i35_85, i35_86, i35_87, i35_90, i35_91, i35_94, i35_97, i35_98, i35_101, i35_102, i35_103, ix_pv_s, ix_pi_s, zpn, ix_po_s, ix_po_n, ix_ph_s, ix_bk_v, ix_bk_n, zcv, zcv_ne, ↓reduceIte, Nat.reduceEqDiff, zn_m1, zd_lt_p, zd_lt_n, zd_le_p, zd_le_n, zd_eq_p, zd_eq_n, zd_0_p, zd_0_n, zd_0lt_p, zd_0lt_n, zd_le0_p, zd_le0_n, zn_lt0, zn_le0, zn_add, zn_mul, zn_sub, zm_lt, zm_le, zm_eq, zb_1, zb_0, not_true_eq_false, not_false_eq_true, sp_c, sp_g0, sp_g1, sp_s1, sp_s2, sp_g3, sp_s3, sp_g4, sp_s4, sp_g5, sp_s5, sp_g6, sp_s6, sp_g2 h2, ra_sp1, wa_sp1, al_sp1, h1]
theorem ah_neg {r p : Nat} {x : Int32} {cs : List Nat} (hr : spO r) (hx : x < 0) {f : Nat → Int32} {kn : Nat} (hp : pr_cs μ p cs) (h2 : μ r 2 = nI p) (hf : ∀ m, f m = ev_r cs m (μ r 3) (μ r 4) (μ r 5)) (h1 : μ r 1 = nI kn) (hk : kn ≤ 1600) (hv : ∀ k, k ≤ kn → μ (r + 1) k = sS f k) :
    ∃ μ' : fm_M, ix_call X (d + 1) 35 [.ref r, .int x] (fm_W μ τ) = some (some (.int (nI 0)), fm_W μ' τ) ∧ spF r p μ μ' ∧ ∃ kn', kn' ≤ 1600 ∧ μ' r 1 = nI kn' ∧ ∀ k, k ≤ kn' → μ' (r + 1) k = sS f k := by
  obtain ⟨μ', w1, w2⟩ := ah_loop (X := X) (d := d) (τ := τ) (e := 0) hr (by omega) (f := f) _ kn kn μ (some (.int x)) rfl hk hp h2 hf h1 (Nat.le_refl _) hv
  refine ⟨μ', ?_, w2⟩
  have hp31 : p < 2147483648 := by have := pk_cases hp.1; omega
  rw [show sS f 0 = nI 0 from rfl] at w1
  rw [← w1]
  simp (disch := first | assumption | omega | decide) only [e35, i35_0, i35_1, i35_2, i35_5, i35_8, i35_11, i35_12, i35_13, i35_16n, i35_16, i35_19, i35_20, i35_21, i35_24, i35_25, i35_28, i35_29, i35_30, i35_31, i35_34, i35_36, i35_39, i35_40, i35_41, i35_44, i35_45, i35_48, i35_49, i35_50, i35_51, i35_52, i35_55, i35_56, i35_57, i35_58, i35_61, i35_62, i35_63, i35_66, i35_67, i35_70, i35_71, i35_74, i35_77, i35_78, i35_79, i35_82, i35_85, i35_86, i35_87, i35_90, i35_91, i35_94, i35_97, i35_98, i35_101, i35_102, i35_103, ix_pv_s, ix_pi_s, zpn, ix_po_s, ix_po_n, ix_ph_s, ix_bk_v, ix_bk_n, zcv, zcv_ne, ↓reduceIte, Nat.reduceEqDiff, zn_m1, zd_lt_p, zd_lt_n, zd_le_p, zd_le_n, zd_eq_p, zd_eq_n, zd_0_p, zd_0_n, zd_0lt_p, zd_0lt_n, zd_le0_p, zd_le0_n, zn_lt0, zn_le0, zn_add, zn_mul, zn_sub, zm_lt, zm_le, zm_eq, zb_1, zb_0, not_true_eq_false, not_false_eq_true, sp_c, sp_g0, sp_g1, sp_s1, sp_s2, sp_g3, sp_s3, sp_g4, sp_s4, sp_g5, sp_s5, sp_g6, sp_s6, sp_g2 h2, ra_sp1, wa_sp1, al_sp1, h1, zx_gt hx, hx, zn_lt00, zx_gt (a := 0) hx]
end AH
