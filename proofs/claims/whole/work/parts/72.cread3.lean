/-! ===== the program reads a park ===== -/
--need 71.cread2
section FT
variable {n : Nat} {T : Nat → Int32}
/-- where a piece goes wrong lies in the text -/
def flt (P : Nat → pT) : Prop := ∀ p z, p ≤ n → P p = .inl z → z ≤ n
theorem num_flt {p z : Nat} (hp : p ≤ n) (h : numS n T p = .inl z) : z ≤ n := by
  unfold numS at h
  split at h
  · split at h <;> simp at h
  · simp only [Sum.inl.injEq] at h
    omega
theorem sg_ne {p k : Nat} (hk : k < 6) (h : ¬ idxV k (sg n T p) (tl k) 0 = -1) : p < n := by
  by_cases hp : p < n
  · exact hp
  · refine absurd ?_ h
    have e : sg n T p = -1 := if_neg hp
    rw [e]
    exact idx_m1 hk (tl k) 0 (by omega)
theorem test_flt : flt (n := n) (testS n T) := by
  intro p z hp h
  unfold testS at h
  split at h
  · simp only [Sum.inl.injEq] at h
    omega
  · rename_i h1
    have l1 : p < n := sg_ne (k := 4) (by decide) h1
    split at h
    · simp only [Sum.inl.injEq] at h
      omega
    · rename_i h2
      have l2 : p + 1 < n := sg_ne (k := 5) (by decide) h2
      split at h
      · rename_i z' hz
        simp only [Sum.inl.injEq] at h
        have := num_flt (by omega) hz
        omega
      · simp at h
theorem pb_fl {r : pT} {f : Nat → pT} {z : Nat} (h : pb r f = .inl z) : r = .inl z ∨ ∃ q l, r = .inr (q, l) ∧ f q = .inl z := by
  cases r with
  | inl e => exact Or.inl h
  | inr x =>
    obtain ⟨q, l⟩ := x
    simp only [pb] at h
    cases hf : f q with
    | inl e => rw [hf] at h; exact Or.inr ⟨q, l, rfl, by rw [hf]; exact h⟩
    | inr y => rw [hf] at h; simp at h
theorem loop_flt {P : Nat → pT} (hP : adv (n := n) P) (hF : flt (n := n) P) : ∀ (k p : Nat) (w : Bool) (z : Nat), p ≤ n → loopS n T P k p w = .inl z → z ≤ n
  | 0, p, w, z, hp, h => by
    cases w <;> simp [loopS, ow, em] at h
  | k + 1, p, w, z, hp, h => by
    rw [loopS] at h
    split at h
    · rename_i h1
      have l1 := sg_lt (by decide) h1
      rcases pb_fl h with h2 | ⟨q, l, h2, h3⟩
      · exact hF _ _ (by omega) h2
      · obtain ⟨a1, a2, a3⟩ := hP _ _ _ h2
        rcases pb_fl h3 with h4 | ⟨q', l', h4, h5⟩
        · simp [em] at h4
        · simp only [em, Sum.inr.injEq, Prod.mk.injEq] at h4
          obtain ⟨rfl, _⟩ := h4
          exact loop_flt hP hF k q w z a2 h5
    · split at h
      · rename_i h1
        have l1 := sg_lt (by decide) h1
        rcases pb_fl h with h2 | ⟨q, l, h2, h3⟩
        · cases w <;> simp [ow, em] at h2
        · have e := ow_at h2
          subst e
          rcases pb_fl h3 with h4 | ⟨q', l', h4, h5⟩
          · exact hF _ _ (by omega) h4
          · obtain ⟨a1, a2, a3⟩ := hP _ _ _ h4
            exact loop_flt hP hF k q' true z a2 h5
      · cases w <;> simp [ow, em] at h
theorem cho_flt {P : Nat → pT} (hP : adv (n := n) P) (hF : flt (n := n) P) : flt (n := n) (choS n T P) := by
  intro p z hp h
  rcases pb_fl h with h2 | ⟨q, l, h2, h3⟩
  · exact hF _ _ hp h2
  · obtain ⟨a1, a2, a3⟩ := hP _ _ _ h2
    exact loop_flt hP hF 100 q false z a2 h3
theorem par_flt : ∀ d, flt (n := n) (parS n T d)
  | 0 => by
    intro p z hp h
    rw [parS] at h
    split at h
    · simp only [Sum.inl.injEq] at h
      omega
    · exact test_flt p z hp h
  | d + 1 => by
    intro p z hp h
    rw [parS] at h
    split at h
    · rename_i h1
      have l1 := sg_lt (by decide) h1
      rcases pb_fl h with h2 | ⟨q, l, h2, h3⟩
      · exact par_flt d _ _ (by omega) h2
      · simp [em] at h3
    · split at h
      · rename_i h1
        have l1 := sg_lt (by decide) h1
        rcases pb_fl h with h2 | ⟨q, l, h2, h3⟩
        · exact cho_flt (par_adv d) (par_flt d) _ _ (by omega) h2
        · obtain ⟨a1, a2, a3⟩ := cho_adv (par_adv d) _ _ _ h2
          unfold cloS at h3
          split at h3
          · simp at h3
          · simp only [Sum.inl.injEq] at h3
            omega
      · exact test_flt p z hp h
theorem word_flt {k : Nat} (hk : k < 6) : ∀ (m i p z : Nat), i + m ≤ tl k → p ≤ n → wordL n T k m i p = .inl z → z ≤ n
  | 0, i, p, z, _, hp, h => by simp [wordL] at h
  | m + 1, i, p, z, hi, hp, h => by
    have hb := (tx_by hk (show i < tl k by omega)).2
    rw [wordL] at h
    split at h
    · rename_i h1
      have l1 := sg_lt (by omega) h1
      exact word_flt hk m (i + 1) (p + 1) z (by omega) (by omega) h
    · simp only [Sum.inl.injEq] at h
      omega
theorem word_in {k : Nat} (hk : k < 6) : ∀ (m i p q : Nat), i + m ≤ tl k → p ≤ n → wordL n T k m i p = .inr q → q ≤ n
  | 0, i, p, q, _, hp, h => by
    simp only [wordL, Sum.inr.injEq] at h
    omega
  | m + 1, i, p, q, hi, hp, h => by
    have hb := (tx_by hk (show i < tl k by omega)).2
    rw [wordL] at h
    split at h
    · rename_i h1
      have l1 := sg_lt (by omega) h1
      exact word_in hk m (i + 1) (p + 1) q (by omega) (by omega) h
    · simp at h
theorem tl_w {k : Nat} (hk : k < 4) : 0 + 5 ≤ tl k := by
  have key : ∀ k : Fin 4, 0 + 5 ≤ tl k := by decide +kernel
  exact key ⟨k, hk⟩
theorem wn_flt {k p z : Nat} (hk : k < 4) (hp : p ≤ n) (h : wnS n T k p = .inl z) : z ≤ n := by
  unfold wnS at h
  split at h
  · rename_i z' hz
    simp only [Sum.inl.injEq] at h
    have := word_flt (by omega) _ _ _ _ (tl_w hk) hp hz
    omega
  · rename_i q hq
    exact num_flt (word_in (by omega) _ _ _ _ (tl_w hk) hp hq) h
theorem rain_flt {k a p z : Nat} (hk : k < 4) (hp : p ≤ n) (h : rainS n T k a p = .inl z) : z ≤ n := by
  unfold rainS at h
  split at h
  · rename_i z' hz
    simp only [Sum.inl.injEq] at h
    have := wn_flt hk hp hz
    omega
  · rename_i q v hq
    have := wn_ok hk hq
    split at h
    · rename_i h1
      have l1 := sg_lt (by decide) h1
      rcases pb_fl h with h2 | ⟨q, l, h2, h3⟩
      · exact cho_flt (par_adv 5) (par_flt 5) _ _ (by omega) h2
      · simp [em] at h3
    · simp only [Sum.inl.injEq] at h
      omega
theorem clau_flt {p sk wt z : Nat} (hp : p ≤ n) (h : clauS n T p sk wt = .inl z) : z ≤ n := by
  unfold clauS at h
  split at h
  · split at h
    · rename_i z' hz
      simp only [Sum.inl.injEq] at h
      have := wn_flt (by decide) hp hz
      omega
    · simp at h
  · split at h
    · split at h
      · rename_i z' hz
        simp only [Sum.inl.injEq] at h
        have := wn_flt (by decide) hp hz
        omega
      · simp at h
    · split at h
      · split at h
        · rename_i z' hz
          simp only [Sum.inl.injEq] at h
          have := rain_flt (by decide) hp hz
          omega
        · simp at h
      · split at h
        · split at h
          · rename_i z' hz
            simp only [Sum.inl.injEq] at h
            have := rain_flt (by decide) hp hz
            omega
          · simp at h
        · simp only [Sum.inl.injEq] at h
          omega
theorem cls_flt : ∀ (m p : Nat) (cs : List Nat) (sk wt z : Nat), p ≤ n → sk ≤ 99 → wt ≤ 99 → clsS n T m p cs sk wt = .inl z → z ≤ n
  | 0, p, cs, sk, wt, z, hp, _, _, h => by
    rw [clsS] at h
    split at h
    · simp at h
    · simp only [Sum.inl.injEq] at h
      omega
  | m + 1, p, cs, sk, wt, z, hp, h1, h2, h => by
    rw [clsS] at h
    split at h
    · simp at h
    · split at h
      · rename_i h3
        have l1 := sg_lt (by decide) h3
        split at h
        · rename_i z' hz
          simp only [Sum.inl.injEq] at h
          have := clau_flt (by omega) hz
          omega
        · rename_i q cs' sk2 wt2 hc
          obtain ⟨a1, a2, a3, a4, a5, a6⟩ := clau_ok h1 h2 hc
          exact cls_flt m q _ _ _ z a2 a4 a5 h
      · simp only [Sum.inl.injEq] at h
        omega
theorem park_flt {z : Nat} (h : parkS n T = .inl z) : z ≤ n := by
  unfold parkS at h
  split at h
  · rename_i z' hz
    simp only [Sum.inl.injEq] at h
    have := clau_flt (by omega) hz
    omega
  · rename_i q cs sk2 wt2 hc
    obtain ⟨a1, a2, a3, a4, a5, a6⟩ := clau_ok (by decide) (by decide) hc
    exact cls_flt 9 q _ _ _ z a2 a4 a5 h
end FT
/-- a park read: the program's memory after it -/
def RR (μ' : fm_M) (r : Nat) (res : Nat ⊕ (List Nat × Nat × Nat)) (v : Int32) : Prop := match res with
  | .inl e => v = nI e
  | .inr (l, sk, wt) => v = -1 ∧ μ' r 3 = nI l.length ∧ (∀ i, i < l.length → μ' (r + 1) i = nI (l.getD i 0)) ∧ μ' r 0 = nI sk ∧ μ' r 1 = nI wt
section CD
variable {X : ix_X} {d e : Nat} {τ : List fm_D} {r n : Nat} {T : Nat → Int32} {x1 x2 x3 : Option Value}
theorem c_step0 {μ : fm_M} (hr : pkO r) (hn : n ≤ 100) (h1 : μ r 6 = nI n) (h2 : ∀ i, i < n → μ (r + 3) i = T i) (h3 : μ r 7 = -1) (h5 : μ r 3 = nI 0) : ∃ μ' : fm_M, ix_call X d 11 [.ref r] (fm_W μ τ) = some (none, fm_W μ' τ) ∧ PS μ' r n T 0 [] ∧ pf r μ μ' := by
  have hr6 := pk_cases hr
  have m1 : (-1 : Int32) + nI 1 = nI 0 := by decide
  refine ⟨fm_u (fm_u μ r 7 (nI 0)) r 8 (sg n T 0), ?_, ⟨?_, fun i hi => ?_, ?_, fm_us, ?_, fun i hi => absurd hi (by simp), by omega, by simp⟩, ⟨fun q a b => by rw [fm_un a, fm_un a], fun k a b c e => by rw [fm_uk c, fm_uk b]⟩⟩
  · by_cases hq : 0 < n
    · have e : sg n T 0 = T 0 := if_pos hq
      have e2 := h2 0 hq
      rw [e]
      simp (disch := first | assumption | omega | decide) only [e11, i11_0, i11_1, i11_2, i11_5, i11_6, i11_7, i11_10, i11_11, i11_12, i11_15, i11_18, i11_19, i11_22, i11_23, i11_26, i11_29, i11_30, i11_33, i11_34, i11_37, i11_38, i11_41, i11_42, i11_45, i11_46, i11_49, i11_50, i11_53, i11_54, i11_57, ix_pv_s, ix_pi_s, zpn, ix_po_s, ix_po_n, ix_ph_s, ix_bk_v, ix_bk_n, zcv, zcv_ne, ↓reduceIte, Nat.reduceEqDiff, zn_m1, zd_lt_p, zd_lt_n, zd_le_p, zd_le_n, zd_eq_p, zd_eq_n, zd_0_p, zd_0_n, zd_0lt_p, zd_0lt_n, zd_le0_p, zd_le0_n, zn_lt0, zn_le0, zn_add, zn_mul, zn_sub, zm_lt, zm_le, zm_eq, zb_1, zb_0, not_true_eq_false, not_false_eq_true, pk_c, pk_g0, pk_s0, pk_g1, pk_s1, pk_g2, pk_g3, pk_s3, pk_g4, pk_g5, pk_g6, pk_s6, pk_g7, pk_s7, pk_g8, pk_s8, pk_g9, pk_s9, ra_pk1, wa_pk1, al_pk1, ra_pk2, wa_pk2, al_pk2, ra_pk3, wa_pk3, al_pk3, h3, h1, m1, fm_us, fm_uk, fm_un, e2]
    · have e : sg n T 0 = -1 := if_neg hq
      rw [e]
      simp (disch := first | assumption | omega | decide) only [e11, i11_0, i11_1, i11_2, i11_5, i11_6, i11_7, i11_10, i11_11, i11_12, i11_15, i11_18, i11_19, i11_22, i11_23, i11_26, i11_29, i11_30, i11_33, i11_34, i11_37, i11_38, i11_41, i11_42, i11_45, i11_46, i11_49, i11_50, i11_53, i11_54, i11_57, ix_pv_s, ix_pi_s, zpn, ix_po_s, ix_po_n, ix_ph_s, ix_bk_v, ix_bk_n, zcv, zcv_ne, ↓reduceIte, Nat.reduceEqDiff, zn_m1, zd_lt_p, zd_lt_n, zd_le_p, zd_le_n, zd_eq_p, zd_eq_n, zd_0_p, zd_0_n, zd_0lt_p, zd_0lt_n, zd_le0_p, zd_le0_n, zn_lt0, zn_le0, zn_add, zn_mul, zn_sub, zm_lt, zm_le, zm_eq, zb_1, zb_0, not_true_eq_false, not_false_eq_true, pk_c, pk_g0, pk_s0, pk_g1, pk_s1, pk_g2, pk_g3, pk_s3, pk_g4, pk_g5, pk_g6, pk_s6, pk_g7, pk_s7, pk_g8, pk_s8, pk_g9, pk_s9, ra_pk1, wa_pk1, al_pk1, ra_pk2, wa_pk2, al_pk2, ra_pk3, wa_pk3, al_pk3, h3, h1, m1, fm_us, fm_uk, fm_un]
  · rw [fm_uk (by decide), fm_uk (by decide)]; exact h1
  · rw [fm_un (by omega), fm_un (by omega)]; exact h2 i hi
  · rw [fm_uk (by decide), fm_us]
  · rw [fm_uk (by decide), fm_uk (by decide)]; exact h5
/-- the text is copied -/
theorem c_copy (hr : pkO r) (hn : n ≤ 100) : ∀ (m i : Nat) (μ : fm_M), i + m = n → μ r 6 = nI n → μ 4 1 = nI 1 → μ 4 4 = nI n → (∀ j, j < n → μ 5 j = T j) → (∀ j, j < i → μ (r + 3) j = T j) → ∃ (y : Option Value) (μ' : fm_M), ix_sem X (d + 1) 10 34 [some (.ref r), some (.ref 4), some (.int (nI i)), x3] [] (fm_W μ τ) = ix_sem X (d + 1) 10 60 [some (.ref r), some (.ref 4), y, x3] [] (fm_W μ' τ) ∧ (∀ q, q ≠ r + 3 → μ' q = μ q) ∧ ∀ j, j < n → μ' (r + 3) j = T j
  | 0, i, μ, hi, h6, h1, h4, hT, hc => by
    have hi' : i = n := hi
    subst hi'
    refine ⟨some (.int (nI i)), μ, ?_, fun _ _ => rfl, hc⟩
    simp (disch := first | assumption | omega | decide) only [i10_0, i10_1, i10_3, i10_6, i10_7, i10_8, i10_11, i10_12, i10_13, i10_16, i10_17, i10_18, i10_21, i10_22, i10_25, i10_26, i10_29, i10_32, i10_33, i10_34, i10_35, i10_36, i10_39, i10_42, i10_43, i10_46, i10_47, i10_48, i10_49, i10_50, i10_53, i10_54, i10_57, i10_61, i10_62, i10_65, i10_66, i10_69, i10_70, i10_73, i10_74, i10_75, i10_76, i10_77, i10_79, i10_82, i10_83, i10_86, i10_87, i10_90, i10_91, i10_94, i10_95, i10_97, i10_100, i10_103, i10_104, i10_107, i10_110, i10_111, i10_114, i10_115, i10_116, i10_119, i10_122, i10_123, i10_126, i10_127, i10_130, i10_131, i10_134, i10_135, i10_138, i10_139, i10_142, ix_pv_s, ix_pi_s, zpn, ix_po_s, ix_po_n, ix_ph_s, ix_bk_v, ix_bk_n, zcv, zcv_ne, ↓reduceIte, Nat.reduceEqDiff, zn_m1, zd_lt_p, zd_lt_n, zd_le_p, zd_le_n, zd_eq_p, zd_eq_n, zd_0_p, zd_0_n, zd_0lt_p, zd_0lt_n, zd_le0_p, zd_le0_n, zn_lt0, zn_le0, zn_add, zn_mul, zn_sub, zm_lt, zm_le, zm_eq, zb_1, zb_0, not_true_eq_false, not_false_eq_true, pk_c, pk_g0, pk_s0, pk_g1, pk_s1, pk_g2, pk_g3, pk_s3, pk_g4, pk_g5, pk_g6, pk_s6, pk_g7, pk_s7, pk_g8, pk_s8, pk_g9, pk_s9, h6]
  | m + 1, i, μ, hi, h6, h1, h4, hT, hc => by
    have hr6 := pk_cases hr
    have hA : rwA 4 100 := ⟨rfl, rfl, rfl⟩
    have hO : rwO 4 := rfl
    have kc := rw_cell (X := X) (d := d) (τ := τ) (μ := μ) (i := i) (c := 0) hA h1 h4 (by omega) (by decide) (by omega) (by decide) (by omega) (by decide)
    rw [show i * 1 + 0 = i by omega, hT i (by omega)] at kc
    obtain ⟨y, μ2, a2, f2, t2⟩ := c_copy hr hn m (i + 1) (fm_u μ (r + 3) i (T i)) (by omega) (by rw [fm_un (by omega)]; exact h6) (by rw [fm_un (by omega)]; exact h1) (by rw [fm_un (by omega)]; exact h4) (fun j hj => by rw [fm_un (by omega)]; exact hT j hj) (fun j hj => by
      by_cases ej : j = i
      · subst ej
        rw [fm_us]
      · rw [fm_uk ej]
        exact hc j (by omega))
    refine ⟨y, μ2, ?_, fun q hq => (f2 q hq).trans (fm_un hq), t2⟩
    rw [← a2, i10_34]
    simp (disch := first | assumption | omega | decide) only [i10_0, i10_1, i10_3, i10_6, i10_7, i10_8, i10_11, i10_12, i10_13, i10_16, i10_17, i10_18, i10_21, i10_22, i10_25, i10_26, i10_29, i10_32, i10_33, i10_35, i10_36, i10_39, i10_42, i10_43, i10_46, i10_47, i10_48, i10_49, i10_50, i10_53, i10_54, i10_57, i10_61, i10_62, i10_65, i10_66, i10_69, i10_70, i10_73, i10_74, i10_75, i10_76, i10_77, i10_79, i10_82, i10_83, i10_86, i10_87, i10_90, i10_91, i10_94, i10_95, i10_97, i10_100, i10_103, i10_104, i10_107, i10_110, i10_111, i10_114, i10_115, i10_116, i10_119, i10_122, i10_123, i10_126, i10_127, i10_130, i10_131, i10_134, i10_135, i10_138, i10_139, i10_142, ix_pv_s, ix_pi_s, zpn, ix_po_s, ix_po_n, ix_ph_s, ix_bk_v, ix_bk_n, zcv, zcv_ne, ↓reduceIte, Nat.reduceEqDiff, zn_m1, zd_lt_p, zd_lt_n, zd_le_p, zd_le_n, zd_eq_p, zd_eq_n, zd_0_p, zd_0_n, zd_0lt_p, zd_0lt_n, zd_le0_p, zd_le0_n, zn_lt0, zn_le0, zn_add, zn_mul, zn_sub, zm_lt, zm_le, zm_eq, zb_1, zb_0, not_true_eq_false, not_false_eq_true, pk_c, pk_g0, pk_s0, pk_g1, pk_s1, pk_g2, pk_g3, pk_s3, pk_g4, pk_g5, pk_g6, pk_s6, pk_g7, pk_s7, pk_g8, pk_s8, pk_g9, pk_s9, ra_pk1, wa_pk1, al_pk1, ra_pk2, wa_pk2, al_pk2, ra_pk3, wa_pk3, al_pk3, rw_c, rw_g0, rw_s0, rw_g1, rw_s1, rw_g2, rw_g3, rw_g4, rw_s4, rw_g5, rw_s5, h6, kc]
theorem c_rd0 {i p : Nat} {μ : fm_M} (hr : pkO r) (hi : i ≤ 10) (h7 : μ r 7 = nI p) : ix_sem X d 10 76 [some (.ref r), x1, some (.int (nI 0)), some (.int (nI i))] [] (fm_W μ τ) = some (some (.int (nI p)), fm_W μ τ) := by
  by_cases q : i < 10
  · simp (disch := first | assumption | omega | decide) only [i10_0, i10_1, i10_3, i10_6, i10_7, i10_8, i10_11, i10_12, i10_13, i10_16, i10_17, i10_18, i10_21, i10_22, i10_25, i10_26, i10_29, i10_32, i10_33, i10_34, i10_35, i10_36, i10_39, i10_42, i10_43, i10_46, i10_47, i10_48, i10_49, i10_50, i10_53, i10_54, i10_57, i10_60, i10_61, i10_62, i10_65, i10_66, i10_69, i10_70, i10_73, i10_74, i10_75, i10_76, i10_77, i10_79, i10_82, i10_83, i10_86, i10_87, i10_90, i10_91, i10_94, i10_95, i10_97, i10_100, i10_103, i10_104, i10_107, i10_110, i10_111, i10_114, i10_115, i10_116, i10_119, i10_122, i10_123, i10_126, i10_127, i10_130, i10_131, i10_134, i10_135, i10_138, i10_139, i10_142, ix_pv_s, ix_pi_s, zpn, ix_po_s, ix_po_n, ix_ph_s, ix_bk_v, ix_bk_n, zcv, zcv_ne, ↓reduceIte, Nat.reduceEqDiff, zn_m1, zd_lt_p, zd_lt_n, zd_le_p, zd_le_n, zd_eq_p, zd_eq_n, zd_0_p, zd_0_n, zd_0lt_p, zd_0lt_n, zd_le0_p, zd_le0_n, zn_lt0, zn_le0, zn_add, zn_mul, zn_sub, zm_lt, zm_le, zm_eq, zb_1, zb_0, not_true_eq_false, not_false_eq_true, pk_c, pk_g0, pk_s0, pk_g1, pk_s1, pk_g2, pk_g3, pk_s3, pk_g4, pk_g5, pk_g6, pk_s6, pk_g7, pk_s7, pk_g8, pk_s8, pk_g9, pk_s9, h7]
  · have : i = 10 := by omega
    subst this
    simp (disch := first | assumption | omega | decide) only [i10_0, i10_1, i10_3, i10_6, i10_7, i10_8, i10_11, i10_12, i10_13, i10_16, i10_17, i10_18, i10_21, i10_22, i10_25, i10_26, i10_29, i10_32, i10_33, i10_34, i10_35, i10_36, i10_39, i10_42, i10_43, i10_46, i10_47, i10_48, i10_49, i10_50, i10_53, i10_54, i10_57, i10_60, i10_61, i10_62, i10_65, i10_66, i10_69, i10_70, i10_73, i10_74, i10_75, i10_76, i10_77, i10_79, i10_82, i10_83, i10_86, i10_87, i10_90, i10_91, i10_94, i10_95, i10_97, i10_100, i10_103, i10_104, i10_107, i10_110, i10_111, i10_114, i10_115, i10_116, i10_119, i10_122, i10_123, i10_126, i10_127, i10_130, i10_131, i10_134, i10_135, i10_138, i10_139, i10_142, ix_pv_s, ix_pi_s, zpn, ix_po_s, ix_po_n, ix_ph_s, ix_bk_v, ix_bk_n, zcv, zcv_ne, ↓reduceIte, Nat.reduceEqDiff, zn_m1, zd_lt_p, zd_lt_n, zd_le_p, zd_le_n, zd_eq_p, zd_eq_n, zd_0_p, zd_0_n, zd_0lt_p, zd_0lt_n, zd_le0_p, zd_le0_n, zn_lt0, zn_le0, zn_add, zn_mul, zn_sub, zm_lt, zm_le, zm_eq, zb_1, zb_0, not_true_eq_false, not_false_eq_true, pk_c, pk_g0, pk_s0, pk_g1, pk_s1, pk_g2, pk_g3, pk_s3, pk_g4, pk_g5, pk_g6, pk_s6, pk_g7, pk_s7, pk_g8, pk_s8, pk_g9, pk_s9, h7]
theorem c_rdL (hr : pkO r) (hn : n ≤ 100) (hT : ∀ i, i < n → ∃ b, b < 128 ∧ T i = nI b) : ∀ (m i p : Nat) (cs : List Nat) (sk wt : Nat) (μ : fm_M), i + m = 10 → PS μ r n T p cs → μ r 0 = nI sk → μ r 1 = nI wt → ∃ (v : Int32) (μ' : fm_M), ix_sem X (e + 23) 10 76 [some (.ref r), x1, some (.int (nI 1)), some (.int (nI i))] [] (fm_W μ τ) = some (some (.int v), fm_W μ' τ) ∧ RR μ' r (clsS n T m p cs sk wt) v ∧ pf2 r μ μ'
  | 0, i, p, cs, sk, wt, μ, hi, h, h0, h1 => by
    have h4 := h.2.2.2.1
    have h7 := h.2.2.1
    have hi' : i = 10 := hi
    subst hi'
    rcases sg_or hT p with ⟨e, hp⟩ | ⟨b, hb, e, hp⟩
    · rw [e] at h4
      refine ⟨-1, μ, ?_, ?_, pf2_of pf_refl⟩
      · simp (disch := first | assumption | omega | decide) only [i10_0, i10_1, i10_3, i10_6, i10_7, i10_8, i10_11, i10_12, i10_13, i10_16, i10_17, i10_18, i10_21, i10_22, i10_25, i10_26, i10_29, i10_32, i10_33, i10_34, i10_35, i10_36, i10_39, i10_42, i10_43, i10_46, i10_47, i10_48, i10_49, i10_50, i10_53, i10_54, i10_57, i10_60, i10_61, i10_62, i10_65, i10_66, i10_69, i10_70, i10_73, i10_74, i10_75, i10_76, i10_77, i10_79, i10_82, i10_83, i10_86, i10_87, i10_90, i10_91, i10_94, i10_95, i10_97, i10_100, i10_103, i10_104, i10_107, i10_110, i10_111, i10_114, i10_115, i10_116, i10_119, i10_122, i10_123, i10_126, i10_127, i10_130, i10_131, i10_134, i10_135, i10_138, i10_139, i10_142, ix_pv_s, ix_pi_s, zpn, ix_po_s, ix_po_n, ix_ph_s, ix_bk_v, ix_bk_n, zcv, zcv_ne, ↓reduceIte, Nat.reduceEqDiff, zn_m1, zd_lt_p, zd_lt_n, zd_le_p, zd_le_n, zd_eq_p, zd_eq_n, zd_0_p, zd_0_n, zd_0lt_p, zd_0lt_n, zd_le0_p, zd_le0_n, zn_lt0, zn_le0, zn_add, zn_mul, zn_sub, zm_lt, zm_le, zm_eq, zb_1, zb_0, not_true_eq_false, not_false_eq_true, pk_c, pk_g0, pk_s0, pk_g1, pk_s1, pk_g2, pk_g3, pk_s3, pk_g4, pk_g5, pk_g6, pk_s6, pk_g7, pk_s7, pk_g8, pk_s8, pk_g9, pk_s9, h4, not_true_eq_false]
      · rw [clsS, if_pos hp]
        exact ⟨rfl, h.2.2.2.2.1, h.2.2.2.2.2.1, h0, h1⟩
    · rw [e] at h4
      refine ⟨nI p, μ, ?_, ?_, pf2_of pf_refl⟩
      · simp (disch := first | assumption | omega | decide) only [i10_0, i10_1, i10_3, i10_6, i10_7, i10_8, i10_11, i10_12, i10_13, i10_16, i10_17, i10_18, i10_21, i10_22, i10_25, i10_26, i10_29, i10_32, i10_33, i10_34, i10_35, i10_36, i10_39, i10_42, i10_43, i10_46, i10_47, i10_48, i10_49, i10_50, i10_53, i10_54, i10_57, i10_60, i10_61, i10_62, i10_65, i10_66, i10_69, i10_70, i10_73, i10_74, i10_75, i10_76, i10_77, i10_79, i10_82, i10_83, i10_86, i10_87, i10_90, i10_91, i10_94, i10_95, i10_97, i10_100, i10_103, i10_104, i10_107, i10_110, i10_111, i10_114, i10_115, i10_116, i10_119, i10_122, i10_123, i10_126, i10_127, i10_130, i10_131, i10_134, i10_135, i10_138, i10_139, i10_142, ix_pv_s, ix_pi_s, zpn, ix_po_s, ix_po_n, ix_ph_s, ix_bk_v, ix_bk_n, zcv, zcv_ne, ↓reduceIte, Nat.reduceEqDiff, zn_m1, zd_lt_p, zd_lt_n, zd_le_p, zd_le_n, zd_eq_p, zd_eq_n, zd_0_p, zd_0_n, zd_0lt_p, zd_0lt_n, zd_le0_p, zd_le0_n, zn_lt0, zn_le0, zn_add, zn_mul, zn_sub, zm_lt, zm_le, zm_eq, zb_1, zb_0, not_true_eq_false, not_false_eq_true, pk_c, pk_g0, pk_s0, pk_g1, pk_s1, pk_g2, pk_g3, pk_s3, pk_g4, pk_g5, pk_g6, pk_s6, pk_g7, pk_s7, pk_g8, pk_s8, pk_g9, pk_s9, h4, h7]
      · rw [clsS, if_neg (by omega)]
        exact rfl
  | m + 1, i, p, cs, sk, wt, μ, hi, h, h0, h1 => by
    have h4 := h.2.2.2.1
    have h7 := h.2.2.1
    rcases sg_or hT p with ⟨e1, hp⟩ | ⟨b, hb, e1, hp⟩
    · rw [e1] at h4
      refine ⟨-1, μ, ?_, ?_, pf2_of pf_refl⟩
      · simp (disch := first | assumption | omega | decide) only [i10_0, i10_1, i10_3, i10_6, i10_7, i10_8, i10_11, i10_12, i10_13, i10_16, i10_17, i10_18, i10_21, i10_22, i10_25, i10_26, i10_29, i10_32, i10_33, i10_34, i10_35, i10_36, i10_39, i10_42, i10_43, i10_46, i10_47, i10_48, i10_49, i10_50, i10_53, i10_54, i10_57, i10_60, i10_61, i10_62, i10_65, i10_66, i10_69, i10_70, i10_73, i10_74, i10_75, i10_76, i10_77, i10_79, i10_82, i10_83, i10_86, i10_87, i10_90, i10_91, i10_94, i10_95, i10_97, i10_100, i10_103, i10_104, i10_107, i10_110, i10_111, i10_114, i10_115, i10_116, i10_119, i10_122, i10_123, i10_126, i10_127, i10_130, i10_131, i10_134, i10_135, i10_138, i10_139, i10_142, ix_pv_s, ix_pi_s, zpn, ix_po_s, ix_po_n, ix_ph_s, ix_bk_v, ix_bk_n, zcv, zcv_ne, ↓reduceIte, Nat.reduceEqDiff, zn_m1, zd_lt_p, zd_lt_n, zd_le_p, zd_le_n, zd_eq_p, zd_eq_n, zd_0_p, zd_0_n, zd_0lt_p, zd_0lt_n, zd_le0_p, zd_le0_n, zn_lt0, zn_le0, zn_add, zn_mul, zn_sub, zm_lt, zm_le, zm_eq, zb_1, zb_0, not_true_eq_false, not_false_eq_true, pk_c, pk_g0, pk_s0, pk_g1, pk_s1, pk_g2, pk_g3, pk_s3, pk_g4, pk_g5, pk_g6, pk_s6, pk_g7, pk_s7, pk_g8, pk_s8, pk_g9, pk_s9, h4, not_true_eq_false]
      · rw [clsS, if_pos hp]
        exact ⟨rfl, h.2.2.2.2.1, h.2.2.2.2.2.1, h0, h1⟩
    · have hne : ¬ sg n T p = -1 := by
        rw [e1]
        intro hh
        have : (nI b = (-1 : Int32)) = False := zm_eq (by omega)
        rw [hh] at this
        simp at this
      obtain ⟨ok, μ1, a1, c1, _, r1⟩ := c_sign (X := X) (d := e + 21) (τ := τ) (c := 59) hr hn (by decide) h
      rw [clsS, if_neg (by omega)]
      rcases r1 with ⟨q, rfl, p1⟩ | ⟨q, rfl, rfl⟩
      · rw [if_pos q]
        obtain ⟨ok, μ2, a2, r2, c2⟩ := c_clause (X := X) (e := e) (τ := τ) hr hn hT p1 ((c1.2 0 (by decide) (by decide) (by decide) (by decide)).trans h0) ((c1.2 1 (by decide) (by decide) (by decide) (by decide)).trans h1)
        cases hc : clauS n T (p + 1) sk wt with
        | inl z =>
          rw [hc] at r2
          obtain ⟨rfl, r2⟩ := r2
          refine ⟨nI z, μ2, ?_, rfl, pf2_trans (pf2_of c1) c2⟩
          rw [← c_rd0 (X := X) (d := e + 23) (τ := τ) (x1 := x1) (i := i + 1) hr (by omega) r2, i10_76]
          simp (disch := first | assumption | omega | decide) only [i10_0, i10_1, i10_3, i10_6, i10_7, i10_8, i10_11, i10_12, i10_13, i10_16, i10_17, i10_18, i10_21, i10_22, i10_25, i10_26, i10_29, i10_32, i10_33, i10_34, i10_35, i10_36, i10_39, i10_42, i10_43, i10_46, i10_47, i10_48, i10_49, i10_50, i10_53, i10_54, i10_57, i10_60, i10_61, i10_62, i10_65, i10_66, i10_69, i10_70, i10_73, i10_74, i10_75, i10_77, i10_79, i10_82, i10_83, i10_86, i10_87, i10_90, i10_91, i10_94, i10_95, i10_97, i10_100, i10_103, i10_104, i10_107, i10_110, i10_111, i10_114, i10_115, i10_116, i10_119, i10_122, i10_123, i10_126, i10_127, i10_130, i10_131, i10_134, i10_135, i10_138, i10_139, i10_142, ix_pv_s, ix_pi_s, zpn, ix_po_s, ix_po_n, ix_ph_s, ix_bk_v, ix_bk_n, zcv, zcv_ne, ↓reduceIte, Nat.reduceEqDiff, zn_m1, zd_lt_p, zd_lt_n, zd_le_p, zd_le_n, zd_eq_p, zd_eq_n, zd_0_p, zd_0_n, zd_0lt_p, zd_0lt_n, zd_le0_p, zd_le0_n, zn_lt0, zn_le0, zn_add, zn_mul, zn_sub, zm_lt, zm_le, zm_eq, zb_1, zb_0, not_true_eq_false, not_false_eq_true, pk_c, pk_g0, pk_s0, pk_g1, pk_s1, pk_g2, pk_g3, pk_s3, pk_g4, pk_g5, pk_g6, pk_s6, pk_g7, pk_s7, pk_g8, pk_s8, pk_g9, pk_s9, h4, hne, a1, a2]
        | inr y =>
          obtain ⟨q', l, sk', wt'⟩ := y
          rw [hc] at r2
          obtain ⟨rfl, p2, s2, w2⟩ := r2
          obtain ⟨v, μ3, a3, r3, c3⟩ := c_rdL hr hn hT m (i + 1) q' _ sk' wt' μ2 (by omega) p2 s2 w2
          refine ⟨v, μ3, ?_, r3, pf2_trans (pf2_of c1) (pf2_trans c2 c3)⟩
          rw [← a3, i10_76]
          simp (disch := first | assumption | omega | decide) only [i10_0, i10_1, i10_3, i10_6, i10_7, i10_8, i10_11, i10_12, i10_13, i10_16, i10_17, i10_18, i10_21, i10_22, i10_25, i10_26, i10_29, i10_32, i10_33, i10_34, i10_35, i10_36, i10_39, i10_42, i10_43, i10_46, i10_47, i10_48, i10_49, i10_50, i10_53, i10_54, i10_57, i10_60, i10_61, i10_62, i10_65, i10_66, i10_69, i10_70, i10_73, i10_74, i10_75, i10_77, i10_79, i10_82, i10_83, i10_86, i10_87, i10_90, i10_91, i10_94, i10_95, i10_97, i10_100, i10_103, i10_104, i10_107, i10_110, i10_111, i10_114, i10_115, i10_116, i10_119, i10_122, i10_123, i10_126, i10_127, i10_130, i10_131, i10_134, i10_135, i10_138, i10_139, i10_142, ix_pv_s, ix_pi_s, zpn, ix_po_s, ix_po_n, ix_ph_s, ix_bk_v, ix_bk_n, zcv, zcv_ne, ↓reduceIte, Nat.reduceEqDiff, zn_m1, zd_lt_p, zd_lt_n, zd_le_p, zd_le_n, zd_eq_p, zd_eq_n, zd_0_p, zd_0_n, zd_0lt_p, zd_0lt_n, zd_le0_p, zd_le0_n, zn_lt0, zn_le0, zn_add, zn_mul, zn_sub, zm_lt, zm_le, zm_eq, zb_1, zb_0, not_true_eq_false, not_false_eq_true, pk_c, pk_g0, pk_s0, pk_g1, pk_s1, pk_g2, pk_g3, pk_s3, pk_g4, pk_g5, pk_g6, pk_s6, pk_g7, pk_s7, pk_g8, pk_s8, pk_g9, pk_s9, h4, hne, a1, a2]
      · rw [if_neg q]
        refine ⟨nI p, μ1, ?_, rfl, pf2_of c1⟩
        rw [← c_rd0 (X := X) (d := e + 23) (τ := τ) (x1 := x1) (i := i + 1) hr (by omega) h7, i10_76]
        simp (disch := first | assumption | omega | decide) only [i10_0, i10_1, i10_3, i10_6, i10_7, i10_8, i10_11, i10_12, i10_13, i10_16, i10_17, i10_18, i10_21, i10_22, i10_25, i10_26, i10_29, i10_32, i10_33, i10_34, i10_35, i10_36, i10_39, i10_42, i10_43, i10_46, i10_47, i10_48, i10_49, i10_50, i10_53, i10_54, i10_57, i10_60, i10_61, i10_62, i10_65, i10_66, i10_69, i10_70, i10_73, i10_74, i10_75, i10_77, i10_79, i10_82, i10_83, i10_86, i10_87, i10_90, i10_91, i10_94, i10_95, i10_97, i10_100, i10_103, i10_104, i10_107, i10_110, i10_111, i10_114, i10_115, i10_116, i10_119, i10_122, i10_123, i10_126, i10_127, i10_130, i10_131, i10_134, i10_135, i10_138, i10_139, i10_142, ix_pv_s, ix_pi_s, zpn, ix_po_s, ix_po_n, ix_ph_s, ix_bk_v, ix_bk_n, zcv, zcv_ne, ↓reduceIte, Nat.reduceEqDiff, zn_m1, zd_lt_p, zd_lt_n, zd_le_p, zd_le_n, zd_eq_p, zd_eq_n, zd_0_p, zd_0_n, zd_0lt_p, zd_0lt_n, zd_le0_p, zd_le0_n, zn_lt0, zn_le0, zn_add, zn_mul, zn_sub, zm_lt, zm_le, zm_eq, zb_1, zb_0, not_true_eq_false, not_false_eq_true, pk_c, pk_g0, pk_s0, pk_g1, pk_s1, pk_g2, pk_g3, pk_s3, pk_g4, pk_g5, pk_g6, pk_s6, pk_g7, pk_s7, pk_g8, pk_s8, pk_g9, pk_s9, h4, hne, a1]
theorem c_read {μ : fm_M} (hr : pkO r) (hn : n ≤ 100) (hT : ∀ i, i < n → ∃ b, b < 128 ∧ T i = nI b) (t1 : μ 4 1 = nI 1) (t4 : μ 4 4 = nI n) (tT : ∀ j, j < n → μ 5 j = T j) : ∃ (v : Int32) (μ' : fm_M), ix_call X (e + 23) 10 [.ref r, .ref 4] (fm_W μ τ) = some (some (.int v), fm_W μ' τ) ∧ RR μ' r (parkS n T) v ∧ (∀ q, q ≠ r → q ≠ r + 1 → q ≠ r + 3 → μ' q = μ q) ∧ ∀ k, k ≠ 0 → k ≠ 1 → k ≠ 3 → k ≠ 6 → k ≠ 7 → k ≠ 8 → k ≠ 9 → μ' r k = μ r k := by
  have hr6 := pk_cases hr
  have hO : rwO 4 := rfl
  obtain ⟨μ0, hμ0⟩ : ∃ μ0, μ0 = fm_u (fm_u (fm_u (fm_u μ r 0 (nI 99)) r 1 (nI 1)) r 3 (nI 0)) r 6 (nI n) := ⟨_, rfl⟩
  have row0 : ∀ q, q ≠ r → μ0 q = μ q := fun q hq => by rw [hμ0, fm_un hq, fm_un hq, fm_un hq, fm_un hq]
  obtain ⟨y, μ1, a1, f1, z1⟩ := c_copy (X := X) (d := e + 22) (τ := τ) (T := T) (x3 := none) hr hn n 0 μ0 (by omega) (by rw [hμ0, fm_us]) (by rw [row0 4 (by omega)]; exact t1) (by rw [row0 4 (by omega)]; exact t4) (fun j hj => by rw [row0 5 (by omega)]; exact tT j hj) (fun j hj => absurd hj (by omega))
  obtain ⟨μ2, hμ2⟩ : ∃ μ2, μ2 = fm_u μ1 r 7 (-1) := ⟨_, rfl⟩
  have r1 : μ1 r = μ0 r := f1 r (by omega)
  have q6 : μ2 r 6 = nI n := by rw [hμ2, fm_uk (by decide), r1, hμ0, fm_us]
  have q3 : μ2 r 3 = nI 0 := by rw [hμ2, fm_uk (by decide), r1, hμ0, fm_uk (by decide), fm_us]
  have q0 : μ2 r 0 = nI 99 := by rw [hμ2, fm_uk (by decide), r1, hμ0, fm_uk (by decide), fm_uk (by decide), fm_uk (by decide), fm_us]
  have q1 : μ2 r 1 = nI 1 := by rw [hμ2, fm_uk (by decide), r1, hμ0, fm_uk (by decide), fm_uk (by decide), fm_us]
  have qk : ∀ k, k ≠ 0 → k ≠ 1 → k ≠ 3 → k ≠ 6 → k ≠ 7 → μ2 r k = μ r k := fun k c0 c1 c3 c6 c7 => by rw [hμ2, fm_uk c7, r1, hμ0, fm_uk c6, fm_uk c3, fm_uk c1, fm_uk c0]
  obtain ⟨μ3, a3, p3, c3⟩ := c_step0 (X := X) (d := e + 22) (τ := τ) (μ := μ2) (T := T) hr hn q6 (fun i hi => by rw [hμ2, fm_un (by omega)]; exact z1 i hi) (by rw [hμ2, fm_us]) q3
  obtain ⟨ok, μ4, a4, r4, c4⟩ := c_clause (X := X) (e := e) (τ := τ) hr hn hT p3 ((c3.2 0 (by decide) (by decide) (by decide) (by decide)).trans q0) ((c3.2 1 (by decide) (by decide) (by decide) (by decide)).trans q1)
  have fr : ∀ μ', pf2 r μ3 μ' → (∀ q, q ≠ r → q ≠ r + 1 → q ≠ r + 3 → μ' q = μ q) ∧ ∀ k, k ≠ 0 → k ≠ 1 → k ≠ 3 → k ≠ 6 → k ≠ 7 → k ≠ 8 → k ≠ 9 → μ' r k = μ r k := fun μ' hh => ⟨fun q b1 b2 b3 => by rw [hh.1 q b1 b2, c3.1 q b1 b2, hμ2, fm_un b1, f1 q b3, row0 q b1], fun k b0 b1 b3 b6 b7 b8 b9 => by rw [hh.2 k b0 b1 b3 b7 b8 b9, c3.2 k b3 b7 b8 b9, qk k b0 b1 b3 b6 b7]⟩
  have s1 : ix_call X (e + 23) 10 [.ref r, .ref 4] (fm_W μ τ) = ix_sem X (e + 23) 10 34 [some (.ref r), some (.ref 4), some (.int (nI 0)), none] [] (fm_W μ0 τ) := by
    rw [hμ0]
    by_cases hn1 : 100 ≤ n
    · have hn2 : n = 100 := by omega
      subst hn2
      simp (disch := first | assumption | omega | decide) only [e10, i10_0, i10_1, i10_3, i10_6, i10_7, i10_8, i10_11, i10_12, i10_13, i10_16, i10_17, i10_18, i10_21, i10_22, i10_25, i10_26, i10_29, i10_32, i10_33, i10_35, i10_36, i10_39, i10_42, i10_43, i10_46, i10_47, i10_48, i10_49, i10_50, i10_53, i10_54, i10_57, i10_60, i10_61, i10_62, i10_65, i10_66, i10_69, i10_70, i10_73, i10_74, i10_75, i10_77, i10_79, i10_82, i10_83, i10_86, i10_87, i10_90, i10_91, i10_94, i10_95, i10_97, i10_100, i10_103, i10_104, i10_107, i10_110, i10_111, i10_114, i10_115, i10_116, i10_119, i10_122, i10_123, i10_126, i10_127, i10_130, i10_131, i10_134, i10_135, i10_138, i10_139, i10_142, ix_pv_s, ix_pi_s, zpn, ix_po_s, ix_po_n, ix_ph_s, ix_bk_v, ix_bk_n, zcv, zcv_ne, ↓reduceIte, Nat.reduceEqDiff, zn_m1, zd_lt_p, zd_lt_n, zd_le_p, zd_le_n, zd_eq_p, zd_eq_n, zd_0_p, zd_0_n, zd_0lt_p, zd_0lt_n, zd_le0_p, zd_le0_n, zn_lt0, zn_le0, zn_add, zn_mul, zn_sub, zm_lt, zm_le, zm_eq, zb_1, zb_0, not_true_eq_false, not_false_eq_true, pk_c, pk_g0, pk_s0, pk_g1, pk_s1, pk_g2, pk_g3, pk_s3, pk_g4, pk_g5, pk_g6, pk_s6, pk_g7, pk_s7, pk_g8, pk_s8, pk_g9, pk_s9, ra_pk1, wa_pk1, al_pk1, ra_pk2, wa_pk2, al_pk2, ra_pk3, wa_pk3, al_pk3, rw_c, rw_g0, rw_s0, rw_g1, rw_s1, rw_g2, rw_g3, rw_g4, rw_s4, rw_g5, rw_s5, rw_g4, fm_un, t4]
    · simp (disch := first | assumption | omega | decide) only [e10, i10_0, i10_1, i10_3, i10_6, i10_7, i10_8, i10_11, i10_12, i10_13, i10_16, i10_17, i10_18, i10_21, i10_22, i10_25, i10_26, i10_29, i10_32, i10_33, i10_35, i10_36, i10_39, i10_42, i10_43, i10_46, i10_47, i10_48, i10_49, i10_50, i10_53, i10_54, i10_57, i10_60, i10_61, i10_62, i10_65, i10_66, i10_69, i10_70, i10_73, i10_74, i10_75, i10_77, i10_79, i10_82, i10_83, i10_86, i10_87, i10_90, i10_91, i10_94, i10_95, i10_97, i10_100, i10_103, i10_104, i10_107, i10_110, i10_111, i10_114, i10_115, i10_116, i10_119, i10_122, i10_123, i10_126, i10_127, i10_130, i10_131, i10_134, i10_135, i10_138, i10_139, i10_142, ix_pv_s, ix_pi_s, zpn, ix_po_s, ix_po_n, ix_ph_s, ix_bk_v, ix_bk_n, zcv, zcv_ne, ↓reduceIte, Nat.reduceEqDiff, zn_m1, zd_lt_p, zd_lt_n, zd_le_p, zd_le_n, zd_eq_p, zd_eq_n, zd_0_p, zd_0_n, zd_0lt_p, zd_0lt_n, zd_le0_p, zd_le0_n, zn_lt0, zn_le0, zn_add, zn_mul, zn_sub, zm_lt, zm_le, zm_eq, zb_1, zb_0, not_true_eq_false, not_false_eq_true, pk_c, pk_g0, pk_s0, pk_g1, pk_s1, pk_g2, pk_g3, pk_s3, pk_g4, pk_g5, pk_g6, pk_s6, pk_g7, pk_s7, pk_g8, pk_s8, pk_g9, pk_s9, ra_pk1, wa_pk1, al_pk1, ra_pk2, wa_pk2, al_pk2, ra_pk3, wa_pk3, al_pk3, rw_c, rw_g0, rw_s0, rw_g1, rw_s1, rw_g2, rw_g3, rw_g4, rw_s4, rw_g5, rw_s5, rw_g4, fm_un, t4]
  have s2 : ix_sem X (e + 23) 10 60 [some (.ref r), some (.ref 4), y, none] [] (fm_W μ1 τ) = ix_sem X (e + 23) 10 76 [some (.ref r), some (.ref 4), some (.int ok), some (.int (nI 1))] [] (fm_W μ4 τ) := by
    rw [hμ2] at a3
    simp (disch := first | assumption | omega | decide) only [i10_0, i10_1, i10_3, i10_6, i10_7, i10_8, i10_11, i10_12, i10_13, i10_16, i10_17, i10_18, i10_21, i10_22, i10_25, i10_26, i10_29, i10_32, i10_33, i10_34, i10_35, i10_36, i10_39, i10_42, i10_43, i10_46, i10_47, i10_48, i10_49, i10_50, i10_53, i10_54, i10_57, i10_60, i10_61, i10_62, i10_65, i10_66, i10_69, i10_70, i10_73, i10_74, i10_75, i10_77, i10_79, i10_82, i10_83, i10_86, i10_87, i10_90, i10_91, i10_94, i10_95, i10_97, i10_100, i10_103, i10_104, i10_107, i10_110, i10_111, i10_114, i10_115, i10_116, i10_119, i10_122, i10_123, i10_126, i10_127, i10_130, i10_131, i10_134, i10_135, i10_138, i10_139, i10_142, ix_pv_s, ix_pi_s, zpn, ix_po_s, ix_po_n, ix_ph_s, ix_bk_v, ix_bk_n, zcv, zcv_ne, ↓reduceIte, Nat.reduceEqDiff, zn_m1, zd_lt_p, zd_lt_n, zd_le_p, zd_le_n, zd_eq_p, zd_eq_n, zd_0_p, zd_0_n, zd_0lt_p, zd_0lt_n, zd_le0_p, zd_le0_n, zn_lt0, zn_le0, zn_add, zn_mul, zn_sub, zm_lt, zm_le, zm_eq, zb_1, zb_0, not_true_eq_false, not_false_eq_true, pk_c, pk_g0, pk_s0, pk_g1, pk_s1, pk_g2, pk_g3, pk_s3, pk_g4, pk_g5, pk_g6, pk_s6, pk_g7, pk_s7, pk_g8, pk_s8, pk_g9, pk_s9, a3, a4]
  have s3 := s1.trans (a1.trans s2)
  rw [parkS]
  cases hc : clauS n T 0 99 1 with
  | inl z =>
    rw [hc] at r4
    obtain ⟨rfl, r4⟩ := r4
    obtain ⟨g1, g2⟩ := fr μ4 c4
    exact ⟨nI z, μ4, s3.trans (c_rd0 (i := 1) hr (by decide) r4), rfl, g1, g2⟩
  | inr y' =>
    obtain ⟨q', l, sk', wt'⟩ := y'
    rw [hc] at r4
    obtain ⟨rfl, p4, s4, w4⟩ := r4
    obtain ⟨v, μ5, a5, r5, c5⟩ := c_rdL (X := X) (e := e) (τ := τ) (x1 := some (.ref 4)) hr hn hT 9 1 q' _ sk' wt' μ4 (by omega) p4 s4 w4
    obtain ⟨g1, g2⟩ := fr μ5 (pf2_trans c4 c5)
    exact ⟨v, μ5, s3.trans a5, r5, g1, g2⟩
end CD
