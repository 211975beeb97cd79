/-! ===== a park: the two calls ===== -/
--need 76.mread4
section PK2
variable {X : ix_X} {d e : Nat} {τ : List fm_D} {μ : fm_M} {S : Nat → Int32} {N : Nat → Nat} {C : Nat → List Nat} {Q : Nat → Nat} {a n : Nat} {T : Nat → Int32}
theorem m1_lt : ((-1 : Int32) < 0) = True := eq_true (by decide)
/-- the program's memory after reading: the tape emptied, park place r written -/
def CP (μ μ1 : fm_M) (r : Nat) : Prop := (∀ q, q ≠ 4 → q ≠ r → q ≠ r + 1 → q ≠ r + 3 → μ1 q = μ q) ∧ (∀ k, k ≠ 4 → μ1 4 k = μ 4 k) ∧ μ1 4 4 = nI 0
theorem cl_park5 (h : QI μ τ S N C Q) (h5 : N 2 = 5) : ix_call X (d + 3) 66 [.ref 0] (fm_W μ τ) = some (some (.int (-4)), fm_W μ τ) := by
  have k1 := cl_number (X := X) (d := d + 1) (τ := τ) (k := 3) (QI_nb h) (by decide)
  have m23 : μ 2 3 = nI (N 2) := h.2.1.1.1.2.2.2.2.1.trans (QI_S h (by decide) (by decide))
  rw [m23, h5] at k1
  have k2 := cl_slotN (X := X) (d := d + 1) (τ := τ) (μ := μ) (m := 5 + 1) (by decide) (by decide)
  simp (disch := first | assumption | omega | decide) only [e66, i66_0, i66_1, i66_2, i66_5, i66_6, i66_7, i66_8, i66_9, i66_10, i66_13, i66_13n, i66_14, i66_14n, i66_15n, i66_15, i66_18, i66_20, i66_21, i66_21n, i66_22, i66_23, i66_26, i66_29, i66_30, i66_31, i66_34, i66_37, i66_38, i66_41, i66_43, i66_44, i66_45, i66_46, i66_47, i66_48, i66_49, i66_50, i66_51, i66_54, i66_55, i66_56, i66_59, i66_60, ix_pv_s, ix_pi_s, zpn, ix_po_s, ix_po_n, ix_ph_s, ix_bk_v, ix_bk_n, zcv, zcv_ne, ↓reduceIte, Nat.reduceEqDiff, zn_m1, zd_lt_p, zd_lt_n, zd_le_p, zd_le_n, zd_eq_p, zd_eq_n, zd_0_p, zd_0_n, zd_0lt_p, zd_0lt_n, zd_le0_p, zd_le0_n, zn_lt0, zn_le0, zn_add, zn_mul, zn_sub, zm_lt, zm_le, zm_eq, zb_1, zb_0, not_true_eq_false, not_false_eq_true, t0_c, t0_g0, t0_g1, t0_g2, t0_g3, t0_g4, t0_g5, t0_g6, t0_g7, t0_g8, t0_g9, t0_g10, t0_s11, t0_g12, t0_s12, t0_g13, t0_g14, t0_g15, t0_g16, t0_c, rw_c, k1, k2]
theorem cl_park (h : QI μ τ S N C Q) (h5 : N 2 < 5) : ∃ (v : Int32) (μ1 : fm_M), ix_call X (e + 24) 66 [.ref 0] (fm_W μ τ) = some (some (.int v), fm_W μ1 τ) ∧ (match parkS (N 6) (fun i => S (109 + i)) with
    | .inl z => v = -10 - nI z ∧ CP μ μ1 (30 + 4 * N 2)
    | .inr (l, sk, wt) => v = nI (N 2) ∧ ∃ μ0 : fm_M, CP μ μ0 (30 + 4 * N 2) ∧ (pkO (30 + 4 * N 2) ∧ μ0 (30 + 4 * N 2) 3 = nI l.length ∧ (∀ i, i < l.length → μ0 (30 + 4 * N 2 + 1) i = nI (l.getD i 0)) ∧ μ0 (30 + 4 * N 2) 0 = nI sk ∧ μ0 (30 + 4 * N 2) 1 = nI wt) ∧ (∀ r, r ≠ 0 → r ≠ 2 → (∀ j, j < 7 → r ≠ 50 + 2 * j) → μ1 r = μ0 r) ∧ μ1 0 11 = nI (30 + 4 * N 2) ∧ (∀ k, k ≠ 11 → μ1 0 k = μ0 0 k) ∧ (∀ k, k ≠ 3 → μ1 2 k = μ0 2 k) ∧ μ1 2 3 = nI (N 2 + 1) ∧ ∀ j, j < 7 → μ1 (50 + 2 * j) 2 = nI (30 + 4 * N 2) ∧ μ1 (50 + 2 * j) 1 = nI 0 ∧ ∀ k, k ≠ 1 → k ≠ 2 → μ1 (50 + 2 * j) k = μ0 (50 + 2 * j) k) := by
  have hb := QI_b h
  have nb := QI_nb h
  have hO4 : rwO 4 := rfl
  have hA : rwA 4 100 := ⟨rfl, rfl, rfl⟩
  have k1 := cl_number (X := X) (d := e + 22) (τ := τ) (k := 3) nb (by decide)
  have m23 : μ 2 3 = nI (N 2) := h.2.1.1.1.2.2.2.2.1.trans (QI_S h (by decide) (by decide))
  rw [m23] at k1
  obtain ⟨s1, s2, s3, s4, s5, s6⟩ := id h.2.1.2.2.2.1
  have sl := (s1 (N 2 + 1) (by omega)).2.1
  rw [show 26 + 4 * (N 2 + 1) = 30 + 4 * N 2 by omega] at sl
  have k2 := cl_slot (X := X) (d := e + 22) (τ := τ) (μ := μ) (m := N 2 + 1) (by omega) sl (by omega)
  have hr : pkO (30 + 4 * N 2) := by
    rcases (by omega : N 2 = 0 ∨ N 2 = 1 ∨ N 2 = 2 ∨ N 2 = 3 ∨ N 2 = 4) with e | e | e | e | e <;> rw [e] <;> rfl
  obtain ⟨⟨z0, z1, z2⟩, zc⟩ : gT μ S N := h.2.1.1.2.1
  have z3 := z2.trans (QI_S h (k := 6) (by decide) (by decide))
  obtain ⟨v, μ0, a1, r1, f1, f2⟩ := c_read (X := X) (e := e) (τ := τ) (μ := μ) (n := N 6) (T := fun i => S (109 + i)) hr (by omega) (fun i hi => by
    obtain ⟨b, b1, b2⟩ := (zc i hi).2
    exact ⟨b, b1, by rw [← b2]; exact (zc i hi).1.symm⟩) z1 z3 (fun j hj => (zc j hj).1)
  have k3 := rw_clear (X := X) (d := e + 23) (τ := τ) (μ := μ0) hA
  have cp : CP μ (fm_u μ0 4 4 (nI 0)) (30 + 4 * N 2) := ⟨fun q q1 q2 q3 q4 => by rw [fm_un q1]; exact f1 q q2 q3 q4, fun k hk => by rw [fm_uk hk, f1 4 (by omega) (by omega) (by omega)], fm_us⟩
  cases hp : parkS (N 6) (fun i => S (109 + i)) with
  | inl z =>
    rw [hp] at r1
    have r1' : v = nI z := r1
    subst r1'
    have := park_flt hp
    refine ⟨-10 - nI z, _, ?_, rfl, cp⟩
    simp (disch := first | assumption | omega | decide) only [e66, i66_0, i66_1, i66_2, i66_5, i66_6, i66_7, i66_8, i66_9, i66_10, i66_13, i66_13n, i66_14, i66_14n, i66_15n, i66_15, i66_18, i66_20, i66_21, i66_21n, i66_22, i66_23, i66_26, i66_29, i66_30, i66_31, i66_34, i66_37, i66_38, i66_41, i66_43, i66_44, i66_45, i66_46, i66_47, i66_48, i66_49, i66_50, i66_51, i66_54, i66_55, i66_56, i66_59, i66_60, ix_pv_s, ix_pi_s, zpn, ix_po_s, ix_po_n, ix_ph_s, ix_bk_v, ix_bk_n, zcv, zcv_ne, ↓reduceIte, Nat.reduceEqDiff, zn_m1, zd_lt_p, zd_lt_n, zd_le_p, zd_le_n, zd_eq_p, zd_eq_n, zd_0_p, zd_0_n, zd_0lt_p, zd_0lt_n, zd_le0_p, zd_le0_n, zn_lt0, zn_le0, zn_add, zn_mul, zn_sub, zm_lt, zm_le, zm_eq, zb_1, zb_0, not_true_eq_false, not_false_eq_true, t0_c, t0_g0, t0_g1, t0_g2, t0_g3, t0_g4, t0_g5, t0_g6, t0_g7, t0_g8, t0_g9, t0_g10, t0_s11, t0_g12, t0_s12, t0_g13, t0_g14, t0_g15, t0_g16, t0_c, rw_c, pk_c, pk_g0, pk_s0, pk_g1, pk_s1, pk_g2, pk_g3, pk_s3, pk_g4, pk_g5, pk_g6, pk_s6, pk_g7, pk_s7, pk_g8, pk_s8, pk_g9, pk_s9, k1, k2, a1, k3]
  | inr y =>
    obtain ⟨l, sk, wt⟩ := y
    rw [hp] at r1
    obtain ⟨rfl, w1, w2, w3, w4⟩ := r1
    obtain ⟨μa, hμa⟩ : ∃ μa, μa = fm_u μ0 4 4 (nI 0) := ⟨_, rfl⟩
    rw [← hμa] at k3 cp
    have hlo : ∀ q, q ≠ 4 → μa q = μ0 q := fun q hq => by rw [hμa, fm_un hq]
    have nba : nbS μa := by
      unfold nbS
      rw [cp.1 1 (by decide) (by omega) (by omega) (by omega)]
      exact nb
    have k4 := cl_setNumber (X := X) (d := e + 22) (τ := τ) (μ := μa) (k := 3) (x := nI (N 2 + 1)) nba (by decide)
    obtain ⟨μb, hμb⟩ : ∃ μb, μb = fm_u μa 2 3 (nI (N 2 + 1)) := ⟨_, rfl⟩
    rw [← hμb] at k4
    have hlb : ∀ q, q ≠ 2 → μb q = μa q := fun q hq => by rw [hμb, fm_un hq]
    have nbb : nbS μb := by
      unfold nbS
      rw [hlb 1 (by decide)]
      exact nba
    obtain ⟨μ1, k5, g1, g2, g3, g4⟩ := cl_newest (X := X) (d := e + 20) (τ := τ) (μ := μb) (m := N 2 + 1) (by omega) nbb (by rw [hμb, fm_us]) (fun i hi => by rw [hlb 24 (by decide), cp.1 24 (by decide) (by omega) (by omega) (by omega)]; exact (s1 i hi).2.1) (fun i hi => by rw [hlb 23 (by decide), cp.1 23 (by decide) (by omega) (by omega) (by omega)]; exact (s1 i hi).1)
    rw [show 26 + 4 * (N 2 + 1) = 30 + 4 * N 2 by omega] at g2 g4
    refine ⟨nI (N 2), μ1, ?_, rfl, μa, cp, ⟨hr, ?_, fun i hi => ?_, ?_, ?_⟩, fun r r0 r2 rj => ?_, g2, fun k hk => ?_, fun k hk => ?_, ?_, fun j hj => ?_⟩
    · simp (disch := first | assumption | omega | decide) only [e66, i66_0, i66_1, i66_2, i66_5, i66_6, i66_7, i66_8, i66_9, i66_10, i66_13, i66_13n, i66_14, i66_14n, i66_15n, i66_15, i66_18, i66_20, i66_21, i66_21n, i66_22, i66_23, i66_26, i66_29, i66_30, i66_31, i66_34, i66_37, i66_38, i66_41, i66_43, i66_44, i66_45, i66_46, i66_47, i66_48, i66_49, i66_50, i66_51, i66_54, i66_55, i66_56, i66_59, i66_60, ix_pv_s, ix_pi_s, zpn, ix_po_s, ix_po_n, ix_ph_s, ix_bk_v, ix_bk_n, zcv, zcv_ne, ↓reduceIte, Nat.reduceEqDiff, zn_m1, zd_lt_p, zd_lt_n, zd_le_p, zd_le_n, zd_eq_p, zd_eq_n, zd_0_p, zd_0_n, zd_0lt_p, zd_0lt_n, zd_le0_p, zd_le0_n, zn_lt0, zn_le0, zn_add, zn_mul, zn_sub, zm_lt, zm_le, zm_eq, zb_1, zb_0, not_true_eq_false, not_false_eq_true, t0_c, t0_g0, t0_g1, t0_g2, t0_g3, t0_g4, t0_g5, t0_g6, t0_g7, t0_g8, t0_g9, t0_g10, t0_s11, t0_g12, t0_s12, t0_g13, t0_g14, t0_g15, t0_g16, t0_c, rw_c, pk_c, pk_g0, pk_s0, pk_g1, pk_s1, pk_g2, pk_g3, pk_s3, pk_g4, pk_g5, pk_g6, pk_s6, pk_g7, pk_s7, pk_g8, pk_s8, pk_g9, pk_s9, k1, k2, a1, ← hμa, k3, m1_lt, k4, k5]
    · rw [hlo _ (by omega)]; exact w1
    · rw [hlo _ (by omega)]; exact w2 i hi
    · rw [hlo _ (by omega)]; exact w3
    · rw [hlo _ (by omega)]; exact w4
    · rw [g1 r r0 rj, hlb r r2]
    · rw [g3 k hk, hlb 0 (by decide)]
    · rw [g1 2 (by decide) (fun j hj => by omega), hμb, fm_uk hk]
    · rw [g1 2 (by decide) (fun j hj => by omega), hμb, fm_us]
    · obtain ⟨x1, x2, x3⟩ := g4 j hj
      refine ⟨x1, x2, fun k c1 c2 => ?_⟩
      rw [x3 k c1 c2, hlb _ (by omega)]
theorem mo_park5 (h68 : μ 68 = S) (h2 : S 2 = nI 5) : ix_call X d 135 [.ref 67] (fm_W μ τ) = some (some (.int (-4)), fm_W μ τ) := by
  simp (disch := first | assumption | omega | decide) only [e135, i135_0, i135_1, i135_4, i135_5, i135_6, i135_7, i135_10, i135_12, i135_13, i135_14, i135_15, i135_18, i135_19, i135_20, i135_23, i135_24, i135_25, i135_28, i135_30, i135_31, i135_34, i135_35, i135_38, i135_40, i135_41, i135_42, i135_43, i135_46, i135_49, i135_50, i135_53, i135_54, i135_56, i135_57, i135_58, i135_61, i135_64, i135_65, i135_68, i135_69, i135_70, i135_71, i135_72, i135_75, i135_78, i135_79, i135_82, i135_83, i135_84, i135_85, i135_86, i135_87, i135_90, i135_91, i135_92, i135_95, i135_96, i135_97, i135_100, i135_101, i135_102, i135_103, i135_106, i135_107, i135_110, i135_113, i135_114, i135_116, i135_119, i135_120, i135_123, i135_125, i135_128, i135_129, i135_130, i135_133, i135_134, i135_135, i135_138, i135_139, i135_142, i135_145, i135_148, i135_149, i135_152, i135_155, i135_156, i135_159, i135_160, i135_163, i135_166, i135_168, i135_169, i135_172, i135_173, i135_174, i135_175, i135_178, i135_179, i135_180, i135_181, i135_182, i135_183, i135_184, i135_185, i135_188, i135_190, i135_191, i135_194, i135_195, i135_196, i135_199, i135_200, i135_203, ix_pv_s, ix_pi_s, zpn, ix_po_s, ix_po_n, ix_ph_s, ix_bk_v, ix_bk_n, zcv, zcv_ne, ↓reduceIte, Nat.reduceEqDiff, zn_m1, zd_lt_p, zd_lt_n, zd_le_p, zd_le_n, zd_eq_p, zd_eq_n, zd_0_p, zd_0_n, zd_0lt_p, zd_0lt_n, zd_le0_p, zd_le0_n, zn_lt0, zn_le0, zn_add, zn_mul, zn_sub, zm_lt, zm_le, zm_eq, zb_1, zb_0, not_true_eq_false, not_false_eq_true, mo_c, mo_g0, mo_s0, mo_g1, mo_g2, mo_g3, mo_s3, mo_g4, mo_s4, mo_g5, mo_s5, mo_g6, mo_s6, mo_g7, mo_s7, mo_g8, mo_s8, mo_g9, mo_g10, mo_g11, mo_g12, mo_g13, mo_s13, mo_g14, mo_s14, mo_g15, mo_s15, mo_g16, mo_g17, mo_s17, mo_g18, mo_s18, mo_g19, mo_g20, mo_s20, mo_g21, mo_s21, mo_g22, mo_s22, mo_g23, mo_s23, ra_25, wa_25, al_25, ra_68, wa_68, al_68, ra_69, wa_69, al_69, ra_70, wa_70, al_70, ra_71, wa_71, al_71, ra_72, wa_72, al_72, ra_73, wa_73, al_73, ra_74, wa_74, al_74, ra_75, wa_75, al_75, h68, h2]
/-- the model's memory after reading -/
def MP (μ μ' : fm_M) (a : Nat) : Prop := (∀ q, q ≠ 67 → q ≠ 68 → q ≠ 73 → μ' q = μ q) ∧ (∀ k, k ≠ 4 → k ≠ 5 → k ≠ 6 → k ≠ 7 → k ≠ 8 → μ' 67 k = μ 67 k) ∧ (∀ k, k ≠ 2 → k ≠ 6 → k ≠ 7 → k ≠ 209 + a → k ≠ 214 + a → k ≠ 219 + a → (k < 224 + 140 * a ∨ 224 + 140 * a + 140 ≤ k) → μ' 68 k = μ 68 k) ∧ μ' 68 6 = nI 0
theorem mo_park (ha : a < 5) (hn : n ≤ 100) (h2 : μ 68 2 = nI a) (h6 : μ 68 6 = nI n) (hT : ∀ i, i < n → μ 68 (109 + i) = T i) : ∃ (v : Int32) (μ' : fm_M), ix_call X (e + 25) 135 [.ref 67] (fm_W μ τ) = some (some (.int v), fm_W μ' τ) ∧ MP μ μ' a ∧ (match parkS n T with
    | .inl z => v = -10 - nI z ∧ μ' 68 2 = μ 68 2 ∧ μ' 68 7 = μ 68 7 ∧ μ' 73 = μ 73
    | .inr (l, sk, wt) => v = nI a ∧ μ' 68 2 = nI (a + 1) ∧ μ' 68 7 = nI a ∧ μ' 68 (209 + a) = nI sk ∧ μ' 68 (214 + a) = nI wt ∧ μ' 68 (219 + a) = nI l.length ∧ (∀ i, i < l.length → μ' 68 (224 + 140 * a + i) = stp (l.getD i 0)) ∧ ∀ j, j < 7 → μ' 73 j = nI 0) := by
  obtain ⟨μ0, hμ0⟩ : ∃ μ0, μ0 = fm_u (fm_u (fm_u (fm_u (fm_u (fm_u (fm_u (fm_u (fm_u μ 67 4 (nI a)) 67 6 (nI n)) 68 6 (nI 0)) 68 (209 + a) (nI 99)) 68 (214 + a) (nI 1)) 68 (219 + a) (nI 0)) 67 5 (nI 0)) 67 7 (nI 0)) 67 8 (nI 0) := ⟨_, rfl⟩
  have q68 : ∀ k, k ≠ 6 → k ≠ 209 + a → k ≠ 214 + a → k ≠ 219 + a → μ0 68 k = μ 68 k := fun k c1 c2 c3 c4 => by rw [hμ0, fm_un (by decide), fm_un (by decide), fm_un (by decide), fm_uk c4, fm_uk c3, fm_uk c2, fm_uk c1, fm_un (by decide), fm_un (by decide)]
  have q6 : μ0 68 6 = nI 0 := by rw [hμ0, fm_un (by decide), fm_un (by decide), fm_un (by decide), fm_uk (by omega), fm_uk (by omega), fm_uk (by omega), fm_us]
  have q209 : μ0 68 (209 + a) = nI 99 := by rw [hμ0, fm_un (by decide), fm_un (by decide), fm_un (by decide), fm_uk (by omega), fm_uk (by omega), fm_us]
  have q214 : μ0 68 (214 + a) = nI 1 := by rw [hμ0, fm_un (by decide), fm_un (by decide), fm_un (by decide), fm_uk (by omega), fm_us]
  have q219 : μ0 68 (219 + a) = nI 0 := by rw [hμ0, fm_un (by decide), fm_un (by decide), fm_un (by decide), fm_us]
  have r4 : μ0 67 4 = nI a := by rw [hμ0, fm_uk (by decide), fm_uk (by decide), fm_uk (by decide), fm_un (by decide), fm_un (by decide), fm_un (by decide), fm_un (by decide), fm_uk (by decide), fm_us]
  have r6 : μ0 67 6 = nI n := by rw [hμ0, fm_uk (by decide), fm_uk (by decide), fm_uk (by decide), fm_un (by decide), fm_un (by decide), fm_un (by decide), fm_un (by decide), fm_us]
  have r5 : μ0 67 5 = nI 0 := by rw [hμ0, fm_uk (by decide), fm_uk (by decide), fm_us]
  have r7 : μ0 67 7 = nI 0 := by rw [hμ0, fm_uk (by decide), fm_us]
  have r8 : μ0 67 8 = nI 0 := by rw [hμ0, fm_us]
  have rk : ∀ k, k ≠ 4 → k ≠ 5 → k ≠ 6 → k ≠ 7 → k ≠ 8 → μ0 67 k = μ 67 k := fun k c4 c5 c6 c7 c8 => by rw [hμ0, fm_uk c8, fm_uk c7, fm_uk c5, fm_un (by decide), fm_un (by decide), fm_un (by decide), fm_un (by decide), fm_uk c6, fm_uk c4]
  have rq : ∀ q, q ≠ 67 → q ≠ 68 → μ0 q = μ q := fun q c1 c2 => by rw [hμ0, fm_un c1, fm_un c1, fm_un c1, fm_un c2, fm_un c2, fm_un c2, fm_un c2, fm_un c1, fm_un c1]
  have ms : MS μ0 a n T 0 0 [] := ⟨r4, r5, r6, r7, r8, fun i hi => by rw [q68 _ (by omega) (by omega) (by omega) (by omega)]; exact hT i hi, q219, fun i hi => absurd hi (by simp), by omega, by simp⟩
  obtain ⟨μ1, a1, s1, c1⟩ := m_clause (X := X) (e := e) (τ := τ) ha hn ms q209 q214
  have start : ix_call X (e + 25) 135 [.ref 67] (fm_W μ τ) = ix_sem X (e + 25) 135 106 [some (.ref 67), some (.int (nI 1))] [] (fm_W μ1 τ) := by
    rw [hμ0] at a1
    simp (disch := first | assumption | omega | decide) only [e135, i135_0, i135_1, i135_4, i135_5, i135_6, i135_7, i135_10, i135_12, i135_13, i135_14, i135_15, i135_18, i135_19, i135_20, i135_23, i135_24, i135_25, i135_28, i135_30, i135_31, i135_34, i135_35, i135_38, i135_40, i135_41, i135_42, i135_43, i135_46, i135_49, i135_50, i135_53, i135_54, i135_56, i135_57, i135_58, i135_61, i135_64, i135_65, i135_68, i135_69, i135_70, i135_71, i135_72, i135_75, i135_78, i135_79, i135_82, i135_83, i135_84, i135_85, i135_86, i135_87, i135_90, i135_91, i135_92, i135_95, i135_96, i135_97, i135_100, i135_101, i135_102, i135_103, i135_107, i135_110, i135_113, i135_114, i135_116, i135_119, i135_120, i135_123, i135_125, i135_128, i135_129, i135_130, i135_133, i135_134, i135_135, i135_138, i135_139, i135_142, i135_145, i135_149, i135_152, i135_155, i135_156, i135_159, i135_160, i135_163, i135_166, i135_168, i135_169, i135_172, i135_173, i135_174, i135_175, i135_178, i135_179, i135_180, i135_181, i135_182, i135_183, i135_184, i135_185, i135_188, i135_190, i135_191, i135_194, i135_195, i135_196, i135_199, i135_200, i135_203, ix_pv_s, ix_pi_s, zpn, ix_po_s, ix_po_n, ix_ph_s, ix_bk_v, ix_bk_n, zcv, zcv_ne, ↓reduceIte, Nat.reduceEqDiff, zn_m1, zd_lt_p, zd_lt_n, zd_le_p, zd_le_n, zd_eq_p, zd_eq_n, zd_0_p, zd_0_n, zd_0lt_p, zd_0lt_n, zd_le0_p, zd_le0_n, zn_lt0, zn_le0, zn_add, zn_mul, zn_sub, zm_lt, zm_le, zm_eq, zb_1, zb_0, not_true_eq_false, not_false_eq_true, mo_c, mo_g0, mo_s0, mo_g1, mo_g2, mo_g3, mo_s3, mo_g4, mo_s4, mo_g5, mo_s5, mo_g6, mo_s6, mo_g7, mo_s7, mo_g8, mo_s8, mo_g9, mo_g10, mo_g11, mo_g12, mo_g13, mo_s13, mo_g14, mo_s14, mo_g15, mo_s15, mo_g16, mo_g17, mo_s17, mo_g18, mo_s18, mo_g19, mo_g20, mo_s20, mo_g21, mo_s21, mo_g22, mo_s22, mo_g23, mo_s23, ra_25, wa_25, al_25, ra_68, wa_68, al_68, ra_69, wa_69, al_69, ra_70, wa_70, al_70, ra_71, wa_71, al_71, ra_72, wa_72, al_72, ra_73, wa_73, al_73, ra_74, wa_74, al_74, ra_75, wa_75, al_75, h2, h6, fm_uk, fm_un, fm_us, a1]
  have fin : ∃ (y : Option Value) (μ2 : fm_M), ix_sem X (e + 25) 135 106 [some (.ref 67), some (.int (nI 1))] [] (fm_W μ1 τ) = ix_sem X (e + 25) 135 148 [some (.ref 67), y] [] (fm_W μ2 τ) ∧ MO μ2 a n T (parkS n T) ∧ mq2 a μ0 μ2 := by
    rw [parkS]
    cases hc : clauS n T 0 99 1 with
    | inl z =>
      rw [hc] at s1
      have w1 : MW μ1 a z := s1
      have w7 := w1.2.2
      refine ⟨some (.int (nI 1)), μ1, ?_, Or.inl w1, c1⟩
      simp (disch := first | assumption | omega | decide) only [i135_0, i135_1, i135_4, i135_5, i135_6, i135_7, i135_10, i135_12, i135_13, i135_14, i135_15, i135_18, i135_19, i135_20, i135_23, i135_24, i135_25, i135_28, i135_30, i135_31, i135_34, i135_35, i135_38, i135_40, i135_41, i135_42, i135_43, i135_46, i135_49, i135_50, i135_53, i135_54, i135_56, i135_57, i135_58, i135_61, i135_64, i135_65, i135_68, i135_69, i135_70, i135_71, i135_72, i135_75, i135_78, i135_79, i135_82, i135_83, i135_84, i135_85, i135_86, i135_87, i135_90, i135_91, i135_92, i135_95, i135_96, i135_97, i135_100, i135_101, i135_102, i135_103, i135_106, i135_107, i135_110, i135_113, i135_114, i135_116, i135_119, i135_120, i135_123, i135_125, i135_128, i135_129, i135_130, i135_133, i135_134, i135_135, i135_138, i135_139, i135_142, i135_145, i135_149, i135_152, i135_155, i135_156, i135_159, i135_160, i135_163, i135_166, i135_168, i135_169, i135_172, i135_173, i135_174, i135_175, i135_178, i135_179, i135_180, i135_181, i135_182, i135_183, i135_184, i135_185, i135_188, i135_190, i135_191, i135_194, i135_195, i135_196, i135_199, i135_200, i135_203, ix_pv_s, ix_pi_s, zpn, ix_po_s, ix_po_n, ix_ph_s, ix_bk_v, ix_bk_n, zcv, zcv_ne, ↓reduceIte, Nat.reduceEqDiff, zn_m1, zd_lt_p, zd_lt_n, zd_le_p, zd_le_n, zd_eq_p, zd_eq_n, zd_0_p, zd_0_n, zd_0lt_p, zd_0lt_n, zd_le0_p, zd_le0_n, zn_lt0, zn_le0, zn_add, zn_mul, zn_sub, zm_lt, zm_le, zm_eq, zb_1, zb_0, not_true_eq_false, not_false_eq_true, mo_c, mo_g0, mo_s0, mo_g1, mo_g2, mo_g3, mo_s3, mo_g4, mo_s4, mo_g5, mo_s5, mo_g6, mo_s6, mo_g7, mo_s7, mo_g8, mo_s8, mo_g9, mo_g10, mo_g11, mo_g12, mo_g13, mo_s13, mo_g14, mo_s14, mo_g15, mo_s15, mo_g16, mo_g17, mo_s17, mo_g18, mo_s18, mo_g19, mo_g20, mo_s20, mo_g21, mo_s21, mo_g22, mo_s22, mo_g23, mo_s23, ra_25, wa_25, al_25, ra_68, wa_68, al_68, ra_69, wa_69, al_69, ra_70, wa_70, al_70, ra_71, wa_71, al_71, ra_72, wa_72, al_72, ra_73, wa_73, al_73, ra_74, wa_74, al_74, ra_75, wa_75, al_75, w7]
    | inr y =>
      obtain ⟨q', l, sk', wt'⟩ := y
      rw [hc] at s1
      obtain ⟨p1, g1, g2⟩ := s1
      obtain ⟨y, μ2, a2, o2, c2⟩ := m_clsL (X := X) (e := e) (τ := τ) ha hn 9 1 q' _ sk' wt' μ1 (by omega) p1 g1 g2
      exact ⟨y, μ2, a2, o2, mq2_trans c1 c2⟩
  obtain ⟨y, μ2, a2, o2, c2⟩ := fin
  have mp : MP μ μ2 a := ⟨fun q b1 b2 _ => (c2.1 q b1 b2).trans (rq q b1 b2), fun k b4 b5 b6 b7 b8 => (c2.2.1 k b5 b7 b8).trans (rk k b4 b5 b6 b7 b8), fun k b2 b6 b7 b9 b14 b19 b24 => (c2.2.2 k b9 b14 b19 b24).trans (q68 k b6 b9 b14 b19), (c2.2.2 6 (by omega) (by omega) (by omega) (by omega)).trans q6⟩
  have v2 : μ2 68 2 = μ 68 2 := (c2.2.2 2 (by omega) (by omega) (by omega) (by omega)).trans (q68 2 (by decide) (by omega) (by omega) (by omega))
  have v7 : μ2 68 7 = μ 68 7 := (c2.2.2 7 (by omega) (by omega) (by omega) (by omega)).trans (q68 7 (by decide) (by omega) (by omega) (by omega))
  cases hp : parkS n T with
  | inl z =>
    have hz := park_flt hp
    rw [hp] at o2
    refine ⟨-10 - nI z, μ2, (start.trans a2).trans ?_, mp, rfl, v2, v7, ?_⟩
    · rcases o2 with ⟨w4, w5, w7⟩ | ⟨w7, w5, w6, wz⟩
      · simp (disch := first | assumption | omega | decide) only [i135_0, i135_1, i135_4, i135_5, i135_6, i135_7, i135_10, i135_12, i135_13, i135_14, i135_15, i135_18, i135_19, i135_20, i135_23, i135_24, i135_25, i135_28, i135_30, i135_31, i135_34, i135_35, i135_38, i135_40, i135_41, i135_42, i135_43, i135_46, i135_49, i135_50, i135_53, i135_54, i135_56, i135_57, i135_58, i135_61, i135_64, i135_65, i135_68, i135_69, i135_70, i135_71, i135_72, i135_75, i135_78, i135_79, i135_82, i135_83, i135_84, i135_85, i135_86, i135_87, i135_90, i135_91, i135_92, i135_95, i135_96, i135_97, i135_100, i135_101, i135_102, i135_103, i135_106, i135_107, i135_110, i135_113, i135_114, i135_116, i135_119, i135_120, i135_123, i135_125, i135_128, i135_129, i135_130, i135_133, i135_134, i135_135, i135_138, i135_139, i135_142, i135_145, i135_148, i135_149, i135_152, i135_155, i135_156, i135_159, i135_160, i135_163, i135_166, i135_168, i135_169, i135_172, i135_173, i135_174, i135_175, i135_178, i135_179, i135_180, i135_181, i135_182, i135_183, i135_184, i135_185, i135_188, i135_190, i135_191, i135_194, i135_195, i135_196, i135_199, i135_200, i135_203, ix_pv_s, ix_pi_s, zpn, ix_po_s, ix_po_n, ix_ph_s, ix_bk_v, ix_bk_n, zcv, zcv_ne, ↓reduceIte, Nat.reduceEqDiff, zn_m1, zd_lt_p, zd_lt_n, zd_le_p, zd_le_n, zd_eq_p, zd_eq_n, zd_0_p, zd_0_n, zd_0lt_p, zd_0lt_n, zd_le0_p, zd_le0_n, zn_lt0, zn_le0, zn_add, zn_mul, zn_sub, zm_lt, zm_le, zm_eq, zb_1, zb_0, not_true_eq_false, not_false_eq_true, mo_c, mo_g0, mo_s0, mo_g1, mo_g2, mo_g3, mo_s3, mo_g4, mo_s4, mo_g5, mo_s5, mo_g6, mo_s6, mo_g7, mo_s7, mo_g8, mo_s8, mo_g9, mo_g10, mo_g11, mo_g12, mo_g13, mo_s13, mo_g14, mo_s14, mo_g15, mo_s15, mo_g16, mo_g17, mo_s17, mo_g18, mo_s18, mo_g19, mo_g20, mo_s20, mo_g21, mo_s21, mo_g22, mo_s22, mo_g23, mo_s23, ra_25, wa_25, al_25, ra_68, wa_68, al_68, ra_69, wa_69, al_69, ra_70, wa_70, al_70, ra_71, wa_71, al_71, ra_72, wa_72, al_72, ra_73, wa_73, al_73, ra_74, wa_74, al_74, ra_75, wa_75, al_75, w5, w7]
      · simp (disch := first | assumption | omega | decide) only [i135_0, i135_1, i135_4, i135_5, i135_6, i135_7, i135_10, i135_12, i135_13, i135_14, i135_15, i135_18, i135_19, i135_20, i135_23, i135_24, i135_25, i135_28, i135_30, i135_31, i135_34, i135_35, i135_38, i135_40, i135_41, i135_42, i135_43, i135_46, i135_49, i135_50, i135_53, i135_54, i135_56, i135_57, i135_58, i135_61, i135_64, i135_65, i135_68, i135_69, i135_70, i135_71, i135_72, i135_75, i135_78, i135_79, i135_82, i135_83, i135_84, i135_85, i135_86, i135_87, i135_90, i135_91, i135_92, i135_95, i135_96, i135_97, i135_100, i135_101, i135_102, i135_103, i135_106, i135_107, i135_110, i135_113, i135_114, i135_116, i135_119, i135_120, i135_123, i135_125, i135_128, i135_129, i135_130, i135_133, i135_134, i135_135, i135_138, i135_139, i135_142, i135_145, i135_148, i135_149, i135_152, i135_155, i135_156, i135_159, i135_160, i135_163, i135_166, i135_168, i135_169, i135_172, i135_173, i135_174, i135_175, i135_178, i135_179, i135_180, i135_181, i135_182, i135_183, i135_184, i135_185, i135_188, i135_190, i135_191, i135_194, i135_195, i135_196, i135_199, i135_200, i135_203, ix_pv_s, ix_pi_s, zpn, ix_po_s, ix_po_n, ix_ph_s, ix_bk_v, ix_bk_n, zcv, zcv_ne, ↓reduceIte, Nat.reduceEqDiff, zn_m1, zd_lt_p, zd_lt_n, zd_le_p, zd_le_n, zd_eq_p, zd_eq_n, zd_0_p, zd_0_n, zd_0lt_p, zd_0lt_n, zd_le0_p, zd_le0_n, zn_lt0, zn_le0, zn_add, zn_mul, zn_sub, zm_lt, zm_le, zm_eq, zb_1, zb_0, not_true_eq_false, not_false_eq_true, mo_c, mo_g0, mo_s0, mo_g1, mo_g2, mo_g3, mo_s3, mo_g4, mo_s4, mo_g5, mo_s5, mo_g6, mo_s6, mo_g7, mo_s7, mo_g8, mo_s8, mo_g9, mo_g10, mo_g11, mo_g12, mo_g13, mo_s13, mo_g14, mo_s14, mo_g15, mo_s15, mo_g16, mo_g17, mo_s17, mo_g18, mo_s18, mo_g19, mo_g20, mo_s20, mo_g21, mo_s21, mo_g22, mo_s22, mo_g23, mo_s23, ra_25, wa_25, al_25, ra_68, wa_68, al_68, ra_69, wa_69, al_69, ra_70, wa_70, al_70, ra_71, wa_71, al_71, ra_72, wa_72, al_72, ra_73, wa_73, al_73, ra_74, wa_74, al_74, ra_75, wa_75, al_75, w5, w6, w7]
    · rw [c2.1 73 (by decide) (by decide), rq 73 (by decide) (by decide)]
  | inr y' =>
    obtain ⟨l, sk, wt⟩ := y'
    rw [hp] at o2
    obtain ⟨⟨y1, y2, y3, y4, y5, y6, y7, y8, y9, y10⟩, g1, g2⟩ := o2
    obtain ⟨μ3, hμ3⟩ : ∃ μ3, μ3 = fm_u (fm_u μ2 68 2 (nI (a + 1))) 68 7 (nI a) := ⟨_, rfl⟩
    obtain ⟨μ4, k4, f4, z4⟩ := mo_forgets (X := X) (d := e + 24) (τ := τ) (μ := μ3)
    have n68 : ∀ k, k ≠ 2 → k ≠ 7 → μ4 68 k = μ2 68 k := fun k b2 b7 => by rw [f4 68 (by decide), hμ3, fm_uk b7, fm_uk b2]
    have n67 : μ4 67 = μ2 67 := by rw [f4 67 (by decide), hμ3, fm_un (by decide), fm_un (by decide)]
    have w4 : μ4 67 4 = nI a := by rw [n67]; exact y1
    have lc := (park_ok hp).1
    refine ⟨nI a, μ4, (start.trans a2).trans ?_, ⟨fun q b1 b2 b3 => ?_, fun k b4 b5 b6 b7 b8 => ?_, fun k b2 b6 b7 b9 b14 b19 b24 => ?_, ?_⟩, rfl, ?_, ?_, ?_, ?_, ?_, fun i hi => ?_, z4⟩
    · have v2' := v2.trans h2
      rw [hμ3] at k4
      simp (disch := first | assumption | omega | decide) only [i135_0, i135_1, i135_4, i135_5, i135_6, i135_7, i135_10, i135_12, i135_13, i135_14, i135_15, i135_18, i135_19, i135_20, i135_23, i135_24, i135_25, i135_28, i135_30, i135_31, i135_34, i135_35, i135_38, i135_40, i135_41, i135_42, i135_43, i135_46, i135_49, i135_50, i135_53, i135_54, i135_56, i135_57, i135_58, i135_61, i135_64, i135_65, i135_68, i135_69, i135_70, i135_71, i135_72, i135_75, i135_78, i135_79, i135_82, i135_83, i135_84, i135_85, i135_86, i135_87, i135_90, i135_91, i135_92, i135_95, i135_96, i135_97, i135_100, i135_101, i135_102, i135_103, i135_106, i135_107, i135_110, i135_113, i135_114, i135_116, i135_119, i135_120, i135_123, i135_125, i135_128, i135_129, i135_130, i135_133, i135_134, i135_135, i135_138, i135_139, i135_142, i135_145, i135_148, i135_149, i135_152, i135_155, i135_156, i135_159, i135_160, i135_163, i135_166, i135_168, i135_169, i135_172, i135_173, i135_174, i135_175, i135_178, i135_179, i135_180, i135_181, i135_182, i135_183, i135_184, i135_185, i135_188, i135_190, i135_191, i135_194, i135_195, i135_196, i135_199, i135_200, i135_203, ix_pv_s, ix_pi_s, zpn, ix_po_s, ix_po_n, ix_ph_s, ix_bk_v, ix_bk_n, zcv, zcv_ne, ↓reduceIte, Nat.reduceEqDiff, zn_m1, zd_lt_p, zd_lt_n, zd_le_p, zd_le_n, zd_eq_p, zd_eq_n, zd_0_p, zd_0_n, zd_0lt_p, zd_0lt_n, zd_le0_p, zd_le0_n, zn_lt0, zn_le0, zn_add, zn_mul, zn_sub, zm_lt, zm_le, zm_eq, zb_1, zb_0, not_true_eq_false, not_false_eq_true, mo_c, mo_g0, mo_s0, mo_g1, mo_g2, mo_g3, mo_s3, mo_g4, mo_s4, mo_g5, mo_s5, mo_g6, mo_s6, mo_g7, mo_s7, mo_g8, mo_s8, mo_g9, mo_g10, mo_g11, mo_g12, mo_g13, mo_s13, mo_g14, mo_s14, mo_g15, mo_s15, mo_g16, mo_g17, mo_s17, mo_g18, mo_s18, mo_g19, mo_g20, mo_s20, mo_g21, mo_s21, mo_g22, mo_s22, mo_g23, mo_s23, ra_25, wa_25, al_25, ra_68, wa_68, al_68, ra_69, wa_69, al_69, ra_70, wa_70, al_70, ra_71, wa_71, al_71, ra_72, wa_72, al_72, ra_73, wa_73, al_73, ra_74, wa_74, al_74, ra_75, wa_75, al_75, y4, y2, y3, v2', y1, fm_un, k4, w4]
    · rw [f4 q b3, hμ3, fm_un b2, fm_un b2]; exact mp.1 q b1 b2 b3
    · rw [n67]; exact mp.2.1 k b4 b5 b6 b7 b8
    · rw [n68 k b2 b7]; exact mp.2.2.1 k b2 b6 b7 b9 b14 b19 b24
    · rw [n68 6 (by decide) (by decide)]; exact mp.2.2.2
    · rw [f4 68 (by decide), hμ3, fm_uk (by decide), fm_us]
    · rw [f4 68 (by decide), hμ3, fm_us]
    · rw [n68 _ (by omega) (by omega)]; exact g1
    · rw [n68 _ (by omega) (by omega)]; exact g2
    · rw [n68 _ (by omega) (by omega)]; exact y7
    · rw [n68 _ (by omega) (by omega)]; exact y8 i hi
end PK2
