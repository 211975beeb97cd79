/-! ===== image ===== -/
--need 60.macts
section IM
variable {X : ix_X} {d : Nat} {τ : List fm_D} {μ μ' : fm_M} {S I : Nat → Int32} {N : Nat → Nat} {C : Nat → List Nat} {Q : Nat → Nat}
/-- the row's first 924 numbers say it all -/
theorem sI_ext (h : sI S N C) (e : ∀ k, k < 924 → I k = S k) : sI I N C := by
  obtain ⟨i1, i2, i3, i4, i5, i6, i7, i8, i9, i10⟩ := h
  obtain ⟨b0, b1, b2, b3, b4, b5, b6, b8, b9, b10⟩ := id i2
  have hok : ∀ k b, k < 924 → okN S k b → okN I k b := fun k b hk ho => by
    obtain ⟨m, m1, m2⟩ := ho
    exact ⟨m, m1, (e k hk).trans m2⟩
  refine ⟨fun k k1 k2 => (e k (by omega)).trans (i1 k k1 k2), i2, (e 7 (by omega)).trans i3, ?_, ?_, ?_, ?_, ?_, ?_, ?_⟩
  · intro t ht
    obtain ⟨a, b, c, f⟩ := i4 t ht
    exact ⟨hok _ _ (by omega) a, hok _ _ (by omega) b, hok _ _ (by omega) c, hok _ _ (by omega) f⟩
  · intro i hi
    obtain ⟨⟨m, a, b, c⟩, f⟩ := i5 i hi
    exact ⟨⟨m, a, b, (e _ (by omega)).trans c⟩, hok _ _ (by omega) f⟩
  · intro i hi
    obtain ⟨a, b⟩ := i6 i hi
    rw [e (69 + i) (by omega)]
    exact ⟨a, hok _ _ (by omega) b⟩
  · intro i hi
    obtain ⟨a, b⟩ := i7 i hi
    rw [e (77 + i) (by omega)]
    exact ⟨a, hok _ _ (by omega) b⟩
  · intro i hi
    obtain ⟨a, b, c⟩ := i8 i hi
    rw [e (85 + i) (by omega)]
    exact ⟨a, hok _ _ (by omega) b, hok _ _ (by omega) c⟩
  · intro a ha
    obtain ⟨c1, c2, c3, c4, c5, c6⟩ := i9 a ha
    exact ⟨(e _ (by omega)).trans c1, c2, fun i hi => (e _ (by omega)).trans (c3 i hi), c4, hok _ _ (by omega) c5, hok _ _ (by omega) c6⟩
  · exact fun t ht k hk => hok _ _ (by omega) (i10 t ht k hk)
/-- rows kept -/
def kp6 (r n : Nat) (μ μ' : fm_M) : Prop := (∀ q, q ≠ r → q ≠ r + 2 → μ' q = μ q) ∧ (∀ k, k ≠ 5 → μ' r k = μ r k) ∧ μ' r 5 = μ r 4 ∧ ∀ i, i < n → μ' (r + 2) i = μ (r + 1) i
theorem cl_keep {r n : Nat} (hA : rwA r n) (h31 : n < 10000) : ∃ μ' : fm_M, ix_call X d 29 [.ref r] (fm_W μ τ) = some (none, fm_W μ' τ) ∧ kp6 r n μ μ' := by
  refine ⟨_, rw_keep hA h31, fun q a b => ?_, fun k hk => ?_, fm_us, fun i hi => ?_⟩
  · rw [fm_un a, fm_rn b]
  · rw [fm_uk hk, fm_rn (by omega)]
  · rw [fm_un (by omega), fm_rs, if_pos hi]
/-- trees kept: the first i of n -/
def kpt (μ μ' : fm_M) (S : Nat → Int32) (Q : Nat → Nat) (n i : Nat) : Prop := (∀ r, r < 76 → μ' r = μ r) ∧ (∀ t, t < n → μ' (Q t) 1 = μ (Q t) 1 ∧ (S (11 + t) = nI 6 → μ' (Q t + 1) = μ (Q t + 1))) ∧ ∀ t, t < i → μ' (Q t) 2 = μ (Q t) 1 ∧ (S (11 + t) = nI 6 → ∀ k, k < 4 → μ' (Q t + 2) k = μ (Q t + 1) k)
theorem to_cp12 {q t : Nat} (ho : toO τ q t) : ix_cpyh (fm_W μ τ) (q + 1) (q + 2) (nI 0) (nI 0) (nI 4) = some (fm_W (fm_r μ (q + 2) (fun i => if i < 4 then μ (q + 1) i else μ (q + 2) i)) τ) := fm_cp ho.2.1 ho.2.2 (Nat.le_refl _) (Nat.le_refl _) (by decide)
theorem to_cp21 {q t : Nat} (ho : toO τ q t) : ix_cpyh (fm_W μ τ) (q + 2) (q + 1) (nI 0) (nI 0) (nI 4) = some (fm_W (fm_r μ (q + 1) (fun i => if i < 4 then μ (q + 2) i else μ (q + 1) i)) τ) := fm_cp ho.2.2 ho.2.1 (Nat.le_refl _) (Nat.le_refl _) (by decide)
theorem cl_tkeep {q c t : Nat} {rest : List Nat} (hO : trO τ q c t rest) : ix_call X d 55 [.ref q] (fm_W μ τ) = some (none, fm_W (fm_u μ q 2 (μ q 1)) τ) := by
  have hcc := hO.2.2
  simp (disch := first | assumption | omega | decide) only [e55, i55_0, i55_1, i55_2, i55_5, i55_8, ix_pv_s, ix_pi_s, zpn, ix_po_s, ix_po_n, ix_ph_s, ix_bk_v, ix_bk_n, zcv, zcv_ne, ↓reduceIte, Nat.reduceEqDiff, tr_g1 hO, tr_s2 hO]
theorem cl_tback {q c t : Nat} {rest : List Nat} (hO : trO τ q c t rest) : ix_call X d 56 [.ref q] (fm_W μ τ) = some (none, fm_W (fm_u μ q 1 (μ q 2)) τ) := by
  have hcc := hO.2.2
  simp (disch := first | assumption | omega | decide) only [e56, i56_0, i56_1, i56_2, i56_5, i56_8, ix_pv_s, ix_pi_s, zpn, ix_po_s, ix_po_n, ix_ph_s, ix_bk_v, ix_bk_n, zcv, zcv_ne, ↓reduceIte, Nat.reduceEqDiff, tr_g2 hO, tr_s1 hO]
theorem cl_okeep {q t : Nat} (ho : toO τ q t) : ix_call X (d + 1) 46 [.ref q] (fm_W μ τ) = some (none, fm_W (fm_r (fm_u μ q 2 (μ q 1)) (q + 2) (fun i => if i < 4 then μ (q + 1) i else μ (q + 2) i)) τ) := by
  have k1 := cl_tkeep (X := X) (d := d) (μ := μ) ho.1
  have k2 := to_cp12 (μ := fm_u μ q 2 (μ q 1)) ho
  rw [fm_un (show q + 1 ≠ q by omega), fm_un (show q + 2 ≠ q by omega)] at k2
  simp (disch := first | assumption | omega | decide) only [e46, i46_0, i46_1, i46_4, i46_5, i46_8, i46_9, i46_10, i46_13, i46_14, i46_15, i46_18, i46_19, i46_22, ix_pv_s, ix_pi_s, zpn, ix_po_s, ix_po_n, ix_ph_s, ix_bk_v, ix_bk_n, zcv, zcv_ne, ↓reduceIte, Nat.reduceEqDiff, tr_c ho.1, k1, to_g3 ho, to_g4 ho, to_al1 ho, k2]
theorem cl_oback {q t : Nat} (ho : toO τ q t) : ix_call X (d + 1) 47 [.ref q] (fm_W μ τ) = some (none, fm_W (fm_r (fm_u μ q 1 (μ q 2)) (q + 1) (fun i => if i < 4 then μ (q + 2) i else μ (q + 1) i)) τ) := by
  have k1 := cl_tback (X := X) (d := d) (μ := μ) ho.1
  have k2 := to_cp21 (μ := fm_u μ q 1 (μ q 2)) ho
  rw [fm_un (show q + 1 ≠ q by omega), fm_un (show q + 2 ≠ q by omega)] at k2
  simp (disch := first | assumption | omega | decide) only [e47, i47_0, i47_1, i47_4, i47_5, i47_8, i47_9, i47_10, i47_13, i47_14, i47_15, i47_18, i47_19, i47_22, ix_pv_s, ix_pi_s, zpn, ix_po_s, ix_po_n, ix_ph_s, ix_bk_v, ix_bk_n, zcv, zcv_ne, ↓reduceIte, Nat.reduceEqDiff, tr_c ho.1, k1, to_g3 ho, to_g4 ho, to_al1 ho, k2]
/-- a tree by its kind -/
theorem QI_kc (h : QI μ τ S N C Q) {t : Nat} (ht : t < N 0) : (S (11 + t) = nI 6 ∧ toO τ (Q t) t) ∨ (¬ S (11 + t) = nI 6 ∧ ∃ c rest, trO τ (Q t) c t rest ∧ (c = 0 ∨ c = 1 ∨ c = 2 ∨ c = 6 ∨ c = 7 ∨ c = 9)) := by
  obtain ⟨_, _, ⟨kind, hT⟩, _⟩ := QI_tree h ht
  by_cases h6 : S (11 + t) = nI 6
  · exact Or.inl ⟨h6, (QI_told h ht h6).1⟩
  · have hk := hT.1
    have hk6 := hT.2.1
    have hne : kind ≠ 6 := fun e => h6 (by rw [hk, e])
    obtain ⟨rest, hO⟩ := hT.2.2.1
    refine Or.inr ⟨h6, kc kind, rest, hO, ?_⟩
    rcases (by omega : kind = 0 ∨ kind = 1 ∨ kind = 2 ∨ kind = 3 ∨ kind = 4 ∨ kind = 5) with rfl | rfl | rfl | rfl | rfl | rfl <;> decide
theorem cl_kpL (h : QI μ τ S N C Q) : ∀ (k i : Nat) (μ1 : fm_M) (x2 : Option Value), kpt μ μ1 S Q (N 0) i → i + k = N 0 → ∃ (x1 y2 : Option Value) (μ2 : fm_M), ix_sem X (d + 6) 129 2 [some (.ref 0), some (.int (nI i)), x2] [] (fm_W μ1 τ) = ix_sem X (d + 6) 129 31 [some (.ref 0), x1, y2] [] (fm_W μ2 τ) ∧ kpt μ μ2 S Q (N 0) (N 0)
  | 0, i, μ1, x2, hp, e => by
    have hb := QI_b h
    have nb : nbS μ1 := by unfold nbS; rw [hp.1 1 (by decide)]; exact QI_nb h
    have k1 := cl_number (X := X) (d := d + 4) (τ := τ) (k := 4) nb (by decide)
    rw [hp.1 2 (by decide), QI_n h] at k1
    have ei : i = N 0 := by omega
    refine ⟨some (.int (nI i)), x2, μ1, ?_, by rw [ei] at hp; exact hp⟩
    simp (disch := first | assumption | omega | decide) only [i129_0, i129_1, i129_2, i129_3, i129_4, i129_5, i129_8, i129_11, i129_12, i129_13, i129_16, i129_16n, i129_17, i129_17n, i129_18n, i129_18, i129_21, i129_21n, i129_22, i129_25, i129_28, i129_32, i129_35, i129_38, i129_39, i129_42, i129_45, i129_46, i129_49, i129_52, i129_53, i129_56, i129_59, i129_60, i129_63, i129_66, i129_67, i129_70, i129_73, i129_74, i129_75, i129_78, i129_79, i129_80, i129_83, ix_pv_s, ix_pi_s, zpn, ix_po_s, ix_po_n, ix_ph_s, ix_bk_v, ix_bk_n, zcv, zcv_ne, ↓reduceIte, Nat.reduceEqDiff, zn_m1, zd_lt_p, zd_lt_n, zd_le_p, zd_le_n, zd_eq_p, zd_eq_n, zd_0_p, zd_0_n, zd_0lt_p, zd_0lt_n, zd_le0_p, zd_le0_n, zn_lt0, zn_le0, zn_add, zn_mul, zn_sub, zm_lt, zm_le, zm_eq, zb_1, zb_0, not_true_eq_false, not_false_eq_true, t0_c, t0_g0, t0_g1, t0_g2, t0_g3, t0_g4, t0_g5, t0_g6, t0_g7, t0_g8, t0_g9, t0_g10, t0_s11, t0_g12, t0_s12, t0_g13, t0_g14, t0_g15, t0_g16, t0_c, rw_c, k1]
  | k + 1, i, μ1, x2, hp, e => by
    have hb := QI_b h
    have hi : i < N 0 := by omega
    have nb : nbS μ1 := by unfold nbS; rw [hp.1 1 (by decide)]; exact QI_nb h
    have n4 : μ1 2 4 = nI (N 0) := by rw [hp.1 2 (by decide)]; exact QI_n h
    have k1 := cl_number (X := X) (d := d + 4) (τ := τ) (k := 4) nb (by decide)
    rw [n4] at k1
    obtain ⟨w1, w2, _, _⟩ := QI_tree h hi
    have hc := cl_treeAt (X := X) (d := d + 3) (τ := τ) (μ := μ1) (i := i) (q := Q i) nb n4 hb.1 hi (by rw [hp.1 22 (by decide)]; exact w1) (by omega)
    have q76 : ∀ t, t < N 0 → 76 ≤ Q t := fun t ht => by
      obtain ⟨c, rest, hO⟩ := QI_trO h ht
      exact hO.2.1
    have q76i := q76 i hi
    rcases QI_kc h hi with ⟨h6, ho⟩ | ⟨h6, c, rest, hO, hc6⟩
    · have kk := cl_okeep (X := X) (d := d + 4) (μ := μ1) ho
      have hcl := tr_c (μ := μ1) ho.1
      obtain ⟨μ2, hμ2⟩ : ∃ μ2, μ2 = fm_r (fm_u μ1 (Q i) 2 (μ1 (Q i) 1)) (Q i + 2) (fun j => if j < 4 then μ1 (Q i + 1) j else μ1 (Q i + 2) j) := ⟨_, rfl⟩
      rw [← hμ2] at kk
      have row : ∀ r, r ≠ Q i → r ≠ Q i + 2 → μ2 r = μ1 r := fun r a b => by rw [hμ2, fm_rn b, fm_un a]
      have q1 : ∀ k, k ≠ 2 → μ2 (Q i) k = μ1 (Q i) k := fun k a => by rw [hμ2, fm_rn (by omega), fm_uk a]
      have q2 : μ2 (Q i) 2 = μ1 (Q i) 1 := by rw [hμ2, fm_rn (by omega), fm_us]
      have q3 : ∀ k, k < 4 → μ2 (Q i + 2) k = μ1 (Q i + 1) k := fun k a => by rw [hμ2, fm_rs, if_pos a]
      have hst : kpt μ μ2 S Q (N 0) (i + 1) := by
        refine ⟨fun r hr => by rw [row r (by omega) (by omega)]; exact hp.1 r hr, fun t ht => ?_, fun t ht => ?_⟩
        · obtain ⟨a1, a2⟩ := QI_arr h ht ho
          by_cases et : t = i
          · subst et
            exact ⟨by rw [q1 1 (by decide)]; exact (hp.2.1 t ht).1, fun h6' => by rw [row _ (by omega) (by omega)]; exact (hp.2.1 t ht).2 h6'⟩
          · have hs := QI_sep h ht hi et
            refine ⟨by rw [row _ hs a2]; exact (hp.2.1 t ht).1, fun h6' => ?_⟩
            obtain ⟨c1, c2⟩ := QI_arr h hi (QI_told h ht h6').1
            have c3 : Q t + 1 ≠ Q i + 2 := by omega
            rw [row _ (Ne.symm c1) c3]
            exact (hp.2.1 t ht).2 h6'
        · have htn : t < N 0 := by omega
          obtain ⟨a1, a2⟩ := QI_arr h htn ho
          by_cases et : t = i
          · subst et
            refine ⟨q2.trans (hp.2.1 t htn).1, fun h6' j hj => ?_⟩
            rw [q3 j hj, (hp.2.1 t htn).2 h6']
          · have hs := QI_sep h htn hi et
            obtain ⟨p1, p2⟩ := hp.2.2 t (by omega)
            refine ⟨by rw [row _ hs a2]; exact p1, fun h6' j hj => ?_⟩
            obtain ⟨c1, c2⟩ := QI_arr h hi (QI_told h htn h6').1
            rw [row _ (Ne.symm c2) (by omega)]
            exact p2 h6' j hj
      obtain ⟨x1, y2, μ3, a3, p3⟩ := cl_kpL h k (i + 1) μ2 (some (.ref (Q i))) hst (by omega)
      refine ⟨x1, y2, μ3, ?_, p3⟩
      rw [← a3, i129_2]
      simp (disch := first | assumption | omega | decide) only [i129_0, i129_1, i129_3, i129_4, i129_5, i129_8, i129_11, i129_12, i129_13, i129_16, i129_16n, i129_17, i129_17n, i129_18n, i129_18, i129_21, i129_21n, i129_22, i129_25, i129_28, i129_32, i129_35, i129_38, i129_39, i129_42, i129_45, i129_46, i129_49, i129_52, i129_53, i129_56, i129_59, i129_60, i129_63, i129_66, i129_67, i129_70, i129_73, i129_74, i129_75, i129_78, i129_79, i129_80, i129_83, ix_pv_s, ix_pi_s, zpn, ix_po_s, ix_po_n, ix_ph_s, ix_bk_v, ix_bk_n, zcv, zcv_ne, ↓reduceIte, Nat.reduceEqDiff, zn_m1, zd_lt_p, zd_lt_n, zd_le_p, zd_le_n, zd_eq_p, zd_eq_n, zd_0_p, zd_0_n, zd_0lt_p, zd_0lt_n, zd_le0_p, zd_le0_n, zn_lt0, zn_le0, zn_add, zn_mul, zn_sub, zm_lt, zm_le, zm_eq, zb_1, zb_0, not_true_eq_false, not_false_eq_true, t0_c, t0_g0, t0_g1, t0_g2, t0_g3, t0_g4, t0_g5, t0_g6, t0_g7, t0_g8, t0_g9, t0_g10, t0_s11, t0_g12, t0_s12, t0_g13, t0_g14, t0_g15, t0_g16, t0_c, rw_c, k1, hc, hcl, kk]
    · have kk := cl_tkeep (X := X) (d := d + 5) (μ := μ1) hO
      have hcl := tr_c (μ := μ1) hO
      obtain ⟨μ2, hμ2⟩ : ∃ μ2, μ2 = fm_u μ1 (Q i) 2 (μ1 (Q i) 1) := ⟨_, rfl⟩
      rw [← hμ2] at kk
      have row : ∀ r, r ≠ Q i → μ2 r = μ1 r := fun r a => by rw [hμ2, fm_un a]
      have q1 : ∀ k, k ≠ 2 → μ2 (Q i) k = μ1 (Q i) k := fun k a => by rw [hμ2, fm_uk a]
      have q2 : μ2 (Q i) 2 = μ1 (Q i) 1 := by rw [hμ2, fm_us]
      have hst : kpt μ μ2 S Q (N 0) (i + 1) := by
        refine ⟨fun r hr => by rw [row r (by omega)]; exact hp.1 r hr, fun t ht => ?_, fun t ht => ?_⟩
        · by_cases et : t = i
          · subst et
            exact ⟨by rw [q1 1 (by decide)]; exact (hp.2.1 t ht).1, fun h6' => absurd h6' h6⟩
          · have hs := QI_sep h ht hi et
            refine ⟨by rw [row _ hs]; exact (hp.2.1 t ht).1, fun h6' => ?_⟩
            obtain ⟨c1, c2⟩ := QI_arr h hi (QI_told h ht h6').1
            rw [row _ (Ne.symm c1)]
            exact (hp.2.1 t ht).2 h6'
        · have htn : t < N 0 := by omega
          by_cases et : t = i
          · subst et
            exact ⟨q2.trans (hp.2.1 t htn).1, fun h6' => absurd h6' h6⟩
          · have hs := QI_sep h htn hi et
            obtain ⟨p1, p2⟩ := hp.2.2 t (by omega)
            refine ⟨by rw [row _ hs]; exact p1, fun h6' j hj => ?_⟩
            obtain ⟨c1, c2⟩ := QI_arr h hi (QI_told h htn h6').1
            rw [row _ (Ne.symm c2)]
            exact p2 h6' j hj
      obtain ⟨x1, y2, μ3, a3, p3⟩ := cl_kpL h k (i + 1) μ2 (some (.ref (Q i))) hst (by omega)
      refine ⟨x1, y2, μ3, ?_, p3⟩
      rw [← a3, i129_2]
      rcases hc6 with rfl | rfl | rfl | rfl | rfl | rfl <;> simp (disch := first | assumption | omega | decide) only [i129_0, i129_1, i129_3, i129_4, i129_5, i129_8, i129_11, i129_12, i129_13, i129_16, i129_16n, i129_17, i129_17n, i129_18n, i129_18, i129_21, i129_21n, i129_22, i129_25, i129_28, i129_32, i129_35, i129_38, i129_39, i129_42, i129_45, i129_46, i129_49, i129_52, i129_53, i129_56, i129_59, i129_60, i129_63, i129_66, i129_67, i129_70, i129_73, i129_74, i129_75, i129_78, i129_79, i129_80, i129_83, ix_pv_s, ix_pi_s, zpn, ix_po_s, ix_po_n, ix_ph_s, ix_bk_v, ix_bk_n, zcv, zcv_ne, ↓reduceIte, Nat.reduceEqDiff, zn_m1, zd_lt_p, zd_lt_n, zd_le_p, zd_le_n, zd_eq_p, zd_eq_n, zd_0_p, zd_0_n, zd_0lt_p, zd_0lt_n, zd_le0_p, zd_le0_n, zn_lt0, zn_le0, zn_add, zn_mul, zn_sub, zm_lt, zm_le, zm_eq, zb_1, zb_0, not_true_eq_false, not_false_eq_true, t0_c, t0_g0, t0_g1, t0_g2, t0_g3, t0_g4, t0_g5, t0_g6, t0_g7, t0_g8, t0_g9, t0_g10, t0_s11, t0_g12, t0_s12, t0_g13, t0_g14, t0_g15, t0_g16, t0_c, rw_c, k1, hc, hcl, kk]
theorem mo_imL : ∀ (k i : Nat) (μ : fm_M), i + k = 924 → ∃ μ' : fm_M, ix_sem X (d + 1) 221 2 [some (.ref 67), some (.int (nI i))] [] (fm_W μ τ) = ix_sem X (d + 1) 221 27 [some (.ref 67), some (.int (nI 924))] [] (fm_W μ' τ) ∧ (∀ r, r ≠ 69 → μ' r = μ r) ∧ (∀ j, j < i → μ' 69 j = μ 69 j) ∧ ∀ j, i ≤ j → j < 924 → μ' 69 j = μ 68 j
  | 0, i, μ, e => by
    have ei : i = 924 := by omega
    subst ei
    refine ⟨μ, ?_, fun _ _ => rfl, fun _ _ => rfl, fun j a b => by omega⟩
    simp (disch := first | assumption | omega | decide) only [i221_0, i221_1, i221_2, i221_3, i221_6, i221_9, i221_10, i221_13, i221_14, i221_15, i221_18, i221_19, i221_20, i221_21, i221_24, i221_28, i221_29, i221_32, i221_33, i221_36, i221_37, i221_38, ix_pv_s, ix_pi_s, zpn, ix_po_s, ix_po_n, ix_ph_s, ix_bk_v, ix_bk_n, zcv, zcv_ne, ↓reduceIte, Nat.reduceEqDiff, zn_m1, zd_lt_p, zd_lt_n, zd_le_p, zd_le_n, zd_eq_p, zd_eq_n, zd_0_p, zd_0_n, zd_0lt_p, zd_0lt_n, zd_le0_p, zd_le0_n, zn_lt0, zn_le0, zn_add, zn_mul, zn_sub, zm_lt, zm_le, zm_eq, zb_1, zb_0, not_true_eq_false, not_false_eq_true, mo_c, mo_g0, mo_s0, mo_g1, mo_g2, mo_g3, mo_s3, mo_g4, mo_s4, mo_g5, mo_s5, mo_g6, mo_s6, mo_g7, mo_s7, mo_g8, mo_s8, mo_g9, mo_g10, mo_g11, mo_g12, mo_g13, mo_s13, mo_g14, mo_s14, mo_g15, mo_s15, mo_g16, mo_g17, mo_s17, mo_g18, mo_s18, mo_g19, mo_g20, mo_s20, mo_g21, mo_s21, mo_g22, mo_s22, mo_g23, mo_s23, ra_25, wa_25, al_25, ra_68, wa_68, al_68, ra_69, wa_69, al_69, ra_70, wa_70, al_70, ra_71, wa_71, al_71, ra_72, wa_72, al_72, ra_73, wa_73, al_73, ra_74, wa_74, al_74, ra_75, wa_75, al_75]
  | k + 1, i, μ, e => by
    obtain ⟨μ', a, b, c, f⟩ := mo_imL k (i + 1) (fm_u μ 69 i (μ 68 i)) (by omega)
    refine ⟨μ', ?_, fun r hr => (b r hr).trans (fm_un hr), fun j hj => (c j (by omega)).trans (fm_uk (by omega)), fun j h1 h2 => ?_⟩
    · rw [← a, i221_2]
      simp (disch := first | assumption | omega | decide) only [i221_0, i221_1, i221_3, i221_6, i221_9, i221_10, i221_13, i221_14, i221_15, i221_18, i221_19, i221_20, i221_21, i221_24, i221_28, i221_29, i221_32, i221_33, i221_36, i221_37, i221_38, ix_pv_s, ix_pi_s, zpn, ix_po_s, ix_po_n, ix_ph_s, ix_bk_v, ix_bk_n, zcv, zcv_ne, ↓reduceIte, Nat.reduceEqDiff, zn_m1, zd_lt_p, zd_lt_n, zd_le_p, zd_le_n, zd_eq_p, zd_eq_n, zd_0_p, zd_0_n, zd_0lt_p, zd_0lt_n, zd_le0_p, zd_le0_n, zn_lt0, zn_le0, zn_add, zn_mul, zn_sub, zm_lt, zm_le, zm_eq, zb_1, zb_0, not_true_eq_false, not_false_eq_true, mo_c, mo_g0, mo_s0, mo_g1, mo_g2, mo_g3, mo_s3, mo_g4, mo_s4, mo_g5, mo_s5, mo_g6, mo_s6, mo_g7, mo_s7, mo_g8, mo_s8, mo_g9, mo_g10, mo_g11, mo_g12, mo_g13, mo_s13, mo_g14, mo_s14, mo_g15, mo_s15, mo_g16, mo_g17, mo_s17, mo_g18, mo_s18, mo_g19, mo_g20, mo_s20, mo_g21, mo_s21, mo_g22, mo_s22, mo_g23, mo_s23, ra_25, wa_25, al_25, ra_68, wa_68, al_68, ra_69, wa_69, al_69, ra_70, wa_70, al_70, ra_71, wa_71, al_71, ra_72, wa_72, al_72, ra_73, wa_73, al_73, ra_74, wa_74, al_74, ra_75, wa_75, al_75]
    · by_cases ej : j = i
      · subst ej
        exact (c j (by omega)).trans fm_us
      · exact (f j (by omega) h2).trans (by rw [fm_un (by decide)])
theorem agm_image : agm X (d + 6) τ S N C Q 129 221 [] := by
  intro μ h
  have hb := QI_b h
  have e68 := QI_68 h
  have e0 := QI_S h (k := 0) (by decide) (by decide)
  have hO1 : rwO 1 := rfl
  have hO4 : rwO 4 := rfl
  have hO7 : rwO 7 := rfl
  have hO10 : rwO 10 := rfl
  have hO13 : rwO 13 := rfl
  have hO16 : rwO 16 := rfl
  obtain ⟨x1, y2, μ0, a0, kp0⟩ := cl_kpL (X := X) (d := d) h (N 0) 0 μ none ⟨fun _ _ => rfl, fun _ _ => ⟨rfl, fun _ => rfl⟩, fun t ht => absurd ht (by omega)⟩ (by omega)
  obtain ⟨μ1, a1, k1⟩ := cl_keep (X := X) (d := d + 5) (τ := τ) (μ := μ0) (r := 1) (n := 5) ⟨rfl, rfl, rfl⟩ (by decide)
  obtain ⟨μ2, a2, k2⟩ := cl_keep (X := X) (d := d + 5) (τ := τ) (μ := μ1) (r := 4) (n := 100) ⟨rfl, rfl, rfl⟩ (by decide)
  obtain ⟨μ3, a3, k3⟩ := cl_keep (X := X) (d := d + 5) (τ := τ) (μ := μ2) (r := 7) (n := 10) ⟨rfl, rfl, rfl⟩ (by decide)
  obtain ⟨μ4, a4, k4⟩ := cl_keep (X := X) (d := d + 5) (τ := τ) (μ := μ3) (r := 10) (n := 8) ⟨rfl, rfl, rfl⟩ (by decide)
  obtain ⟨μ5, a5, k5⟩ := cl_keep (X := X) (d := d + 5) (τ := τ) (μ := μ4) (r := 13) (n := 8) ⟨rfl, rfl, rfl⟩ (by decide)
  obtain ⟨μ6, a6, k6⟩ := cl_keep (X := X) (d := d + 5) (τ := τ) (μ := μ5) (r := 16) (n := 24) ⟨rfl, rfl, rfl⟩ (by decide)
  -- what stands after the six
  have all6 : ∀ q, q ≠ 1 → q ≠ 3 → q ≠ 4 → q ≠ 6 → q ≠ 7 → q ≠ 9 → q ≠ 10 → q ≠ 12 → q ≠ 13 → q ≠ 15 → q ≠ 16 → q ≠ 18 → μ6 q = μ0 q := fun q c1 c3 c4 c6 c7 c9 c10 c12 c13 c15 c16 c18 => by rw [k6.1 q c16 c18, k5.1 q c13 c15, k4.1 q c10 c12, k3.1 q c7 c9, k2.1 q c4 c6, k1.1 q c1 c3]
  have g1 : μ6 1 = μ1 1 := by rw [k6.1 1 (by decide) (by decide), k5.1 1 (by decide) (by decide), k4.1 1 (by decide) (by decide), k3.1 1 (by decide) (by decide), k2.1 1 (by decide) (by decide)]
  have g3 : μ6 3 = μ1 3 := by rw [k6.1 3 (by decide) (by decide), k5.1 3 (by decide) (by decide), k4.1 3 (by decide) (by decide), k3.1 3 (by decide) (by decide), k2.1 3 (by decide) (by decide)]
  have g4 : μ6 4 = μ2 4 := by rw [k6.1 4 (by decide) (by decide), k5.1 4 (by decide) (by decide), k4.1 4 (by decide) (by decide), k3.1 4 (by decide) (by decide)]
  have g6 : μ6 6 = μ2 6 := by rw [k6.1 6 (by decide) (by decide), k5.1 6 (by decide) (by decide), k4.1 6 (by decide) (by decide), k3.1 6 (by decide) (by decide)]
  have g7 : μ6 7 = μ3 7 := by rw [k6.1 7 (by decide) (by decide), k5.1 7 (by decide) (by decide), k4.1 7 (by decide) (by decide)]
  have g9 : μ6 9 = μ3 9 := by rw [k6.1 9 (by decide) (by decide), k5.1 9 (by decide) (by decide), k4.1 9 (by decide) (by decide)]
  have g10 : μ6 10 = μ4 10 := by rw [k6.1 10 (by decide) (by decide), k5.1 10 (by decide) (by decide)]
  have g12 : μ6 12 = μ4 12 := by rw [k6.1 12 (by decide) (by decide), k5.1 12 (by decide) (by decide)]
  have g13 : μ6 13 = μ5 13 := by rw [k6.1 13 (by decide) (by decide)]
  have g15 : μ6 15 = μ5 15 := by rw [k6.1 15 (by decide) (by decide)]
  have p1 : μ1 2 = μ0 2 := k1.1 2 (by decide) (by decide)
  have l4 : μ1 4 = μ0 4 := k1.1 4 (by decide) (by decide)
  have l5 : μ1 5 = μ0 5 := k1.1 5 (by decide) (by decide)
  have l7 : μ2 7 = μ0 7 := by rw [k2.1 7 (by decide) (by decide), k1.1 7 (by decide) (by decide)]
  have l8 : μ2 8 = μ0 8 := by rw [k2.1 8 (by decide) (by decide), k1.1 8 (by decide) (by decide)]
  have l10 : μ3 10 = μ0 10 := by rw [k3.1 10 (by decide) (by decide), k2.1 10 (by decide) (by decide), k1.1 10 (by decide) (by decide)]
  have l11 : μ3 11 = μ0 11 := by rw [k3.1 11 (by decide) (by decide), k2.1 11 (by decide) (by decide), k1.1 11 (by decide) (by decide)]
  have l13 : μ4 13 = μ0 13 := by rw [k4.1 13 (by decide) (by decide), k3.1 13 (by decide) (by decide), k2.1 13 (by decide) (by decide), k1.1 13 (by decide) (by decide)]
  have l14 : μ4 14 = μ0 14 := by rw [k4.1 14 (by decide) (by decide), k3.1 14 (by decide) (by decide), k2.1 14 (by decide) (by decide), k1.1 14 (by decide) (by decide)]
  have l16 : μ5 16 = μ0 16 := by rw [k5.1 16 (by decide) (by decide), k4.1 16 (by decide) (by decide), k3.1 16 (by decide) (by decide), k2.1 16 (by decide) (by decide), k1.1 16 (by decide) (by decide)]
  have l17 : μ5 17 = μ0 17 := by rw [k5.1 17 (by decide) (by decide), k4.1 17 (by decide) (by decide), k3.1 17 (by decide) (by decide), k2.1 17 (by decide) (by decide), k1.1 17 (by decide) (by decide)]
  have low : ∀ r, r < 76 → μ0 r = μ r := kp0.1
  obtain ⟨μ7, hμ7⟩ : ∃ μ7, μ7 = fm_u μ6 0 12 (nI 1) := ⟨_, rfl⟩
  have r7 : ∀ r, r ≠ 0 → μ7 r = μ6 r := fun r hr => by rw [hμ7, fm_un hr]
  have nb7 : nbS μ7 := by
    unfold nbS
    rw [r7 1 (by decide), g1, k1.2.1 1 (by decide), k1.2.1 4 (by decide), low 1 (by decide)]
    exact QI_nb h
  have kn := cl_number (X := X) (d := d + 4) (τ := τ) (μ := μ7) (k := 4) nb7 (by decide)
  have m2 : μ7 2 = μ 2 := by rw [r7 2 (by decide), all6 2 (by decide) (by decide) (by decide) (by decide) (by decide) (by decide) (by decide) (by decide) (by decide) (by decide) (by decide) (by decide), low 2 (by decide)]
  rw [m2, QI_n h] at kn
  -- the model
  obtain ⟨μ8, a8, f8, _, v8⟩ := mo_imL (X := X) (d := d + 5) (τ := τ) 924 0 μ7 rfl
  obtain ⟨μ9, hμ9⟩ : ∃ μ9, μ9 = fm_u μ8 67 3 (nI 1) := ⟨_, rfl⟩
  have row : ∀ r, r ≠ 0 → r ≠ 67 → r ≠ 69 → μ9 r = μ6 r := fun r c0 c67 c69 => by rw [hμ9, fm_un c67, f8 r c69, r7 r c0]
  have same : ∀ q, q ≠ 0 → q ≠ 67 → q ≠ 69 → q ≠ 1 → q ≠ 3 → q ≠ 4 → q ≠ 6 → q ≠ 7 → q ≠ 9 → q ≠ 10 → q ≠ 12 → q ≠ 13 → q ≠ 15 → q ≠ 16 → q ≠ 18 → q < 76 → μ9 q = μ q := fun q c0 c67 c69 c1 c3 c4 c6 c7 c9 c10 c12 c13 c15 c16 c18 hq => by rw [row q c0 c67 c69, all6 q c1 c3 c4 c6 c7 c9 c10 c12 c13 c15 c16 c18, low q hq]
  have big : ∀ q, 76 ≤ q → μ9 q = μ0 q := fun q hq => by rw [row q (by omega) (by omega) (by omega), all6 q (by omega) (by omega) (by omega) (by omega) (by omega) (by omega) (by omega) (by omega) (by omega) (by omega) (by omega) (by omega)]
  have s68 : μ9 68 = S := by rw [same 68 (by decide) (by decide) (by decide) (by decide) (by decide) (by decide) (by decide) (by decide) (by decide) (by decide) (by decide) (by decide) (by decide) (by decide) (by decide) (by decide), e68]
  have v9 : ∀ j, j < 924 → μ9 69 j = S j := fun j hj => by
    have e7 : μ7 68 = S := by rw [r7 68 (by decide), all6 68 (by decide) (by decide) (by decide) (by decide) (by decide) (by decide) (by decide) (by decide) (by decide) (by decide) (by decide) (by decide), low 68 (by decide), e68]
    rw [hμ9, fm_un (by decide), v8 j (by omega) hj, e7]
  have z0 : ∀ k, k ≠ 12 → μ9 0 k = μ 0 k := fun k hk => by rw [hμ9, fm_un (by decide), f8 0 (by decide), hμ7, fm_uk hk, all6 0 (by decide) (by decide) (by decide) (by decide) (by decide) (by decide) (by decide) (by decide) (by decide) (by decide) (by decide) (by decide), low 0 (by decide)]
  have z12 : μ9 0 12 = nI 1 := by rw [hμ9, fm_un (by decide), f8 0 (by decide), hμ7, fm_us]
  have z67 : ∀ k, k ≠ 3 → μ9 67 k = μ 67 k := fun k hk => by rw [hμ9, fm_uk hk, f8 67 (by decide), r7 67 (by decide), all6 67 (by decide) (by decide) (by decide) (by decide) (by decide) (by decide) (by decide) (by decide) (by decide) (by decide) (by decide) (by decide), low 67 (by decide)]
  have z3 : μ9 67 3 = nI 1 := by rw [hμ9, fm_us]
  have f68 : μ8 68 0 = nI (N 0) := by rw [f8 68 (by decide), r7 68 (by decide), all6 68 (by decide) (by decide) (by decide) (by decide) (by decide) (by decide) (by decide) (by decide) (by decide) (by decide) (by decide) (by decide), low 68 (by decide), e68, e0]
  obtain ⟨i, ⟨⟨⟨t1, t2⟩, ⟨t3, t4⟩, ⟨t5, t6⟩, ⟨t7, t8⟩, ⟨t9, t10⟩, ⟨t11, t12⟩⟩, j2, j3, j4, j5⟩, hcc, hm⟩ := h
  have S1 : ∀ k, k ≠ 5 → μ9 1 k = μ 1 k := fun k hk => by rw [row 1 (by decide) (by decide) (by decide), g1, k1.2.1 k hk, low 1 (by decide)]
  have S4 : ∀ k, k ≠ 5 → μ9 4 k = μ 4 k := fun k hk => by rw [row 4 (by decide) (by decide) (by decide), g4, k2.2.1 k hk, l4, low 4 (by decide)]
  have S7 : ∀ k, k ≠ 5 → μ9 7 k = μ 7 k := fun k hk => by rw [row 7 (by decide) (by decide) (by decide), g7, k3.2.1 k hk, l7, low 7 (by decide)]
  have S10 : ∀ k, k ≠ 5 → μ9 10 k = μ 10 k := fun k hk => by rw [row 10 (by decide) (by decide) (by decide), g10, k4.2.1 k hk, l10, low 10 (by decide)]
  have S13 : ∀ k, k ≠ 5 → μ9 13 k = μ 13 k := fun k hk => by rw [row 13 (by decide) (by decide) (by decide), g13, k5.2.1 k hk, l13, low 13 (by decide)]
  have S16 : ∀ k, k ≠ 5 → μ9 16 k = μ 16 k := fun k hk => by rw [row 16 (by decide) (by decide) (by decide), k6.2.1 k hk, l16, low 16 (by decide)]
  have sm : ∀ q, (q = 2 ∨ q = 5 ∨ q = 8 ∨ q = 11 ∨ q = 14 ∨ q = 17 ∨ (19 ≤ q ∧ q ≤ 66) ∨ q = 70 ∨ q = 71 ∨ q = 72 ∨ q = 73 ∨ q = 74 ∨ q = 75) → μ9 q = μ q := fun q hq => same q (by omega) (by omega) (by omega) (by omega) (by omega) (by omega) (by omega) (by omega) (by omega) (by omega) (by omega) (by omega) (by omega) (by omega) (by omega) (by omega)
  obtain ⟨b0, b1, b2, b3, b4, b5, b6, b8, b9, b10⟩ := id hb
  refine ⟨nI (N 0), μ7, μ9, S, N, C, Q, ?_, ?_, i, ⟨⟨?_, ?_, ?_, ?_, ?_, ?_⟩, ?_, ?_, ?_, ?_⟩, ?_, ?_⟩
  · refine Eq.trans ?_ (b := ix_sem X (d + 6) 129 31 [some (.ref 0), x1, y2] [] (fm_W μ0 τ)) ?_
    · refine Eq.trans ?_ a0
      simp (disch := first | assumption | omega | decide) only [e129, i129_0, i129_1, i129_3, i129_4, i129_5, i129_8, i129_11, i129_12, i129_13, i129_16, i129_16n, i129_17, i129_17n, i129_18n, i129_18, i129_21, i129_21n, i129_22, i129_25, i129_28, i129_31, i129_32, i129_35, i129_38, i129_39, i129_42, i129_45, i129_46, i129_49, i129_52, i129_53, i129_56, i129_59, i129_60, i129_63, i129_66, i129_67, i129_70, i129_73, i129_74, i129_75, i129_78, i129_79, i129_80, i129_83, ix_pv_s, ix_pi_s, zpn, ix_po_s, ix_po_n, ix_ph_s, ix_bk_v, ix_bk_n, zcv, zcv_ne, ↓reduceIte, Nat.reduceEqDiff, zn_m1, zd_lt_p, zd_lt_n, zd_le_p, zd_le_n, zd_eq_p, zd_eq_n, zd_0_p, zd_0_n, zd_0lt_p, zd_0lt_n, zd_le0_p, zd_le0_n, zn_lt0, zn_le0, zn_add, zn_mul, zn_sub, zm_lt, zm_le, zm_eq, zb_1, zb_0, not_true_eq_false, not_false_eq_true, t0_c, t0_g0, t0_g1, t0_g2, t0_g3, t0_g4, t0_g5, t0_g6, t0_g7, t0_g8, t0_g9, t0_g10, t0_s11, t0_g12, t0_s12, t0_g13, t0_g14, t0_g15, t0_g16, t0_c, rw_c]
    · rw [hμ7] at kn ⊢
      simp (disch := first | assumption | omega | decide) only [i129_0, i129_1, i129_2, i129_3, i129_4, i129_5, i129_8, i129_11, i129_12, i129_13, i129_16, i129_16n, i129_17, i129_17n, i129_18n, i129_18, i129_21, i129_21n, i129_22, i129_25, i129_28, i129_31, i129_32, i129_35, i129_38, i129_39, i129_42, i129_45, i129_46, i129_49, i129_52, i129_53, i129_56, i129_59, i129_60, i129_63, i129_66, i129_67, i129_70, i129_73, i129_74, i129_75, i129_78, i129_79, i129_80, i129_83, ix_pv_s, ix_pi_s, zpn, ix_po_s, ix_po_n, ix_ph_s, ix_bk_v, ix_bk_n, zcv, zcv_ne, ↓reduceIte, Nat.reduceEqDiff, zn_m1, zd_lt_p, zd_lt_n, zd_le_p, zd_le_n, zd_eq_p, zd_eq_n, zd_0_p, zd_0_n, zd_0lt_p, zd_0lt_n, zd_le0_p, zd_le0_n, zn_lt0, zn_le0, zn_add, zn_mul, zn_sub, zm_lt, zm_le, zm_eq, zb_1, zb_0, not_true_eq_false, not_false_eq_true, t0_c, t0_g0, t0_g1, t0_g2, t0_g3, t0_g4, t0_g5, t0_g6, t0_g7, t0_g8, t0_g9, t0_g10, t0_s11, t0_g12, t0_s12, t0_g13, t0_g14, t0_g15, t0_g16, t0_c, rw_c, a1, a2, a3, a4, a5, a6, kn]
  · refine Eq.trans ?_ (b := ix_sem X (d + 6) 221 27 [some (.ref 67), some (.int (nI 924))] [] (fm_W μ8 τ)) ?_
    · refine Eq.trans ?_ a8
      simp (disch := first | assumption | omega | decide) only [e221, i221_0, i221_1, i221_3, i221_6, i221_9, i221_10, i221_13, i221_14, i221_15, i221_18, i221_19, i221_20, i221_21, i221_24, i221_27, i221_28, i221_29, i221_32, i221_33, i221_36, i221_37, i221_38, ix_pv_s, ix_pi_s, zpn, ix_po_s, ix_po_n, ix_ph_s, ix_bk_v, ix_bk_n, zcv, zcv_ne, ↓reduceIte, Nat.reduceEqDiff, zn_m1, zd_lt_p, zd_lt_n, zd_le_p, zd_le_n, zd_eq_p, zd_eq_n, zd_0_p, zd_0_n, zd_0lt_p, zd_0lt_n, zd_le0_p, zd_le0_n, zn_lt0, zn_le0, zn_add, zn_mul, zn_sub, zm_lt, zm_le, zm_eq, zb_1, zb_0, not_true_eq_false, not_false_eq_true, mo_c, mo_g0, mo_s0, mo_g1, mo_g2, mo_g3, mo_s3, mo_g4, mo_s4, mo_g5, mo_s5, mo_g6, mo_s6, mo_g7, mo_s7, mo_g8, mo_s8, mo_g9, mo_g10, mo_g11, mo_g12, mo_g13, mo_s13, mo_g14, mo_s14, mo_g15, mo_s15, mo_g16, mo_g17, mo_s17, mo_g18, mo_s18, mo_g19, mo_g20, mo_s20, mo_g21, mo_s21, mo_g22, mo_s22, mo_g23, mo_s23, ra_25, wa_25, al_25, ra_68, wa_68, al_68, ra_69, wa_69, al_69, ra_70, wa_70, al_70, ra_71, wa_71, al_71, ra_72, wa_72, al_72, ra_73, wa_73, al_73, ra_74, wa_74, al_74, ra_75, wa_75, al_75]
    · rw [hμ9]
      simp (disch := first | assumption | omega | decide) only [i221_0, i221_1, i221_2, i221_3, i221_6, i221_9, i221_10, i221_13, i221_14, i221_15, i221_18, i221_19, i221_20, i221_21, i221_24, i221_27, i221_28, i221_29, i221_32, i221_33, i221_36, i221_37, i221_38, ix_pv_s, ix_pi_s, zpn, ix_po_s, ix_po_n, ix_ph_s, ix_bk_v, ix_bk_n, zcv, zcv_ne, ↓reduceIte, Nat.reduceEqDiff, zn_m1, zd_lt_p, zd_lt_n, zd_le_p, zd_le_n, zd_eq_p, zd_eq_n, zd_0_p, zd_0_n, zd_0lt_p, zd_0lt_n, zd_le0_p, zd_le0_n, zn_lt0, zn_le0, zn_add, zn_mul, zn_sub, zm_lt, zm_le, zm_eq, zb_1, zb_0, not_true_eq_false, not_false_eq_true, mo_c, mo_g0, mo_s0, mo_g1, mo_g2, mo_g3, mo_s3, mo_g4, mo_s4, mo_g5, mo_s5, mo_g6, mo_s6, mo_g7, mo_s7, mo_g8, mo_s8, mo_g9, mo_g10, mo_g11, mo_g12, mo_g13, mo_s13, mo_g14, mo_s14, mo_g15, mo_s15, mo_g16, mo_g17, mo_s17, mo_g18, mo_s18, mo_g19, mo_g20, mo_s20, mo_g21, mo_s21, mo_g22, mo_s22, mo_g23, mo_s23, ra_25, wa_25, al_25, ra_68, wa_68, al_68, ra_69, wa_69, al_69, ra_70, wa_70, al_70, ra_71, wa_71, al_71, ra_72, wa_72, al_72, ra_73, wa_73, al_73, ra_74, wa_74, al_74, ra_75, wa_75, al_75, fm_un, f68]
  · unfold rwI at t1 ⊢
    rw [S1 0 (by decide), S1 1 (by decide), S1 4 (by decide), sm 2 (by omega)]
    exact ⟨t1, t2⟩
  · unfold rwI at t3 ⊢
    rw [S4 0 (by decide), S4 1 (by decide), S4 4 (by decide), sm 5 (by omega)]
    exact ⟨t3, t4⟩
  · unfold rwI at t5 ⊢
    rw [S7 0 (by decide), S7 1 (by decide), S7 4 (by decide), sm 8 (by omega)]
    exact ⟨t5, t6⟩
  · unfold rwI at t7 ⊢
    rw [S10 0 (by decide), S10 1 (by decide), S10 4 (by decide), sm 11 (by omega)]
    exact ⟨t7, t8⟩
  · unfold rwI at t9 ⊢
    rw [S13 0 (by decide), S13 1 (by decide), S13 4 (by decide), sm 14 (by omega)]
    exact ⟨t9, t10⟩
  · unfold rwI at t11 ⊢
    rw [S16 0 (by decide), S16 1 (by decide), S16 4 (by decide), sm 17 (by omega)]
    exact ⟨t11, t12⟩
  · unfold boI rwI at j2 ⊢
    rw [sm 19 (by omega), sm 20 (by omega), sm 75 (by omega), z67 20 (by decide)]
    exact j2
  · refine ⟨fun t ht => ?_, j3.2⟩
    obtain ⟨a, b, ⟨kind, c1, c2, c3, c4, c5⟩, e⟩ := j3.1 t ht
    obtain ⟨_, q3⟩ := c3
    have h76 := q3.2.1
    refine ⟨by rw [sm 22 (by omega)]; exact a, b, ⟨kind, c1, c2, ⟨_, q3⟩, ?_, fun h6 => ⟨(c5 h6).1, fun k hk => ?_⟩⟩, by rw [sm (52 + 2 * t) (by omega)]; exact e⟩
    · rw [big _ h76, (kp0.2.1 t ht).1]
      exact c4
    · rw [big _ (by omega), (kp0.2.1 t ht).2 (by rw [c1, h6])]
      exact (c5 h6).2 k hk
  · obtain ⟨a, b, c, e, f, g⟩ := j4
    refine ⟨fun i hi => by rw [sm 23 (by omega), sm 24 (by omega), sm (52 + 2 * i) (by omega), sm (53 + 2 * i) (by omega)]; exact a i hi, by rw [z0 11 (by decide)]; exact b, pr_cs_of c (sm 26 (by omega)) (sm 27 (by omega)), by rw [sm 26 (by omega)]; exact e, by rw [sm 26 (by omega)]; exact f, fun x hx => ?_⟩
    obtain ⟨y1, y2, y3⟩ := g x hx
    have r1 := sm (30 + 4 * x) (by omega)
    refine ⟨pr_cs_of y1 r1 (sm _ (by omega)), by rw [r1]; exact y2, by rw [r1]; exact y3⟩
  · refine Or.inr ⟨z12, z3, μ9 69, N, sI_ext i v9, Nat.le_refl _, Nat.le_refl _, rfl, ?_, ?_, ?_, ?_, ?_, ?_, fun t ht => ?_, fun a ha => ⟨v9 _ (by omega), v9 _ (by omega)⟩⟩
    · rw [row 1 (by decide) (by decide) (by decide), row 3 (by decide) (by decide) (by decide), g1, g3, k1.2.2.1, low 1 (by decide)]
      refine ⟨t1.2.2, ?_, ?_, ?_, ?_, ?_⟩
      · rw [k1.2.2.2 0 (by decide), low 2 (by decide), v9 8 (by decide)]; exact t2.1
      · rw [k1.2.2.2 1 (by decide), low 2 (by decide), v9 9 (by decide)]; exact t2.2.1
      · rw [k1.2.2.2 2 (by decide), low 2 (by decide), v9 10 (by decide)]; exact t2.2.2.1
      · rw [k1.2.2.2 3 (by decide), low 2 (by decide), v9 2 (by decide)]; exact t2.2.2.2.1
      · rw [k1.2.2.2 4 (by decide), low 2 (by decide), v9 0 (by decide)]; exact t2.2.2.2.2
    · rw [row 4 (by decide) (by decide) (by decide), row 6 (by decide) (by decide) (by decide), g4, g6, k2.2.2.1, l4, low 4 (by decide), v9 6 (by decide)]
      refine ⟨t3.2.2, fun j hj => ?_⟩
      rw [k2.2.2.2 j (by omega), l5, low 5 (by decide), v9 _ (by omega)]
      exact t4 j hj
    · rw [row 7 (by decide) (by decide) (by decide), row 9 (by decide) (by decide) (by decide), g7, g9, k3.2.2.1, l7, low 7 (by decide), v9 1 (by decide)]
      refine ⟨t5.2.2, fun j hj => ?_⟩
      rw [k3.2.2.2 (j * 2) (by omega), k3.2.2.2 (j * 2 + 1) (by omega), l8, low 8 (by decide), v9 _ (by omega), v9 _ (by omega)]
      exact t6 j hj
    · rw [row 10 (by decide) (by decide) (by decide), row 12 (by decide) (by decide) (by decide), g10, g12, k4.2.2.1, l10, low 10 (by decide), v9 3 (by decide)]
      refine ⟨t7.2.2, fun j hj => ?_⟩
      rw [k4.2.2.2 (j * 2) (by omega), k4.2.2.2 (j * 2 + 1) (by omega), l11, low 11 (by decide), v9 _ (by omega), v9 _ (by omega)]
      exact t8 j hj
    · rw [row 13 (by decide) (by decide) (by decide), row 15 (by decide) (by decide) (by decide), g13, g15, k5.2.2.1, l13, low 13 (by decide), v9 4 (by decide)]
      refine ⟨t9.2.2, fun j hj => ?_⟩
      rw [k5.2.2.2 (j * 2) (by omega), k5.2.2.2 (j * 2 + 1) (by omega), l14, low 14 (by decide), v9 _ (by omega), v9 _ (by omega)]
      exact t10 j hj
    · rw [row 16 (by decide) (by decide) (by decide), row 18 (by decide) (by decide) (by decide), k6.2.2.1, l16, low 16 (by decide), v9 5 (by decide)]
      refine ⟨t11.2.2, fun j hj => ?_⟩
      rw [k6.2.2.2 (j * 3) (by omega), k6.2.2.2 (j * 3 + 1) (by omega), k6.2.2.2 (j * 3 + 2) (by omega), l17, low 17 (by decide), v9 _ (by omega), v9 _ (by omega), v9 _ (by omega)]
      exact t12 j hj
    · obtain ⟨a, b, ⟨kind, c1, c2, c3, c4, c5⟩, e⟩ := j3.1 t ht
      obtain ⟨_, q3⟩ := c3
      have h76 := q3.2.1
      obtain ⟨w1, w2⟩ := kp0.2.2 t ht
      refine ⟨v9 _ (by omega), v9 _ (by omega), v9 _ (by omega), ?_, fun h6 k hk => ?_⟩
      · rw [big _ h76, w1, v9 _ (by omega)]
        exact c4
      · have hk6 : kind = 6 := by
          rw [h6] at c1
          exact ((nI_eq (by omega) (by omega)).mp c1).symm
        rw [big _ (by omega), w2 h6 k hk, v9 _ (by omega)]
        exact (c5 hk6).2 k hk
  · exact ck_rows hcc (fun x a b => sm x (by omega))
  · exact mk2_row hm (s68.trans e68.symm) (sm 72 (by omega)) (sm 73 (by omega))
end IM
