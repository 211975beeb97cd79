/-! ===== acts ===== -/
--need 58.trees
--def HT := [(0, 2, 289), (1, 38, 289), (2, 52, 289), (6, 38, 289), (7, 52, 289), (8, 52, 289), (9, 52, 4)]
--def DT := [(0, 41, 289), (1, 53, 289), (2, 53, 289), (6, 53, 289), (7, 41, 289), (8, 45, 289), (9, 53, 4)]
--def TT := [(0, 54, 289), (1, 5, 289), (2, 8, 289), (6, 54, 289), (7, 54, 289), (8, 8, 289), (9, 54, 4)]
def boC (μ : fm_M) (l : List Int32) : Prop := rwI μ 19 20 1 (nI l.length) ∧ ∀ i, i < l.length → μ 20 i = l.getD i 0
def boM (μ : fm_M) (l : List Int32) : Prop := μ 67 20 = nI l.length ∧ ∀ i, i < l.length → μ 75 i = l.getD i 0
def bf (μ μ' : fm_M) : Prop := ∀ r, r ≠ 19 → r ≠ 20 → μ' r = μ r
def bm (μ μ' : fm_M) : Prop := (∀ r, r ≠ 67 → r ≠ 75 → μ' r = μ r) ∧ ∀ k, k ≠ 20 → μ' 67 k = μ 67 k
theorem bf_trans {μ1 μ2 μ3 : fm_M} (h : bf μ1 μ2) (h' : bf μ2 μ3) : bf μ1 μ3 := fun r a b => (h' r a b).trans (h r a b)
theorem bm_trans {μ1 μ2 μ3 : fm_M} (h : bm μ1 μ2) (h' : bm μ2 μ3) : bm μ1 μ3 := ⟨fun r a b => (h'.1 r a b).trans (h.1 r a b), fun k a => (h'.2 k a).trans (h.2 k a)⟩
theorem gd_app {l : List Int32} {x : Int32} {i : Nat} (h : i < (l ++ [x]).length) : (l ++ [x]).getD i 0 = if i = l.length then x else l.getD i 0 := by
  simp only [List.length_append, List.length_cons, List.length_nil] at h
  simp only [List.getD_eq_getElem?_getD, List.getElem?_append]
  by_cases e : i = l.length
  · subst e
    simp
  · have : i < l.length := by omega
    simp [this, e]
def hoV (kind : Nat) (i x : Int32) : Int32 := if kind = 1 ∨ kind = 4 then x * nI 3 + i else if kind = 5 then (x + i) ^^^ i else x + i
def hoB (kind : Nat) : List Int32 := if kind = 1 ∨ kind = 4 then [nI 11, nI 1] else if kind = 5 then [nI 51, nI 1] else [nI 1]
def drV (kind : Nat) (i v x : Int32) : Int32 := if kind = 2 ∨ kind = 5 then -(hoV kind i x - v) else if kind = 6 then hoV kind i x - v + v else hoV kind i x - v
def drB (kind : Nat) : List Int32 := if kind = 2 ∨ kind = 5 then nI 21 :: nI 2 :: hoB kind else if kind = 6 then nI 61 :: nI 2 :: hoB kind else nI 2 :: hoB kind
def teV (kind : Nat) (i v x : Int32) : Int32 := if kind = 3 ∨ kind = 6 then (drV kind i v x * nI 2) ^^^ nI 7 else if kind = 4 then drV kind i v (x - nI 1) * nI 2 + hoV kind i (nI 2) else drV kind i v x * nI 2
def teB (kind : Nat) : List Int32 := if kind = 3 ∨ kind = 6 then nI 31 :: nI 3 :: drB kind else if kind = 4 then nI 41 :: nI 3 :: (drB kind ++ hoB kind) else nI 3 :: drB kind
theorem hoB_l (kind : Nat) : (hoB kind).length ≤ 2 := by unfold hoB; split <;> (try split) <;> decide
theorem drB_l (kind : Nat) : (drB kind).length ≤ 4 := by
  have := hoB_l kind
  unfold drB
  split
  · simp only [List.length_cons]; omega
  · split <;> (simp only [List.length_cons]; omega)
section AC
variable {X : ix_X} {d : Nat} {τ : List fm_D} {μ : fm_M} {q c t kind : Nat} {rest : List Nat} {l : List Int32} {i v x : Int32}
def aT (μ : fm_M) (t : Nat) (i v : Int32) : Prop := spO (52 + 2 * t) ∧ μ (52 + 2 * t) 3 = i ∧ μ (52 + 2 * t) 5 = v
theorem aT_bf {μ' : fm_M} (h : aT μ t i v) (hf : bf μ μ') : aT μ' t i v := by
  unfold aT at h ⊢
  rw [hf (52 + 2 * t) (by omega) (by omega)]
  exact h
theorem a_add {y : Int32} (h : boC μ l) (hl : l.length < 20) : ∃ μ' : fm_M, ix_call X d 23 [.ref 19, .int y, .int (nI 0), .int (nI 0)] (fm_W μ τ) = some (some (.int (nI l.length)), fm_W μ' τ) ∧ boC μ' (l ++ [y]) ∧ bf μ μ' := by
  obtain ⟨⟨z0, z1, z2⟩, zc⟩ := h
  have hA : rwA 19 20 := ⟨rfl, rfl, rfl⟩
  refine ⟨fm_u (fm_u μ 20 l.length y) 19 4 (nI (l.length + 1)), rw_add1 hA z0 z1 z2 hl (by omega) (by omega), ⟨⟨?_, ?_, ?_⟩, fun j hj => ?_⟩, fun r a b => ?_⟩
  · rw [fm_uk (by decide), fm_un (by decide)]; exact z0
  · rw [fm_uk (by decide), fm_un (by decide)]; exact z1
  · rw [fm_us, List.length_append]; rfl
  · rw [fm_un (by decide), fm_uu, gd_app hj]
    simp only [List.length_append, List.length_cons, List.length_nil] at hj
    by_cases e : j = l.length
    · rw [if_pos e, e, pk_us]
    · rw [if_neg e, pk_un e]
      exact zc j (by omega)
  · rw [fm_un a, fm_un b]
theorem a_h0 (hT : trO τ q c t rest) (ha : aT μ t i v) (h : boC μ l) (hl : l.length < 20) : ∃ μ' : fm_M, ix_call X (d + 1) 52 [.ref q, .ref 19, .int x] (fm_W μ τ) = some (some (.int (x + i)), fm_W μ' τ) ∧ boC μ' (l ++ [nI 1]) ∧ bf μ μ' := by
  have hO : rwO 19 := rfl
  have hcc := hT.2.2
  obtain ⟨μ1, a1, b1, c1⟩ := a_add (X := X) (d := d) (τ := τ) (y := nI 1) h hl
  obtain ⟨s1, s2, s3⟩ := aT_bf ha c1
  refine ⟨μ1, ?_, b1, c1⟩
  simp (disch := first | assumption | omega | decide) only [e52, i52_0, i52_1, i52_2, i52_3, i52_4, i52_7, i52_8, i52_9, i52_10, i52_13, i52_16, i52_17, ix_pv_s, ix_pi_s, zpn, ix_po_s, ix_po_n, ix_ph_s, ix_bk_v, ix_bk_n, zcv, zcv_ne, ↓reduceIte, Nat.reduceEqDiff, zn_m1, zd_lt_p, zd_lt_n, zd_le_p, zd_le_n, zd_eq_p, zd_eq_n, zd_0_p, zd_0_n, zd_0lt_p, zd_0lt_n, zd_le0_p, zd_le0_n, zn_lt0, zn_le0, zn_add, zn_mul, zn_sub, zm_lt, zm_le, zm_eq, zb_1, zb_0, not_true_eq_false, not_false_eq_true, t0_c, t0_g0, t0_g1, t0_g2, t0_g3, t0_g4, t0_g5, t0_g6, t0_g7, t0_g8, t0_g9, t0_g10, t0_s11, t0_g12, t0_s12, t0_g13, t0_g14, t0_g15, t0_g16, t0_c, rw_c, a1, tr_g0 hT, sp_g3, s2]
theorem a_h1 (hc6 : c = 1 ∨ c = 6) (hT : trO τ q c t rest) (ha : aT μ t i v) (h : boC μ l) (hl : l.length < 19) : ∃ μ' : fm_M, ix_call X (d + 2) 38 [.ref q, .ref 19, .int x] (fm_W μ τ) = some (some (.int (x * nI 3 + i)), fm_W μ' τ) ∧ boC μ' (l ++ [nI 11] ++ [nI 1]) ∧ bf μ μ' := by
  have hO : rwO 19 := rfl
  obtain ⟨μ1, a1, b1, c1⟩ := a_add (X := X) (d := d + 1) (τ := τ) (y := nI 11) h (by omega)
  obtain ⟨μ2, a2, b2, c2⟩ := a_h0 (X := X) (d := d) (x := x * nI 3) hT (aT_bf ha c1) b1 (by simp; omega)
  refine ⟨μ2, ?_, b2, bf_trans c1 c2⟩
  rcases hc6 with rfl | rfl <;> simp (disch := first | assumption | omega | decide) only [e38, i38_0, i38_1, i38_3, i38_4, i38_5, i38_8, i38_9, i38_10, i38_11, i38_12, i38_13, i38_14, i38_17, ix_pv_s, ix_pi_s, zpn, ix_po_s, ix_po_n, ix_ph_s, ix_bk_v, ix_bk_n, zcv, zcv_ne, ↓reduceIte, Nat.reduceEqDiff, zn_m1, zd_lt_p, zd_lt_n, zd_le_p, zd_le_n, zd_eq_p, zd_eq_n, zd_0_p, zd_0_n, zd_0lt_p, zd_0lt_n, zd_le0_p, zd_le0_n, zn_lt0, zn_le0, zn_add, zn_mul, zn_sub, zm_lt, zm_le, zm_eq, zb_1, zb_0, not_true_eq_false, not_false_eq_true, t0_c, t0_g0, t0_g1, t0_g2, t0_g3, t0_g4, t0_g5, t0_g6, t0_g7, t0_g8, t0_g9, t0_g10, t0_s11, t0_g12, t0_s12, t0_g13, t0_g14, t0_g15, t0_g16, t0_c, rw_c, a1, tr_c hT, a2]
theorem a_h5 (hT : trO τ q 0 t rest) (ha : aT μ t i v) (h : boC μ l) (hl : l.length < 19) : ∃ μ' : fm_M, ix_call X (d + 2) 2 [.ref q, .ref 19, .int x] (fm_W μ τ) = some (some (.int ((x + i) ^^^ i)), fm_W μ' τ) ∧ boC μ' (l ++ [nI 51] ++ [nI 1]) ∧ bf μ μ' := by
  have hO : rwO 19 := rfl
  obtain ⟨μ1, a1, b1, c1⟩ := a_add (X := X) (d := d + 1) (τ := τ) (y := nI 51) h (by omega)
  obtain ⟨μ2, a2, b2, c2⟩ := a_h0 (X := X) (d := d) (x := x) hT (aT_bf ha c1) b1 (by simp; omega)
  obtain ⟨s1, s2, s3⟩ := aT_bf (aT_bf ha c1) c2
  refine ⟨μ2, ?_, b2, bf_trans c1 c2⟩
  simp (disch := first | assumption | omega | decide) only [e2, i2_0, i2_1, i2_3, i2_4, i2_5, i2_8, i2_9, i2_10, i2_11, i2_12, i2_15, i2_16, i2_19, i2_22, i2_23, ix_pv_s, ix_pi_s, zpn, ix_po_s, ix_po_n, ix_ph_s, ix_bk_v, ix_bk_n, zcv, zcv_ne, ↓reduceIte, Nat.reduceEqDiff, zn_m1, zd_lt_p, zd_lt_n, zd_le_p, zd_le_n, zd_eq_p, zd_eq_n, zd_0_p, zd_0_n, zd_0lt_p, zd_0lt_n, zd_le0_p, zd_le0_n, zn_lt0, zn_le0, zn_add, zn_mul, zn_sub, zm_lt, zm_le, zm_eq, zb_1, zb_0, not_true_eq_false, not_false_eq_true, t0_c, t0_g0, t0_g1, t0_g2, t0_g3, t0_g4, t0_g5, t0_g6, t0_g7, t0_g8, t0_g9, t0_g10, t0_s11, t0_g12, t0_s12, t0_g13, t0_g14, t0_g15, t0_g16, t0_c, rw_c, a1, tr_c hT, a2, tr_g0 hT, sp_g3, s2]
theorem a_holds (hk6 : kind ≤ 6) (hT : trO τ q (kc kind) t rest) (ha : aT μ t i v) (h : boC μ l) (hl : l.length < 19) : ∃ μ' : fm_M, ix_cv X (d + 2) (ix_cls (fm_W μ τ) q) [(0, 2, 289), (1, 38, 289), (2, 52, 289), (6, 38, 289), (7, 52, 289), (8, 52, 289), (9, 52, 4)] [.ref q, .ref 19, .int x] (fm_W μ τ) = some (some (.int (hoV kind i x)), fm_W μ' τ) ∧ boC μ' (l ++ hoB kind) ∧ bf μ μ' := by
  have hcl := tr_c (μ := μ) hT
  rcases (by omega : kind = 0 ∨ kind = 1 ∨ kind = 2 ∨ kind = 3 ∨ kind = 4 ∨ kind = 5 ∨ kind = 6) with rfl | rfl | rfl | rfl | rfl | rfl | rfl
  · obtain ⟨μ1, a1, b1, c1⟩ := a_h0 (X := X) (d := d + 1) (x := x) hT ha h (by omega)
    exact ⟨μ1, by rw [hcl]; exact a1, b1, c1⟩
  · obtain ⟨μ1, a1, b1, c1⟩ := a_h1 (X := X) (d := d) (x := x) (Or.inr rfl) hT ha h (by omega)
    exact ⟨μ1, by rw [hcl]; exact a1, by rw [List.append_assoc] at b1; exact b1, c1⟩
  · obtain ⟨μ1, a1, b1, c1⟩ := a_h0 (X := X) (d := d + 1) (x := x) hT ha h (by omega)
    exact ⟨μ1, by rw [hcl]; exact a1, b1, c1⟩
  · obtain ⟨μ1, a1, b1, c1⟩ := a_h0 (X := X) (d := d + 1) (x := x) hT ha h (by omega)
    exact ⟨μ1, by rw [hcl]; exact a1, b1, c1⟩
  · obtain ⟨μ1, a1, b1, c1⟩ := a_h1 (X := X) (d := d) (x := x) (Or.inl rfl) hT ha h (by omega)
    exact ⟨μ1, by rw [hcl]; exact a1, by rw [List.append_assoc] at b1; exact b1, c1⟩
  · obtain ⟨μ1, a1, b1, c1⟩ := a_h5 (X := X) (d := d) (x := x) hT ha h (by omega)
    exact ⟨μ1, by rw [hcl]; exact a1, by rw [List.append_assoc] at b1; exact b1, c1⟩
  · obtain ⟨μ1, a1, b1, c1⟩ := a_h0 (X := X) (d := d + 1) (x := x) hT ha h (by omega)
    exact ⟨μ1, by rw [hcl]; exact a1, b1, c1⟩
theorem a_d0 (hk6 : kind ≤ 6) (hT : trO τ q (kc kind) t rest) (ha : aT μ t i v) (h : boC μ l) (hl : l.length < 18) : ∃ μ' : fm_M, ix_call X (d + 3) 53 [.ref q, .ref 19, .int x] (fm_W μ τ) = some (some (.int (hoV kind i x - v)), fm_W μ' τ) ∧ boC μ' (l ++ [nI 2] ++ hoB kind) ∧ bf μ μ' := by
  have hO : rwO 19 := rfl
  have hcc := hT.2.2
  obtain ⟨μ1, a1, b1, c1⟩ := a_add (X := X) (d := d + 2) (τ := τ) (y := nI 2) h (by omega)
  obtain ⟨μ2, a2, b2, c2⟩ := a_holds (X := X) (d := d) (x := x) hk6 hT (aT_bf ha c1) b1 (by simp; omega)
  obtain ⟨s1, s2, s3⟩ := aT_bf (aT_bf ha c1) c2
  refine ⟨μ2, ?_, b2, bf_trans c1 c2⟩
  simp (disch := first | assumption | omega | decide) only [e53, i53_0, i53_1, i53_2, i53_3, i53_4, i53_7, i53_8, i53_9, i53_10, i53_11, i53_14, i53_15, i53_18, i53_21, i53_22, ix_pv_s, ix_pi_s, zpn, ix_po_s, ix_po_n, ix_ph_s, ix_bk_v, ix_bk_n, zcv, zcv_ne, ↓reduceIte, Nat.reduceEqDiff, zn_m1, zd_lt_p, zd_lt_n, zd_le_p, zd_le_n, zd_eq_p, zd_eq_n, zd_0_p, zd_0_n, zd_0lt_p, zd_0lt_n, zd_le0_p, zd_le0_n, zn_lt0, zn_le0, zn_add, zn_mul, zn_sub, zm_lt, zm_le, zm_eq, zb_1, zb_0, not_true_eq_false, not_false_eq_true, t0_c, t0_g0, t0_g1, t0_g2, t0_g3, t0_g4, t0_g5, t0_g6, t0_g7, t0_g8, t0_g9, t0_g10, t0_s11, t0_g12, t0_s12, t0_g13, t0_g14, t0_g15, t0_g16, t0_c, rw_c, a1, a2, tr_g0 hT, sp_g5, s3]
theorem a_d2 (hk : kind = 2 ∨ kind = 5) (hT : trO τ q (kc kind) t rest) (ha : aT μ t i v) (h : boC μ l) (hl : l.length < 17) : ∃ μ' : fm_M, ix_call X (d + 4) 41 [.ref q, .ref 19, .int x] (fm_W μ τ) = some (some (.int (-(hoV kind i x - v))), fm_W μ' τ) ∧ boC μ' (l ++ [nI 21] ++ [nI 2] ++ hoB kind) ∧ bf μ μ' := by
  have hO : rwO 19 := rfl
  obtain ⟨μ1, a1, b1, c1⟩ := a_add (X := X) (d := d + 3) (τ := τ) (y := nI 21) h (by omega)
  obtain ⟨μ2, a2, b2, c2⟩ := a_d0 (X := X) (d := d) (x := x) (by omega) hT (aT_bf ha c1) b1 (by simp; omega)
  have hcl := tr_c (μ := μ1) hT
  refine ⟨μ2, ?_, b2, bf_trans c1 c2⟩
  rcases hk with rfl | rfl
  · have hcl' : ix_cls (fm_W μ1 τ) q = some 7 := hcl
    simp (disch := first | assumption | omega | decide) only [e41, i41_0, i41_1, i41_3, i41_4, i41_5, i41_8, i41_9, i41_10, i41_11, i41_12, i41_15, i41_16, ix_pv_s, ix_pi_s, zpn, ix_po_s, ix_po_n, ix_ph_s, ix_bk_v, ix_bk_n, zcv, zcv_ne, ↓reduceIte, Nat.reduceEqDiff, zn_m1, zd_lt_p, zd_lt_n, zd_le_p, zd_le_n, zd_eq_p, zd_eq_n, zd_0_p, zd_0_n, zd_0lt_p, zd_0lt_n, zd_le0_p, zd_le0_n, zn_lt0, zn_le0, zn_add, zn_mul, zn_sub, zm_lt, zm_le, zm_eq, zb_1, zb_0, not_true_eq_false, not_false_eq_true, t0_c, t0_g0, t0_g1, t0_g2, t0_g3, t0_g4, t0_g5, t0_g6, t0_g7, t0_g8, t0_g9, t0_g10, t0_s11, t0_g12, t0_s12, t0_g13, t0_g14, t0_g15, t0_g16, t0_c, rw_c, a1, hcl', a2]
  · have hcl' : ix_cls (fm_W μ1 τ) q = some 0 := hcl
    simp (disch := first | assumption | omega | decide) only [e41, i41_0, i41_1, i41_3, i41_4, i41_5, i41_8, i41_9, i41_10, i41_11, i41_12, i41_15, i41_16, ix_pv_s, ix_pi_s, zpn, ix_po_s, ix_po_n, ix_ph_s, ix_bk_v, ix_bk_n, zcv, zcv_ne, ↓reduceIte, Nat.reduceEqDiff, zn_m1, zd_lt_p, zd_lt_n, zd_le_p, zd_le_n, zd_eq_p, zd_eq_n, zd_0_p, zd_0_n, zd_0lt_p, zd_0lt_n, zd_le0_p, zd_le0_n, zn_lt0, zn_le0, zn_add, zn_mul, zn_sub, zm_lt, zm_le, zm_eq, zb_1, zb_0, not_true_eq_false, not_false_eq_true, t0_c, t0_g0, t0_g1, t0_g2, t0_g3, t0_g4, t0_g5, t0_g6, t0_g7, t0_g8, t0_g9, t0_g10, t0_s11, t0_g12, t0_s12, t0_g13, t0_g14, t0_g15, t0_g16, t0_c, rw_c, a1, hcl', a2]
theorem a_d6 (hT : trO τ q 8 t rest) (ha : aT μ t i v) (h : boC μ l) (hl : l.length < 17) : ∃ μ' : fm_M, ix_call X (d + 4) 45 [.ref q, .ref 19, .int x] (fm_W μ τ) = some (some (.int (hoV 6 i x - v + v)), fm_W μ' τ) ∧ boC μ' (l ++ [nI 61] ++ [nI 2] ++ hoB 6) ∧ bf μ μ' := by
  have hO : rwO 19 := rfl
  obtain ⟨μ1, a1, b1, c1⟩ := a_add (X := X) (d := d + 3) (τ := τ) (y := nI 61) h (by omega)
  obtain ⟨μ2, a2, b2, c2⟩ := a_d0 (X := X) (d := d) (x := x) (kind := 6) (by omega) hT (aT_bf ha c1) b1 (by simp; omega)
  obtain ⟨s1, s2, s3⟩ := aT_bf (aT_bf ha c1) c2
  refine ⟨μ2, ?_, b2, bf_trans c1 c2⟩
  simp (disch := first | assumption | omega | decide) only [e45, i45_0, i45_1, i45_3, i45_4, i45_5, i45_8, i45_9, i45_10, i45_11, i45_12, i45_15, i45_16, i45_19, i45_22, i45_23, ix_pv_s, ix_pi_s, zpn, ix_po_s, ix_po_n, ix_ph_s, ix_bk_v, ix_bk_n, zcv, zcv_ne, ↓reduceIte, Nat.reduceEqDiff, zn_m1, zd_lt_p, zd_lt_n, zd_le_p, zd_le_n, zd_eq_p, zd_eq_n, zd_0_p, zd_0_n, zd_0lt_p, zd_0lt_n, zd_le0_p, zd_le0_n, zn_lt0, zn_le0, zn_add, zn_mul, zn_sub, zm_lt, zm_le, zm_eq, zb_1, zb_0, not_true_eq_false, not_false_eq_true, t0_c, t0_g0, t0_g1, t0_g2, t0_g3, t0_g4, t0_g5, t0_g6, t0_g7, t0_g8, t0_g9, t0_g10, t0_s11, t0_g12, t0_s12, t0_g13, t0_g14, t0_g15, t0_g16, t0_c, rw_c, a1, tr_c hT, a2, tr_g0 hT, sp_g5, s3]
theorem a_drips (hk6 : kind ≤ 6) (hT : trO τ q (kc kind) t rest) (ha : aT μ t i v) (h : boC μ l) (hl : l.length < 17) : ∃ μ' : fm_M, ix_cv X (d + 4) (ix_cls (fm_W μ τ) q) [(0, 41, 289), (1, 53, 289), (2, 53, 289), (6, 53, 289), (7, 41, 289), (8, 45, 289), (9, 53, 4)] [.ref q, .ref 19, .int x] (fm_W μ τ) = some (some (.int (drV kind i v x)), fm_W μ' τ) ∧ boC μ' (l ++ drB kind) ∧ bf μ μ' := by
  have hcl := tr_c (μ := μ) hT
  rcases (by omega : kind = 0 ∨ kind = 1 ∨ kind = 2 ∨ kind = 3 ∨ kind = 4 ∨ kind = 5 ∨ kind = 6) with rfl | rfl | rfl | rfl | rfl | rfl | rfl
  · obtain ⟨μ1, a1, b1, c1⟩ := a_d0 (X := X) (d := d + 1) (x := x) hk6 hT ha h (by omega)
    exact ⟨μ1, by rw [hcl]; exact a1, by rw [List.append_assoc] at b1; exact b1, c1⟩
  · obtain ⟨μ1, a1, b1, c1⟩ := a_d0 (X := X) (d := d + 1) (x := x) hk6 hT ha h (by omega)
    exact ⟨μ1, by rw [hcl]; exact a1, by rw [List.append_assoc] at b1; exact b1, c1⟩
  · obtain ⟨μ1, a1, b1, c1⟩ := a_d2 (X := X) (d := d) (x := x) (Or.inl rfl) hT ha h (by omega)
    exact ⟨μ1, by rw [hcl]; exact a1, by rw [List.append_assoc, List.append_assoc] at b1; exact b1, c1⟩
  · obtain ⟨μ1, a1, b1, c1⟩ := a_d0 (X := X) (d := d + 1) (x := x) hk6 hT ha h (by omega)
    exact ⟨μ1, by rw [hcl]; exact a1, by rw [List.append_assoc] at b1; exact b1, c1⟩
  · obtain ⟨μ1, a1, b1, c1⟩ := a_d0 (X := X) (d := d + 1) (x := x) hk6 hT ha h (by omega)
    exact ⟨μ1, by rw [hcl]; exact a1, by rw [List.append_assoc] at b1; exact b1, c1⟩
  · obtain ⟨μ1, a1, b1, c1⟩ := a_d2 (X := X) (d := d) (x := x) (Or.inr rfl) hT ha h (by omega)
    exact ⟨μ1, by rw [hcl]; exact a1, by rw [List.append_assoc, List.append_assoc] at b1; exact b1, c1⟩
  · obtain ⟨μ1, a1, b1, c1⟩ := a_d6 (X := X) (d := d) (x := x) hT ha h (by omega)
    exact ⟨μ1, by rw [hcl]; exact a1, by rw [List.append_assoc, List.append_assoc] at b1; exact b1, c1⟩
theorem a_t0 (hk6 : kind ≤ 6) (hT : trO τ q (kc kind) t rest) (ha : aT μ t i v) (h : boC μ l) (hl : l.length < 16) : ∃ μ' : fm_M, ix_call X (d + 5) 54 [.ref q, .ref 19, .int x] (fm_W μ τ) = some (some (.int (drV kind i v x * nI 2)), fm_W μ' τ) ∧ boC μ' (l ++ [nI 3] ++ drB kind) ∧ bf μ μ' := by
  have hO : rwO 19 := rfl
  obtain ⟨μ1, a1, b1, c1⟩ := a_add (X := X) (d := d + 4) (τ := τ) (y := nI 3) h (by omega)
  obtain ⟨μ2, a2, b2, c2⟩ := a_drips (X := X) (d := d) (x := x) hk6 hT (aT_bf ha c1) b1 (by simp; omega)
  refine ⟨μ2, ?_, b2, bf_trans c1 c2⟩
  simp (disch := first | assumption | omega | decide) only [e54, i54_0, i54_1, i54_2, i54_3, i54_4, i54_7, i54_8, i54_9, i54_10, i54_11, i54_14, i54_15, i54_16, ix_pv_s, ix_pi_s, zpn, ix_po_s, ix_po_n, ix_ph_s, ix_bk_v, ix_bk_n, zcv, zcv_ne, ↓reduceIte, Nat.reduceEqDiff, t0_c, t0_g0, t0_g1, t0_g2, t0_g3, t0_g4, t0_g5, t0_g6, t0_g7, t0_g8, t0_g9, t0_g10, t0_s11, t0_g12, t0_s12, t0_g13, t0_g14, t0_g15, t0_g16, t0_c, rw_c, a1, a2]
theorem a_t3 (hk : kind = 3 ∨ kind = 6) (hT : trO τ q (kc kind) t rest) (ha : aT μ t i v) (h : boC μ l) (hl : l.length < 15) : ∃ μ' : fm_M, ix_call X (d + 6) 8 [.ref q, .ref 19, .int x] (fm_W μ τ) = some (some (.int ((drV kind i v x * nI 2) ^^^ nI 7)), fm_W μ' τ) ∧ boC μ' (l ++ [nI 31] ++ [nI 3] ++ drB kind) ∧ bf μ μ' := by
  have hO : rwO 19 := rfl
  obtain ⟨μ1, a1, b1, c1⟩ := a_add (X := X) (d := d + 5) (τ := τ) (y := nI 31) h (by omega)
  obtain ⟨μ2, a2, b2, c2⟩ := a_t0 (X := X) (d := d) (x := x) (by omega) hT (aT_bf ha c1) b1 (by simp; omega)
  have hcl := tr_c (μ := μ1) hT
  refine ⟨μ2, ?_, b2, bf_trans c1 c2⟩
  rcases hk with rfl | rfl
  · have hcl' : ix_cls (fm_W μ1 τ) q = some 2 := hcl
    simp (disch := first | assumption | omega | decide) only [e8, i8_0, i8_1, i8_3, i8_4, i8_5, i8_8, i8_9, i8_10, i8_11, i8_12, i8_15, i8_17, i8_18, ix_pv_s, ix_pi_s, zpn, ix_po_s, ix_po_n, ix_ph_s, ix_bk_v, ix_bk_n, zcv, zcv_ne, ↓reduceIte, Nat.reduceEqDiff, t0_c, t0_g0, t0_g1, t0_g2, t0_g3, t0_g4, t0_g5, t0_g6, t0_g7, t0_g8, t0_g9, t0_g10, t0_s11, t0_g12, t0_s12, t0_g13, t0_g14, t0_g15, t0_g16, t0_c, rw_c, a1, hcl', a2]
  · have hcl' : ix_cls (fm_W μ1 τ) q = some 8 := hcl
    simp (disch := first | assumption | omega | decide) only [e8, i8_0, i8_1, i8_3, i8_4, i8_5, i8_8, i8_9, i8_10, i8_11, i8_12, i8_15, i8_17, i8_18, ix_pv_s, ix_pi_s, zpn, ix_po_s, ix_po_n, ix_ph_s, ix_bk_v, ix_bk_n, zcv, zcv_ne, ↓reduceIte, Nat.reduceEqDiff, t0_c, t0_g0, t0_g1, t0_g2, t0_g3, t0_g4, t0_g5, t0_g6, t0_g7, t0_g8, t0_g9, t0_g10, t0_s11, t0_g12, t0_s12, t0_g13, t0_g14, t0_g15, t0_g16, t0_c, rw_c, a1, hcl', a2]
theorem a_t4 (hT : trO τ q 1 t rest) (ha : aT μ t i v) (h : boC μ l) (hl : l.length < 10) : ∃ μ' : fm_M, ix_call X (d + 6) 5 [.ref q, .ref 19, .int x] (fm_W μ τ) = some (some (.int (drV 4 i v (x - nI 1) * nI 2 + hoV 4 i (nI 2))), fm_W μ' τ) ∧ boC μ' (l ++ [nI 41] ++ [nI 3] ++ drB 4 ++ hoB 4) ∧ bf μ μ' := by
  have hO : rwO 19 := rfl
  have hd := drB_l 4
  obtain ⟨μ1, a1, b1, c1⟩ := a_add (X := X) (d := d + 5) (τ := τ) (y := nI 41) h (by omega)
  obtain ⟨μ2, a2, b2, c2⟩ := a_t0 (X := X) (d := d) (x := x - nI 1) (kind := 4) (by omega) hT (aT_bf ha c1) b1 (by simp; omega)
  obtain ⟨μ3, a3, b3, c3⟩ := a_h1 (X := X) (d := d + 3) (x := nI 2) (Or.inl rfl) hT (aT_bf (aT_bf ha c1) c2) b2 (by simp; omega)
  refine ⟨μ3, ?_, by rw [List.append_assoc _ [nI 11]] at b3; exact b3, bf_trans (bf_trans c1 c2) c3⟩
  have e4 : hoV 4 i (nI 2) = nI 2 * nI 3 + i := rfl
  rw [e4]
  simp (disch := first | assumption | omega | decide) only [e5, i5_0, i5_1, i5_3, i5_4, i5_5, i5_8, i5_9, i5_10, i5_11, i5_12, i5_13, i5_14, i5_17, i5_18, i5_19, i5_20, i5_23, i5_24, ix_pv_s, ix_pi_s, zpn, ix_po_s, ix_po_n, ix_ph_s, ix_bk_v, ix_bk_n, zcv, zcv_ne, ↓reduceIte, Nat.reduceEqDiff, t0_c, t0_g0, t0_g1, t0_g2, t0_g3, t0_g4, t0_g5, t0_g6, t0_g7, t0_g8, t0_g9, t0_g10, t0_s11, t0_g12, t0_s12, t0_g13, t0_g14, t0_g15, t0_g16, t0_c, rw_c, a1, tr_c hT, a2, a3]
theorem a_tells (hk6 : kind ≤ 6) (hT : trO τ q (kc kind) t rest) (ha : aT μ t i v) (h : boC μ l) (hl : l.length < 10) : ∃ μ' : fm_M, ix_cv X (d + 6) (ix_cls (fm_W μ τ) q) [(0, 54, 289), (1, 5, 289), (2, 8, 289), (6, 54, 289), (7, 54, 289), (8, 8, 289), (9, 54, 4)] [.ref q, .ref 19, .int x] (fm_W μ τ) = some (some (.int (teV kind i v x)), fm_W μ' τ) ∧ boC μ' (l ++ teB kind) ∧ bf μ μ' := by
  have hcl := tr_c (μ := μ) hT
  rcases (by omega : kind = 0 ∨ kind = 1 ∨ kind = 2 ∨ kind = 3 ∨ kind = 4 ∨ kind = 5 ∨ kind = 6) with rfl | rfl | rfl | rfl | rfl | rfl | rfl
  · obtain ⟨μ1, a1, b1, c1⟩ := a_t0 (X := X) (d := d + 1) (x := x) hk6 hT ha h (by omega)
    exact ⟨μ1, by rw [hcl]; exact a1, by rw [List.append_assoc] at b1; exact b1, c1⟩
  · obtain ⟨μ1, a1, b1, c1⟩ := a_t0 (X := X) (d := d + 1) (x := x) hk6 hT ha h (by omega)
    exact ⟨μ1, by rw [hcl]; exact a1, by rw [List.append_assoc] at b1; exact b1, c1⟩
  · obtain ⟨μ1, a1, b1, c1⟩ := a_t0 (X := X) (d := d + 1) (x := x) hk6 hT ha h (by omega)
    exact ⟨μ1, by rw [hcl]; exact a1, by rw [List.append_assoc] at b1; exact b1, c1⟩
  · obtain ⟨μ1, a1, b1, c1⟩ := a_t3 (X := X) (d := d) (x := x) (Or.inl rfl) hT ha h (by omega)
    exact ⟨μ1, by rw [hcl]; exact a1, by rw [List.append_assoc, List.append_assoc] at b1; exact b1, c1⟩
  · obtain ⟨μ1, a1, b1, c1⟩ := a_t4 (X := X) (d := d) (x := x) hT ha h (by omega)
    exact ⟨μ1, by rw [hcl]; exact a1, by simp only [List.append_assoc] at b1; exact b1, c1⟩
  · obtain ⟨μ1, a1, b1, c1⟩ := a_t0 (X := X) (d := d + 1) (x := x) hk6 hT ha h (by omega)
    exact ⟨μ1, by rw [hcl]; exact a1, by rw [List.append_assoc] at b1; exact b1, c1⟩
  · obtain ⟨μ1, a1, b1, c1⟩ := a_t3 (X := X) (d := d) (x := x) (Or.inr rfl) hT ha h (by omega)
    exact ⟨μ1, by rw [hcl]; exact a1, by rw [List.append_assoc, List.append_assoc] at b1; exact b1, c1⟩
end AC
