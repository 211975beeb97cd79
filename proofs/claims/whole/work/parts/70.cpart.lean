/-! ===== the program reads a part, a choice ===== -/
--need 69.cread
def bw : Bool → Int32
  | false => nI 0
  | true => nI 1
def kC (X : ix_X) (τ : List fm_D) (r n : Nat) (T : Nat → Int32) (e m : Nat) (args : List Value) (P : Nat → pT) : Prop := ∀ (μ : fm_M) (p : Nat) (cs : List Nat), PS μ r n T p cs → ∃ (ok : Int32) (μ' : fm_M), ix_call X e m (.ref r :: args) (fm_W μ τ) = some (some (.int ok), fm_W μ' τ) ∧ RS μ' r n T cs (P p) ok ∧ pf r μ μ'
theorem RS_pb {μ' : fm_M} {r n q : Nat} {T : Nat → Int32} {cs l : List Nat} {f : Nat → pT} {ok : Int32} (h : RS μ' r n T (cs ++ l) (f q) ok) : RS μ' r n T cs (pb (.inr (q, l)) f) ok := by
  unfold pb
  simp only
  cases hf : f q with
  | inl e => rw [hf] at h; exact h
  | inr y =>
    obtain ⟨q', l'⟩ := y
    rw [hf] at h
    obtain ⟨a, b⟩ := h
    refine ⟨a, ?_⟩
    rw [← List.append_assoc]
    exact b
theorem RS_01 {μ' : fm_M} {r n : Nat} {T : Nat → Int32} {cs : List Nat} {res : pT} {ok : Int32} (h : RS μ' r n T cs res ok) : ok = nI 0 ∨ ok = nI 1 := by
  cases res with
  | inl e => exact Or.inl h.1
  | inr y => exact Or.inr h.1
section CP
variable {X : ix_X} {d e : Nat} {τ : List fm_D} {r n : Nat} {T : Nat → Int32} {P : Nat → pT}
theorem c_emit0 {μ : fm_M} {p : Nat} {cs : List Nat} {a : Nat} (hr : pkO r) (hn : n ≤ 100) (h : PS μ r n T p cs) (hl : cs.length < p) (ha : a < 100) : ∃ μ' : fm_M, ix_call X d 20 [.ref r, .int (nI a), .int (nI 0)] (fm_W μ τ) = some (none, fm_W μ' τ) ∧ PS μ' r n T p (cs ++ [a * 100]) ∧ pf r μ μ' := c_emit (v := 0) hr hn h hl ha (by decide)
theorem c_loop {o : Nat} (hr : pkO r) (hn : n ≤ 100) (hP : adv (n := n) P) (hC : kC X τ r n T e 18 [.int (nI o)] P) : ∀ (k i p : Nat) (w : Bool) (cs : List Nat) (μ : fm_M) (x4 : Option Value), i + k = 100 → PS μ r n T p cs → cs.length + (if w = true then 1 else 0) ≤ p → ∃ (ok : Int32) (μ' : fm_M), ix_sem X (e + 1) 17 14 [some (.ref r), some (.int (nI o)), some (.int (bw w)), some (.int (nI i)), x4] [] (fm_W μ τ) = some (some (.int ok), fm_W μ' τ) ∧ RS μ' r n T cs (loopS n T P k p w) ok ∧ pf r μ μ'
  | 0, i, p, w, cs, μ, x4, hi, h, hl => by
    have hr6 := pk_cases hr
    have hi' : i = 100 := hi
    subst hi'
    cases w
    · refine ⟨nI 1, μ, ?_, ?_, pf_refl⟩
      · rw [show bw false = nI 0 from rfl]
        simp (disch := first | assumption | omega | decide) only [i17_0, i17_1, i17_2, i17_5, i17_8, i17_9, i17_10, i17_11, i17_12, i17_13, i17_14, i17_15, i17_17, i17_20, i17_21, i17_24, i17_26, i17_29, i17_30, i17_33, i17_35, i17_38, i17_39, i17_42, i17_44, i17_47, i17_48, i17_51, i17_52, i17_54, i17_56, i17_59, i17_60, i17_63, i17_64, i17_66, i17_67, i17_70, i17_71, i17_74, i17_75, i17_76, i17_79, i17_82, i17_83, i17_84, i17_86, i17_89, i17_90, i17_92, i17_93, i17_96, i17_99, i17_100, i17_101, i17_104, i17_107, i17_108, i17_111, i17_112, i17_114, i17_115, i17_118, i17_119, ix_pv_s, ix_pi_s, zpn, ix_po_s, ix_po_n, ix_ph_s, ix_bk_v, ix_bk_n, zcv, zcv_ne, ↓reduceIte, Nat.reduceEqDiff, zn_m1, zd_lt_p, zd_lt_n, zd_le_p, zd_le_n, zd_eq_p, zd_eq_n, zd_0_p, zd_0_n, zd_0lt_p, zd_0lt_n, zd_le0_p, zd_le0_n, zn_lt0, zn_le0, zn_add, zn_mul, zn_sub, zm_lt, zm_le, zm_eq, zb_1, zb_0, not_true_eq_false, not_false_eq_true, pk_c, pk_g0, pk_s0, pk_g1, pk_s1, pk_g2, pk_g3, pk_s3, pk_g4, pk_g5, pk_g6, pk_s6, pk_g7, pk_s7, pk_g8, pk_s8, pk_g9, pk_s9]
      · refine ⟨rfl, ?_⟩
        rw [List.append_nil]
        exact h
    · obtain ⟨μ1, a1, p1, c1⟩ := c_emit0 (X := X) (d := e) (τ := τ) (a := 17) hr hn h (by simp only [if_true] at hl; omega) (by decide)
      refine ⟨nI 1, μ1, ?_, ⟨rfl, p1⟩, c1⟩
      rw [show bw true = nI 1 from rfl]
      simp (disch := first | assumption | omega | decide) only [i17_0, i17_1, i17_2, i17_5, i17_8, i17_9, i17_10, i17_11, i17_12, i17_13, i17_14, i17_15, i17_17, i17_20, i17_21, i17_24, i17_26, i17_29, i17_30, i17_33, i17_35, i17_38, i17_39, i17_42, i17_44, i17_47, i17_48, i17_51, i17_52, i17_54, i17_56, i17_59, i17_60, i17_63, i17_64, i17_66, i17_67, i17_70, i17_71, i17_74, i17_75, i17_76, i17_79, i17_82, i17_83, i17_84, i17_86, i17_89, i17_90, i17_92, i17_93, i17_96, i17_99, i17_100, i17_101, i17_104, i17_107, i17_108, i17_111, i17_112, i17_114, i17_115, i17_118, i17_119, ix_pv_s, ix_pi_s, zpn, ix_po_s, ix_po_n, ix_ph_s, ix_bk_v, ix_bk_n, zcv, zcv_ne, ↓reduceIte, Nat.reduceEqDiff, zn_m1, zd_lt_p, zd_lt_n, zd_le_p, zd_le_n, zd_eq_p, zd_eq_n, zd_0_p, zd_0_n, zd_0lt_p, zd_0lt_n, zd_le0_p, zd_le0_n, zn_lt0, zn_le0, zn_add, zn_mul, zn_sub, zm_lt, zm_le, zm_eq, zb_1, zb_0, not_true_eq_false, not_false_eq_true, pk_c, pk_g0, pk_s0, pk_g1, pk_s1, pk_g2, pk_g3, pk_s3, pk_g4, pk_g5, pk_g6, pk_s6, pk_g7, pk_s7, pk_g8, pk_s8, pk_g9, pk_s9, a1]
  | k + 1, i, p, w, cs, μ, x4, hi, h, hl => by
    have hr6 := pk_cases hr
    have h4 := h.2.2.2.1
    by_cases q38 : sg n T p = nI 38
    · have lp := sg_lt (by decide) q38
      rw [q38] at h4
      obtain ⟨μ1, a1, p1, c1, _⟩ := c_step (X := X) (d := e) (τ := τ) hr hn h lp
      obtain ⟨ok, μ2, a2, r2, c2⟩ := hC μ1 (p + 1) cs p1
      cases hv : P (p + 1) with
      | inl z =>
        rw [hv] at r2
        obtain ⟨rfl, r2⟩ := r2
        refine ⟨nI 0, μ2, ?_, ?_, pf_trans c1 c2⟩
        · simp (disch := first | assumption | omega | decide) only [i17_0, i17_1, i17_2, i17_5, i17_8, i17_9, i17_10, i17_11, i17_12, i17_13, i17_14, i17_15, i17_17, i17_20, i17_21, i17_24, i17_26, i17_29, i17_30, i17_33, i17_35, i17_38, i17_39, i17_42, i17_44, i17_47, i17_48, i17_51, i17_52, i17_54, i17_56, i17_59, i17_60, i17_63, i17_64, i17_66, i17_67, i17_70, i17_71, i17_74, i17_75, i17_76, i17_79, i17_82, i17_83, i17_84, i17_86, i17_89, i17_90, i17_92, i17_93, i17_96, i17_99, i17_100, i17_101, i17_104, i17_107, i17_108, i17_111, i17_112, i17_114, i17_115, i17_118, i17_119, ix_pv_s, ix_pi_s, zpn, ix_po_s, ix_po_n, ix_ph_s, ix_bk_v, ix_bk_n, zcv, zcv_ne, ↓reduceIte, Nat.reduceEqDiff, zn_m1, zd_lt_p, zd_lt_n, zd_le_p, zd_le_n, zd_eq_p, zd_eq_n, zd_0_p, zd_0_n, zd_0lt_p, zd_0lt_n, zd_le0_p, zd_le0_n, zn_lt0, zn_le0, zn_add, zn_mul, zn_sub, zm_lt, zm_le, zm_eq, zb_1, zb_0, not_true_eq_false, not_false_eq_true, pk_c, pk_g0, pk_s0, pk_g1, pk_s1, pk_g2, pk_g3, pk_s3, pk_g4, pk_g5, pk_g6, pk_s6, pk_g7, pk_s7, pk_g8, pk_s8, pk_g9, pk_s9, h4, a1, a2]
        · rw [loopS, if_pos q38, hv]
          exact ⟨rfl, r2⟩
      | inr y =>
        obtain ⟨q, l⟩ := y
        rw [hv] at r2
        obtain ⟨rfl, p2⟩ := r2
        obtain ⟨b1, b2, b3⟩ := hP _ _ _ hv
        obtain ⟨μ3, a3, p3, c3⟩ := c_emit0 (X := X) (d := e) (τ := τ) (a := 16) hr hn p2 (by rw [List.length_append]; omega) (by decide)
        obtain ⟨ok, μ4, a4, r4, c4⟩ := c_loop hr hn hP hC k (i + 1) q w _ μ3 (some (.int (nI 1))) (by omega) p3 (by simp only [List.length_append, List.length_cons, List.length_nil]; omega)
        refine ⟨ok, μ4, ?_, ?_, pf_trans c1 (pf_trans c2 (pf_trans c3 c4))⟩
        · rw [← a4, i17_14]
          simp (disch := first | assumption | omega | decide) only [i17_0, i17_1, i17_2, i17_5, i17_8, i17_9, i17_10, i17_11, i17_12, i17_13, i17_15, i17_17, i17_20, i17_21, i17_24, i17_26, i17_29, i17_30, i17_33, i17_35, i17_38, i17_39, i17_42, i17_44, i17_47, i17_48, i17_51, i17_52, i17_54, i17_56, i17_59, i17_60, i17_63, i17_64, i17_66, i17_67, i17_70, i17_71, i17_74, i17_75, i17_76, i17_79, i17_82, i17_83, i17_84, i17_86, i17_89, i17_90, i17_92, i17_93, i17_96, i17_99, i17_100, i17_101, i17_104, i17_107, i17_108, i17_111, i17_112, i17_114, i17_115, i17_118, i17_119, ix_pv_s, ix_pi_s, zpn, ix_po_s, ix_po_n, ix_ph_s, ix_bk_v, ix_bk_n, zcv, zcv_ne, ↓reduceIte, Nat.reduceEqDiff, zn_m1, zd_lt_p, zd_lt_n, zd_le_p, zd_le_n, zd_eq_p, zd_eq_n, zd_0_p, zd_0_n, zd_0lt_p, zd_0lt_n, zd_le0_p, zd_le0_n, zn_lt0, zn_le0, zn_add, zn_mul, zn_sub, zm_lt, zm_le, zm_eq, zb_1, zb_0, not_true_eq_false, not_false_eq_true, pk_c, pk_g0, pk_s0, pk_g1, pk_s1, pk_g2, pk_g3, pk_s3, pk_g4, pk_g5, pk_g6, pk_s6, pk_g7, pk_s7, pk_g8, pk_s8, pk_g9, pk_s9, h4, a1, a2, a3]
        · rw [loopS, if_pos q38, hv]
          refine RS_pb ?_
          show RS _ _ _ _ _ (pb (.inr (q, [1600])) _) _
          exact RS_pb r4
    · by_cases q124 : sg n T p = nI 124
      · have lp := sg_lt (by decide) q124
        rw [q124] at h4
        cases w
        · obtain ⟨μ1, a1, p1, c1, _⟩ := c_step (X := X) (d := e) (τ := τ) hr hn h lp
          obtain ⟨ok, μ2, a2, r2, c2⟩ := hC μ1 (p + 1) cs p1
          have e1 : loopS n T P (k + 1) p false = pb (P (p + 1)) (fun q => loopS n T P k q true) := by
            rw [loopS, if_neg q38, if_pos q124]
            exact pb_0
          cases hv : P (p + 1) with
          | inl z =>
            rw [hv] at r2
            obtain ⟨rfl, r2⟩ := r2
            refine ⟨nI 0, μ2, ?_, ?_, pf_trans c1 c2⟩
            · rw [show bw false = nI 0 from rfl]
              simp (disch := first | assumption | omega | decide) only [i17_0, i17_1, i17_2, i17_5, i17_8, i17_9, i17_10, i17_11, i17_12, i17_13, i17_14, i17_15, i17_17, i17_20, i17_21, i17_24, i17_26, i17_29, i17_30, i17_33, i17_35, i17_38, i17_39, i17_42, i17_44, i17_47, i17_48, i17_51, i17_52, i17_54, i17_56, i17_59, i17_60, i17_63, i17_64, i17_66, i17_67, i17_70, i17_71, i17_74, i17_75, i17_76, i17_79, i17_82, i17_83, i17_84, i17_86, i17_89, i17_90, i17_92, i17_93, i17_96, i17_99, i17_100, i17_101, i17_104, i17_107, i17_108, i17_111, i17_112, i17_114, i17_115, i17_118, i17_119, ix_pv_s, ix_pi_s, zpn, ix_po_s, ix_po_n, ix_ph_s, ix_bk_v, ix_bk_n, zcv, zcv_ne, ↓reduceIte, Nat.reduceEqDiff, zn_m1, zd_lt_p, zd_lt_n, zd_le_p, zd_le_n, zd_eq_p, zd_eq_n, zd_0_p, zd_0_n, zd_0lt_p, zd_0lt_n, zd_le0_p, zd_le0_n, zn_lt0, zn_le0, zn_add, zn_mul, zn_sub, zm_lt, zm_le, zm_eq, zb_1, zb_0, not_true_eq_false, not_false_eq_true, pk_c, pk_g0, pk_s0, pk_g1, pk_s1, pk_g2, pk_g3, pk_s3, pk_g4, pk_g5, pk_g6, pk_s6, pk_g7, pk_s7, pk_g8, pk_s8, pk_g9, pk_s9, h4, a1, a2]
            · rw [e1, hv]
              exact ⟨rfl, r2⟩
          | inr y =>
            obtain ⟨q, l⟩ := y
            rw [hv] at r2
            obtain ⟨rfl, p2⟩ := r2
            obtain ⟨b1, b2, b3⟩ := hP _ _ _ hv
            obtain ⟨ok, μ4, a4, r4, c4⟩ := c_loop hr hn hP hC k (i + 1) q true _ μ2 (some (.int (nI 0))) (by omega) p2 (by simp only [List.length_append, if_true]; simp only [Bool.false_eq_true, if_false] at hl; omega)
            refine ⟨ok, μ4, ?_, ?_, pf_trans c1 (pf_trans c2 c4)⟩
            · rw [← a4, i17_14, show bw false = nI 0 from rfl, show bw true = nI 1 from rfl]
              simp (disch := first | assumption | omega | decide) only [i17_0, i17_1, i17_2, i17_5, i17_8, i17_9, i17_10, i17_11, i17_12, i17_13, i17_15, i17_17, i17_20, i17_21, i17_24, i17_26, i17_29, i17_30, i17_33, i17_35, i17_38, i17_39, i17_42, i17_44, i17_47, i17_48, i17_51, i17_52, i17_54, i17_56, i17_59, i17_60, i17_63, i17_64, i17_66, i17_67, i17_70, i17_71, i17_74, i17_75, i17_76, i17_79, i17_82, i17_83, i17_84, i17_86, i17_89, i17_90, i17_92, i17_93, i17_96, i17_99, i17_100, i17_101, i17_104, i17_107, i17_108, i17_111, i17_112, i17_114, i17_115, i17_118, i17_119, ix_pv_s, ix_pi_s, zpn, ix_po_s, ix_po_n, ix_ph_s, ix_bk_v, ix_bk_n, zcv, zcv_ne, ↓reduceIte, Nat.reduceEqDiff, zn_m1, zd_lt_p, zd_lt_n, zd_le_p, zd_le_n, zd_eq_p, zd_eq_n, zd_0_p, zd_0_n, zd_0lt_p, zd_0lt_n, zd_le0_p, zd_le0_n, zn_lt0, zn_le0, zn_add, zn_mul, zn_sub, zm_lt, zm_le, zm_eq, zb_1, zb_0, not_true_eq_false, not_false_eq_true, pk_c, pk_g0, pk_s0, pk_g1, pk_s1, pk_g2, pk_g3, pk_s3, pk_g4, pk_g5, pk_g6, pk_s6, pk_g7, pk_s7, pk_g8, pk_s8, pk_g9, pk_s9, h4, a1, a2]
            · rw [e1, hv]
              exact RS_pb r4
        · simp only [if_true] at hl
          obtain ⟨μ0, a0, p0, c0⟩ := c_emit0 (X := X) (d := e) (τ := τ) (a := 17) hr hn h (by omega) (by decide)
          obtain ⟨μ1, a1, p1, c1, _⟩ := c_step (X := X) (d := e) (τ := τ) hr hn p0 lp
          obtain ⟨ok, μ2, a2, r2, c2⟩ := hC μ1 (p + 1) _ p1
          have e1 : loopS n T P (k + 1) p true = pb (.inr (p, [1700])) (fun p => pb (P (p + 1)) (fun q => loopS n T P k q true)) := by
            rw [loopS, if_neg q38, if_pos q124]
            rfl
          cases hv : P (p + 1) with
          | inl z =>
            rw [hv] at r2
            obtain ⟨rfl, r2⟩ := r2
            refine ⟨nI 0, μ2, ?_, ?_, pf_trans c0 (pf_trans c1 c2)⟩
            · rw [show bw true = nI 1 from rfl]
              simp (disch := first | assumption | omega | decide) only [i17_0, i17_1, i17_2, i17_5, i17_8, i17_9, i17_10, i17_11, i17_12, i17_13, i17_14, i17_15, i17_17, i17_20, i17_21, i17_24, i17_26, i17_29, i17_30, i17_33, i17_35, i17_38, i17_39, i17_42, i17_44, i17_47, i17_48, i17_51, i17_52, i17_54, i17_56, i17_59, i17_60, i17_63, i17_64, i17_66, i17_67, i17_70, i17_71, i17_74, i17_75, i17_76, i17_79, i17_82, i17_83, i17_84, i17_86, i17_89, i17_90, i17_92, i17_93, i17_96, i17_99, i17_100, i17_101, i17_104, i17_107, i17_108, i17_111, i17_112, i17_114, i17_115, i17_118, i17_119, ix_pv_s, ix_pi_s, zpn, ix_po_s, ix_po_n, ix_ph_s, ix_bk_v, ix_bk_n, zcv, zcv_ne, ↓reduceIte, Nat.reduceEqDiff, zn_m1, zd_lt_p, zd_lt_n, zd_le_p, zd_le_n, zd_eq_p, zd_eq_n, zd_0_p, zd_0_n, zd_0lt_p, zd_0lt_n, zd_le0_p, zd_le0_n, zn_lt0, zn_le0, zn_add, zn_mul, zn_sub, zm_lt, zm_le, zm_eq, zb_1, zb_0, not_true_eq_false, not_false_eq_true, pk_c, pk_g0, pk_s0, pk_g1, pk_s1, pk_g2, pk_g3, pk_s3, pk_g4, pk_g5, pk_g6, pk_s6, pk_g7, pk_s7, pk_g8, pk_s8, pk_g9, pk_s9, h4, a0, a1, a2]
            · rw [e1]
              refine RS_pb ?_
              simp only [hv]
              exact ⟨rfl, r2⟩
          | inr y =>
            obtain ⟨q, l⟩ := y
            rw [hv] at r2
            obtain ⟨rfl, p2⟩ := r2
            obtain ⟨b1, b2, b3⟩ := hP _ _ _ hv
            obtain ⟨ok, μ4, a4, r4, c4⟩ := c_loop hr hn hP hC k (i + 1) q true _ μ2 (some (.int (nI 0))) (by omega) p2 (by simp only [List.length_append, List.length_cons, List.length_nil, if_true]; omega)
            refine ⟨ok, μ4, ?_, ?_, pf_trans c0 (pf_trans c1 (pf_trans c2 c4))⟩
            · rw [← a4, i17_14, show bw true = nI 1 from rfl]
              simp (disch := first | assumption | omega | decide) only [i17_0, i17_1, i17_2, i17_5, i17_8, i17_9, i17_10, i17_11, i17_12, i17_13, i17_15, i17_17, i17_20, i17_21, i17_24, i17_26, i17_29, i17_30, i17_33, i17_35, i17_38, i17_39, i17_42, i17_44, i17_47, i17_48, i17_51, i17_52, i17_54, i17_56, i17_59, i17_60, i17_63, i17_64, i17_66, i17_67, i17_70, i17_71, i17_74, i17_75, i17_76, i17_79, i17_82, i17_83, i17_84, i17_86, i17_89, i17_90, i17_92, i17_93, i17_96, i17_99, i17_100, i17_101, i17_104, i17_107, i17_108, i17_111, i17_112, i17_114, i17_115, i17_118, i17_119, ix_pv_s, ix_pi_s, zpn, ix_po_s, ix_po_n, ix_ph_s, ix_bk_v, ix_bk_n, zcv, zcv_ne, ↓reduceIte, Nat.reduceEqDiff, zn_m1, zd_lt_p, zd_lt_n, zd_le_p, zd_le_n, zd_eq_p, zd_eq_n, zd_0_p, zd_0_n, zd_0lt_p, zd_0lt_n, zd_le0_p, zd_le0_n, zn_lt0, zn_le0, zn_add, zn_mul, zn_sub, zm_lt, zm_le, zm_eq, zb_1, zb_0, not_true_eq_false, not_false_eq_true, pk_c, pk_g0, pk_s0, pk_g1, pk_s1, pk_g2, pk_g3, pk_s3, pk_g4, pk_g5, pk_g6, pk_s6, pk_g7, pk_s7, pk_g8, pk_s8, pk_g9, pk_s9, h4, a0, a1, a2]
            · rw [e1]
              refine RS_pb ?_
              simp only [hv]
              exact RS_pb r4
      · cases w
        · refine ⟨nI 1, μ, ?_, ?_, pf_refl⟩
          · rw [show bw false = nI 0 from rfl]
            simp (disch := first | assumption | omega | decide) only [i17_0, i17_1, i17_2, i17_5, i17_8, i17_9, i17_10, i17_11, i17_12, i17_13, i17_14, i17_15, i17_17, i17_20, i17_21, i17_24, i17_26, i17_29, i17_30, i17_33, i17_35, i17_38, i17_39, i17_42, i17_44, i17_47, i17_48, i17_51, i17_52, i17_54, i17_56, i17_59, i17_60, i17_63, i17_64, i17_66, i17_67, i17_70, i17_71, i17_74, i17_75, i17_76, i17_79, i17_82, i17_83, i17_84, i17_86, i17_89, i17_90, i17_92, i17_93, i17_96, i17_99, i17_100, i17_101, i17_104, i17_107, i17_108, i17_111, i17_112, i17_114, i17_115, i17_118, i17_119, ix_pv_s, ix_pi_s, zpn, ix_po_s, ix_po_n, ix_ph_s, ix_bk_v, ix_bk_n, zcv, zcv_ne, ↓reduceIte, Nat.reduceEqDiff, zn_m1, zd_lt_p, zd_lt_n, zd_le_p, zd_le_n, zd_eq_p, zd_eq_n, zd_0_p, zd_0_n, zd_0lt_p, zd_0lt_n, zd_le0_p, zd_le0_n, zn_lt0, zn_le0, zn_add, zn_mul, zn_sub, zm_lt, zm_le, zm_eq, zb_1, zb_0, not_true_eq_false, not_false_eq_true, pk_c, pk_g0, pk_s0, pk_g1, pk_s1, pk_g2, pk_g3, pk_s3, pk_g4, pk_g5, pk_g6, pk_s6, pk_g7, pk_s7, pk_g8, pk_s8, pk_g9, pk_s9, h4, q38, q124]
          · rw [loopS, if_neg q38, if_neg q124]
            refine ⟨rfl, ?_⟩
            rw [List.append_nil]
            exact h
        · obtain ⟨μ1, a1, p1, c1⟩ := c_emit0 (X := X) (d := e) (τ := τ) (a := 17) hr hn h (by simp only [if_true] at hl; omega) (by decide)
          refine ⟨nI 1, μ1, ?_, ?_, c1⟩
          · rw [show bw true = nI 1 from rfl]
            simp (disch := first | assumption | omega | decide) only [i17_0, i17_1, i17_2, i17_5, i17_8, i17_9, i17_10, i17_11, i17_12, i17_13, i17_14, i17_15, i17_17, i17_20, i17_21, i17_24, i17_26, i17_29, i17_30, i17_33, i17_35, i17_38, i17_39, i17_42, i17_44, i17_47, i17_48, i17_51, i17_52, i17_54, i17_56, i17_59, i17_60, i17_63, i17_64, i17_66, i17_67, i17_70, i17_71, i17_74, i17_75, i17_76, i17_79, i17_82, i17_83, i17_84, i17_86, i17_89, i17_90, i17_92, i17_93, i17_96, i17_99, i17_100, i17_101, i17_104, i17_107, i17_108, i17_111, i17_112, i17_114, i17_115, i17_118, i17_119, ix_pv_s, ix_pi_s, zpn, ix_po_s, ix_po_n, ix_ph_s, ix_bk_v, ix_bk_n, zcv, zcv_ne, ↓reduceIte, Nat.reduceEqDiff, zn_m1, zd_lt_p, zd_lt_n, zd_le_p, zd_le_n, zd_eq_p, zd_eq_n, zd_0_p, zd_0_n, zd_0lt_p, zd_0lt_n, zd_le0_p, zd_le0_n, zn_lt0, zn_le0, zn_add, zn_mul, zn_sub, zm_lt, zm_le, zm_eq, zb_1, zb_0, not_true_eq_false, not_false_eq_true, pk_c, pk_g0, pk_s0, pk_g1, pk_s1, pk_g2, pk_g3, pk_s3, pk_g4, pk_g5, pk_g6, pk_s6, pk_g7, pk_s7, pk_g8, pk_s8, pk_g9, pk_s9, h4, q38, q124, a1]
          · rw [loopS, if_neg q38, if_neg q124]
            exact ⟨rfl, p1⟩
theorem c_choice {o : Nat} (hr : pkO r) (hn : n ≤ 100) (hP : adv (n := n) P) (hC : kC X τ r n T e 18 [.int (nI o)] P) : kC X τ r n T (e + 1) 17 [.int (nI o)] (choS n T P) := by
  intro μ p cs h
  obtain ⟨ok, μ2, a2, r2, c2⟩ := hC μ p cs h
  cases hv : P p with
  | inl z =>
    rw [hv] at r2
    obtain ⟨rfl, r2⟩ := r2
    refine ⟨nI 0, μ2, ?_, ?_, c2⟩
    · simp (disch := first | assumption | omega | decide) only [e17, i17_0, i17_1, i17_2, i17_5, i17_8, i17_9, i17_10, i17_11, i17_12, i17_13, i17_14, i17_15, i17_17, i17_20, i17_21, i17_24, i17_26, i17_29, i17_30, i17_33, i17_35, i17_38, i17_39, i17_42, i17_44, i17_47, i17_48, i17_51, i17_52, i17_54, i17_56, i17_59, i17_60, i17_63, i17_64, i17_66, i17_67, i17_70, i17_71, i17_74, i17_75, i17_76, i17_79, i17_82, i17_83, i17_84, i17_86, i17_89, i17_90, i17_92, i17_93, i17_96, i17_99, i17_100, i17_101, i17_104, i17_107, i17_108, i17_111, i17_112, i17_114, i17_115, i17_118, i17_119, ix_pv_s, ix_pi_s, zpn, ix_po_s, ix_po_n, ix_ph_s, ix_bk_v, ix_bk_n, zcv, zcv_ne, ↓reduceIte, Nat.reduceEqDiff, zn_m1, zd_lt_p, zd_lt_n, zd_le_p, zd_le_n, zd_eq_p, zd_eq_n, zd_0_p, zd_0_n, zd_0lt_p, zd_0lt_n, zd_le0_p, zd_le0_n, zn_lt0, zn_le0, zn_add, zn_mul, zn_sub, zm_lt, zm_le, zm_eq, zb_1, zb_0, not_true_eq_false, not_false_eq_true, pk_c, pk_g0, pk_s0, pk_g1, pk_s1, pk_g2, pk_g3, pk_s3, pk_g4, pk_g5, pk_g6, pk_s6, pk_g7, pk_s7, pk_g8, pk_s8, pk_g9, pk_s9, a2]
    · rw [choS, hv]
      exact ⟨rfl, r2⟩
  | inr y =>
    obtain ⟨q, l⟩ := y
    rw [hv] at r2
    obtain ⟨rfl, p2⟩ := r2
    obtain ⟨b1, b2, b3⟩ := hP _ _ _ hv
    have hl8 := h.2.2.2.2.2.2.2
    obtain ⟨ok, μ4, a4, r4, c4⟩ := c_loop hr hn hP hC 100 0 q false _ μ2 none rfl p2 (by simp only [List.length_append, Bool.false_eq_true, if_false]; omega)
    refine ⟨ok, μ4, ?_, ?_, pf_trans c2 c4⟩
    · rw [← a4, show bw false = nI 0 from rfl]
      simp (disch := first | assumption | omega | decide) only [e17, i17_0, i17_1, i17_2, i17_5, i17_8, i17_9, i17_10, i17_11, i17_12, i17_13, i17_15, i17_17, i17_20, i17_21, i17_24, i17_26, i17_29, i17_30, i17_33, i17_35, i17_38, i17_39, i17_42, i17_44, i17_47, i17_48, i17_51, i17_52, i17_54, i17_56, i17_59, i17_60, i17_63, i17_64, i17_66, i17_67, i17_70, i17_71, i17_74, i17_75, i17_76, i17_79, i17_82, i17_83, i17_84, i17_86, i17_89, i17_90, i17_92, i17_93, i17_96, i17_99, i17_100, i17_101, i17_104, i17_107, i17_108, i17_111, i17_112, i17_114, i17_115, i17_118, i17_119, ix_pv_s, ix_pi_s, zpn, ix_po_s, ix_po_n, ix_ph_s, ix_bk_v, ix_bk_n, zcv, zcv_ne, ↓reduceIte, Nat.reduceEqDiff, zn_m1, zd_lt_p, zd_lt_n, zd_le_p, zd_le_n, zd_eq_p, zd_eq_n, zd_0_p, zd_0_n, zd_0lt_p, zd_0lt_n, zd_le0_p, zd_le0_n, zn_lt0, zn_le0, zn_add, zn_mul, zn_sub, zm_lt, zm_le, zm_eq, zb_1, zb_0, not_true_eq_false, not_false_eq_true, pk_c, pk_g0, pk_s0, pk_g1, pk_s1, pk_g2, pk_g3, pk_s3, pk_g4, pk_g5, pk_g6, pk_s6, pk_g7, pk_s7, pk_g8, pk_s8, pk_g9, pk_s9, a2]
    · rw [choS, hv]
      exact RS_pb r4
theorem c_part (hr : pkO r) (hn : n ≤ 100) (hT : ∀ i, i < n → ∃ b, b < 128 ∧ T i = nI b) : ∀ (d o e : Nat), o + d = 5 → kC X τ r n T (e + 3 * d + 5) 18 [.int (nI o)] (parS n T d)
  | 0, o, e, ho => by
    intro μ p cs h
    have h4 := h.2.2.2.1
    have ho' : o = 5 := ho
    subst ho'
    by_cases q33 : sg n T p = nI 33
    · rw [q33] at h4
      refine ⟨nI 0, μ, ?_, ?_, pf_refl⟩
      · simp (disch := first | assumption | omega | decide) only [e18, i18_0, i18_1, i18_4, i18_6, i18_9, i18_10, i18_13, i18_15, i18_18, i18_19, i18_22, i18_23, i18_24, i18_25, i18_28, i18_29, i18_30, i18_31, i18_34, i18_36, i18_39, i18_40, i18_43, i18_44, i18_45, i18_46, i18_49, i18_50, i18_53, i18_54, i18_55, i18_56, i18_57, i18_60, i18_63, i18_64, i18_66, i18_69, i18_72, i18_73, i18_76, i18_77, i18_78, i18_79, i18_80, i18_81, i18_82, i18_85, i18_88, i18_89, i18_90, i18_91, i18_93, i18_94, i18_97, i18_98, ix_pv_s, ix_pi_s, zpn, ix_po_s, ix_po_n, ix_ph_s, ix_bk_v, ix_bk_n, zcv, zcv_ne, ↓reduceIte, Nat.reduceEqDiff, zn_m1, zd_lt_p, zd_lt_n, zd_le_p, zd_le_n, zd_eq_p, zd_eq_n, zd_0_p, zd_0_n, zd_0lt_p, zd_0lt_n, zd_le0_p, zd_le0_n, zn_lt0, zn_le0, zn_add, zn_mul, zn_sub, zm_lt, zm_le, zm_eq, zb_1, zb_0, not_true_eq_false, not_false_eq_true, pk_c, pk_g0, pk_s0, pk_g1, pk_s1, pk_g2, pk_g3, pk_s3, pk_g4, pk_g5, pk_g6, pk_s6, pk_g7, pk_s7, pk_g8, pk_s8, pk_g9, pk_s9, h4]
      · rw [parS, if_pos (Or.inl q33)]
        exact ⟨rfl, h.2.2.1⟩
    · by_cases q40 : sg n T p = nI 40
      · rw [q40] at h4
        refine ⟨nI 0, μ, ?_, ?_, pf_refl⟩
        · simp (disch := first | assumption | omega | decide) only [e18, i18_0, i18_1, i18_4, i18_6, i18_9, i18_10, i18_13, i18_15, i18_18, i18_19, i18_22, i18_23, i18_24, i18_25, i18_28, i18_29, i18_30, i18_31, i18_34, i18_36, i18_39, i18_40, i18_43, i18_44, i18_45, i18_46, i18_49, i18_50, i18_53, i18_54, i18_55, i18_56, i18_57, i18_60, i18_63, i18_64, i18_66, i18_69, i18_72, i18_73, i18_76, i18_77, i18_78, i18_79, i18_80, i18_81, i18_82, i18_85, i18_88, i18_89, i18_90, i18_91, i18_93, i18_94, i18_97, i18_98, ix_pv_s, ix_pi_s, zpn, ix_po_s, ix_po_n, ix_ph_s, ix_bk_v, ix_bk_n, zcv, zcv_ne, ↓reduceIte, Nat.reduceEqDiff, zn_m1, zd_lt_p, zd_lt_n, zd_le_p, zd_le_n, zd_eq_p, zd_eq_n, zd_0_p, zd_0_n, zd_0lt_p, zd_0lt_n, zd_le0_p, zd_le0_n, zn_lt0, zn_le0, zn_add, zn_mul, zn_sub, zm_lt, zm_le, zm_eq, zb_1, zb_0, not_true_eq_false, not_false_eq_true, pk_c, pk_g0, pk_s0, pk_g1, pk_s1, pk_g2, pk_g3, pk_s3, pk_g4, pk_g5, pk_g6, pk_s6, pk_g7, pk_s7, pk_g8, pk_s8, pk_g9, pk_s9, h4]
        · rw [parS, if_pos (Or.inr q40)]
          exact ⟨rfl, h.2.2.1⟩
      · obtain ⟨ok, μ', a1, r1, c1⟩ := c_test (X := X) (d := e) (τ := τ) hr hn hT h
        have ho : ok = nI 0 ∨ ok = nI 1 := RS_01 r1
        refine ⟨ok, μ', ?_, ?_, c1⟩
        · rcases ho with rfl | rfl <;> simp (disch := first | assumption | omega | decide) only [e18, i18_0, i18_1, i18_4, i18_6, i18_9, i18_10, i18_13, i18_15, i18_18, i18_19, i18_22, i18_23, i18_24, i18_25, i18_28, i18_29, i18_30, i18_31, i18_34, i18_36, i18_39, i18_40, i18_43, i18_44, i18_45, i18_46, i18_49, i18_50, i18_53, i18_54, i18_55, i18_56, i18_57, i18_60, i18_63, i18_64, i18_66, i18_69, i18_72, i18_73, i18_76, i18_77, i18_78, i18_79, i18_80, i18_81, i18_82, i18_85, i18_88, i18_89, i18_90, i18_91, i18_93, i18_94, i18_97, i18_98, ix_pv_s, ix_pi_s, zpn, ix_po_s, ix_po_n, ix_ph_s, ix_bk_v, ix_bk_n, zcv, zcv_ne, ↓reduceIte, Nat.reduceEqDiff, zn_m1, zd_lt_p, zd_lt_n, zd_le_p, zd_le_n, zd_eq_p, zd_eq_n, zd_0_p, zd_0_n, zd_0lt_p, zd_0lt_n, zd_le0_p, zd_le0_n, zn_lt0, zn_le0, zn_add, zn_mul, zn_sub, zm_lt, zm_le, zm_eq, zb_1, zb_0, not_true_eq_false, not_false_eq_true, pk_c, pk_g0, pk_s0, pk_g1, pk_s1, pk_g2, pk_g3, pk_s3, pk_g4, pk_g5, pk_g6, pk_s6, pk_g7, pk_s7, pk_g8, pk_s8, pk_g9, pk_s9, h4, q33, q40, a1]
        · rw [parS, if_neg (fun hh => hh.elim q33 q40)]
          exact r1
  | d + 1, o, e, ho => by
    intro μ p cs h
    have h4 := h.2.2.2.1
    have ed : e + 3 * (d + 1) + 5 = (e + 2 + 3 * d + 5) + 1 := by omega
    rw [ed]
    by_cases q33 : sg n T p = nI 33
    · have lp := sg_lt (by decide) q33
      rw [q33] at h4
      obtain ⟨μ1, a1, p1, c1, _⟩ := c_step (X := X) (d := e + 2 + 3 * d + 5) (τ := τ) hr hn h lp
      obtain ⟨ok, μ2, a2, r2, c2⟩ := c_part hr hn hT d (o + 1) (e + 2) (by omega) μ1 (p + 1) cs p1
      cases hv : parS n T d (p + 1) with
      | inl z =>
        rw [hv] at r2
        obtain ⟨rfl, r2⟩ := r2
        refine ⟨nI 0, μ2, ?_, ?_, pf_trans c1 c2⟩
        · simp (disch := first | assumption | omega | decide) only [e18, i18_0, i18_1, i18_4, i18_6, i18_9, i18_10, i18_13, i18_15, i18_18, i18_19, i18_22, i18_23, i18_24, i18_25, i18_28, i18_29, i18_30, i18_31, i18_34, i18_36, i18_39, i18_40, i18_43, i18_44, i18_45, i18_46, i18_49, i18_50, i18_53, i18_54, i18_55, i18_56, i18_57, i18_60, i18_63, i18_64, i18_66, i18_69, i18_72, i18_73, i18_76, i18_77, i18_78, i18_79, i18_80, i18_81, i18_82, i18_85, i18_88, i18_89, i18_90, i18_91, i18_93, i18_94, i18_97, i18_98, ix_pv_s, ix_pi_s, zpn, ix_po_s, ix_po_n, ix_ph_s, ix_bk_v, ix_bk_n, zcv, zcv_ne, ↓reduceIte, Nat.reduceEqDiff, zn_m1, zd_lt_p, zd_lt_n, zd_le_p, zd_le_n, zd_eq_p, zd_eq_n, zd_0_p, zd_0_n, zd_0lt_p, zd_0lt_n, zd_le0_p, zd_le0_n, zn_lt0, zn_le0, zn_add, zn_mul, zn_sub, zm_lt, zm_le, zm_eq, zb_1, zb_0, not_true_eq_false, not_false_eq_true, pk_c, pk_g0, pk_s0, pk_g1, pk_s1, pk_g2, pk_g3, pk_s3, pk_g4, pk_g5, pk_g6, pk_s6, pk_g7, pk_s7, pk_g8, pk_s8, pk_g9, pk_s9, h4, a1, a2]
        · rw [parS, if_pos q33, hv]
          exact ⟨rfl, r2⟩
      | inr y =>
        obtain ⟨q, l⟩ := y
        rw [hv] at r2
        obtain ⟨rfl, p2⟩ := r2
        obtain ⟨b1, b2, b3⟩ := par_adv d _ _ _ hv
        have hl8 := h.2.2.2.2.2.2.2
        obtain ⟨μ3, a3, p3, c3⟩ := c_emit0 (X := X) (d := e + 2 + 3 * d + 5) (τ := τ) (a := 15) hr hn p2 (by rw [List.length_append]; omega) (by decide)
        refine ⟨nI 1, μ3, ?_, ?_, pf_trans c1 (pf_trans c2 c3)⟩
        · simp (disch := first | assumption | omega | decide) only [e18, i18_0, i18_1, i18_4, i18_6, i18_9, i18_10, i18_13, i18_15, i18_18, i18_19, i18_22, i18_23, i18_24, i18_25, i18_28, i18_29, i18_30, i18_31, i18_34, i18_36, i18_39, i18_40, i18_43, i18_44, i18_45, i18_46, i18_49, i18_50, i18_53, i18_54, i18_55, i18_56, i18_57, i18_60, i18_63, i18_64, i18_66, i18_69, i18_72, i18_73, i18_76, i18_77, i18_78, i18_79, i18_80, i18_81, i18_82, i18_85, i18_88, i18_89, i18_90, i18_91, i18_93, i18_94, i18_97, i18_98, ix_pv_s, ix_pi_s, zpn, ix_po_s, ix_po_n, ix_ph_s, ix_bk_v, ix_bk_n, zcv, zcv_ne, ↓reduceIte, Nat.reduceEqDiff, zn_m1, zd_lt_p, zd_lt_n, zd_le_p, zd_le_n, zd_eq_p, zd_eq_n, zd_0_p, zd_0_n, zd_0lt_p, zd_0lt_n, zd_le0_p, zd_le0_n, zn_lt0, zn_le0, zn_add, zn_mul, zn_sub, zm_lt, zm_le, zm_eq, zb_1, zb_0, not_true_eq_false, not_false_eq_true, pk_c, pk_g0, pk_s0, pk_g1, pk_s1, pk_g2, pk_g3, pk_s3, pk_g4, pk_g5, pk_g6, pk_s6, pk_g7, pk_s7, pk_g8, pk_s8, pk_g9, pk_s9, h4, a1, a2, a3]
        · rw [parS, if_pos q33, hv]
          refine RS_pb ?_
          exact ⟨rfl, p3⟩
    · by_cases q40 : sg n T p = nI 40
      · have lp := sg_lt (by decide) q40
        rw [q40] at h4
        obtain ⟨μ1, a1, p1, c1, _⟩ := c_step (X := X) (d := e + 2 + 3 * d + 5) (τ := τ) hr hn h lp
        obtain ⟨ok, μ2, a2, r2, c2⟩ := c_choice (e := e + 1 + 3 * d + 5) hr hn (par_adv d) (c_part hr hn hT d (o + 1) (e + 1) (by omega)) μ1 (p + 1) cs p1
        rw [show e + 1 + 3 * d + 5 + 1 = e + 2 + 3 * d + 5 by omega] at a2
        cases hv : choS n T (parS n T d) (p + 1) with
        | inl z =>
          rw [hv] at r2
          obtain ⟨rfl, r2⟩ := r2
          refine ⟨nI 0, μ2, ?_, ?_, pf_trans c1 c2⟩
          · simp (disch := first | assumption | omega | decide) only [e18, i18_0, i18_1, i18_4, i18_6, i18_9, i18_10, i18_13, i18_15, i18_18, i18_19, i18_22, i18_23, i18_24, i18_25, i18_28, i18_29, i18_30, i18_31, i18_34, i18_36, i18_39, i18_40, i18_43, i18_44, i18_45, i18_46, i18_49, i18_50, i18_53, i18_54, i18_55, i18_56, i18_57, i18_60, i18_63, i18_64, i18_66, i18_69, i18_72, i18_73, i18_76, i18_77, i18_78, i18_79, i18_80, i18_81, i18_82, i18_85, i18_88, i18_89, i18_90, i18_91, i18_93, i18_94, i18_97, i18_98, ix_pv_s, ix_pi_s, zpn, ix_po_s, ix_po_n, ix_ph_s, ix_bk_v, ix_bk_n, zcv, zcv_ne, ↓reduceIte, Nat.reduceEqDiff, zn_m1, zd_lt_p, zd_lt_n, zd_le_p, zd_le_n, zd_eq_p, zd_eq_n, zd_0_p, zd_0_n, zd_0lt_p, zd_0lt_n, zd_le0_p, zd_le0_n, zn_lt0, zn_le0, zn_add, zn_mul, zn_sub, zm_lt, zm_le, zm_eq, zb_1, zb_0, not_true_eq_false, not_false_eq_true, pk_c, pk_g0, pk_s0, pk_g1, pk_s1, pk_g2, pk_g3, pk_s3, pk_g4, pk_g5, pk_g6, pk_s6, pk_g7, pk_s7, pk_g8, pk_s8, pk_g9, pk_s9, h4, a1, a2]
          · rw [parS, if_neg q33, if_pos q40, hv]
            exact ⟨rfl, r2⟩
        | inr y =>
          obtain ⟨q, l⟩ := y
          rw [hv] at r2
          obtain ⟨rfl, p2⟩ := r2
          obtain ⟨ok, μ3, a3, c3, _, r3⟩ := c_sign (X := X) (d := e + 1 + 3 * d + 5) (τ := τ) (c := 41) hr hn (by decide) p2
          rw [show e + 1 + 3 * d + 5 + 1 = e + 2 + 3 * d + 5 by omega] at a3
          rcases r3 with ⟨q41, rfl, p3⟩ | ⟨q41, rfl, rfl⟩
          · refine ⟨nI 1, μ3, ?_, ?_, pf_trans c1 (pf_trans c2 c3)⟩
            · simp (disch := first | assumption | omega | decide) only [e18, i18_0, i18_1, i18_4, i18_6, i18_9, i18_10, i18_13, i18_15, i18_18, i18_19, i18_22, i18_23, i18_24, i18_25, i18_28, i18_29, i18_30, i18_31, i18_34, i18_36, i18_39, i18_40, i18_43, i18_44, i18_45, i18_46, i18_49, i18_50, i18_53, i18_54, i18_55, i18_56, i18_57, i18_60, i18_63, i18_64, i18_66, i18_69, i18_72, i18_73, i18_76, i18_77, i18_78, i18_79, i18_80, i18_81, i18_82, i18_85, i18_88, i18_89, i18_90, i18_91, i18_93, i18_94, i18_97, i18_98, ix_pv_s, ix_pi_s, zpn, ix_po_s, ix_po_n, ix_ph_s, ix_bk_v, ix_bk_n, zcv, zcv_ne, ↓reduceIte, Nat.reduceEqDiff, zn_m1, zd_lt_p, zd_lt_n, zd_le_p, zd_le_n, zd_eq_p, zd_eq_n, zd_0_p, zd_0_n, zd_0lt_p, zd_0lt_n, zd_le0_p, zd_le0_n, zn_lt0, zn_le0, zn_add, zn_mul, zn_sub, zm_lt, zm_le, zm_eq, zb_1, zb_0, not_true_eq_false, not_false_eq_true, pk_c, pk_g0, pk_s0, pk_g1, pk_s1, pk_g2, pk_g3, pk_s3, pk_g4, pk_g5, pk_g6, pk_s6, pk_g7, pk_s7, pk_g8, pk_s8, pk_g9, pk_s9, h4, a1, a2, a3]
            · rw [parS, if_neg q33, if_pos q40, hv]
              refine RS_pb ?_
              rw [cloS, if_pos q41]
              refine ⟨rfl, ?_⟩
              rw [List.append_nil]
              exact p3
          · refine ⟨nI 0, μ3, ?_, ?_, pf_trans c1 (pf_trans c2 c3)⟩
            · simp (disch := first | assumption | omega | decide) only [e18, i18_0, i18_1, i18_4, i18_6, i18_9, i18_10, i18_13, i18_15, i18_18, i18_19, i18_22, i18_23, i18_24, i18_25, i18_28, i18_29, i18_30, i18_31, i18_34, i18_36, i18_39, i18_40, i18_43, i18_44, i18_45, i18_46, i18_49, i18_50, i18_53, i18_54, i18_55, i18_56, i18_57, i18_60, i18_63, i18_64, i18_66, i18_69, i18_72, i18_73, i18_76, i18_77, i18_78, i18_79, i18_80, i18_81, i18_82, i18_85, i18_88, i18_89, i18_90, i18_91, i18_93, i18_94, i18_97, i18_98, ix_pv_s, ix_pi_s, zpn, ix_po_s, ix_po_n, ix_ph_s, ix_bk_v, ix_bk_n, zcv, zcv_ne, ↓reduceIte, Nat.reduceEqDiff, zn_m1, zd_lt_p, zd_lt_n, zd_le_p, zd_le_n, zd_eq_p, zd_eq_n, zd_0_p, zd_0_n, zd_0lt_p, zd_0lt_n, zd_le0_p, zd_le0_n, zn_lt0, zn_le0, zn_add, zn_mul, zn_sub, zm_lt, zm_le, zm_eq, zb_1, zb_0, not_true_eq_false, not_false_eq_true, pk_c, pk_g0, pk_s0, pk_g1, pk_s1, pk_g2, pk_g3, pk_s3, pk_g4, pk_g5, pk_g6, pk_s6, pk_g7, pk_s7, pk_g8, pk_s8, pk_g9, pk_s9, h4, a1, a2, a3]
            · rw [parS, if_neg q33, if_pos q40, hv]
              refine RS_pb ?_
              rw [cloS, if_neg q41]
              exact ⟨rfl, p2.2.2.1⟩
      · obtain ⟨ok, μ', a1, r1, c1⟩ := c_test (X := X) (d := e + 3 * (d + 1)) (τ := τ) hr hn hT h
        rw [show e + 3 * (d + 1) + 4 = e + 2 + 3 * d + 5 by omega] at a1
        have ho : ok = nI 0 ∨ ok = nI 1 := RS_01 r1
        refine ⟨ok, μ', ?_, ?_, c1⟩
        · rcases ho with rfl | rfl <;> simp (disch := first | assumption | omega | decide) only [e18, i18_0, i18_1, i18_4, i18_6, i18_9, i18_10, i18_13, i18_15, i18_18, i18_19, i18_22, i18_23, i18_24, i18_25, i18_28, i18_29, i18_30, i18_31, i18_34, i18_36, i18_39, i18_40, i18_43, i18_44, i18_45, i18_46, i18_49, i18_50, i18_53, i18_54, i18_55, i18_56, i18_57, i18_60, i18_63, i18_64, i18_66, i18_69, i18_72, i18_73, i18_76, i18_77, i18_78, i18_79, i18_80, i18_81, i18_82, i18_85, i18_88, i18_89, i18_90, i18_91, i18_93, i18_94, i18_97, i18_98, ix_pv_s, ix_pi_s, zpn, ix_po_s, ix_po_n, ix_ph_s, ix_bk_v, ix_bk_n, zcv, zcv_ne, ↓reduceIte, Nat.reduceEqDiff, zn_m1, zd_lt_p, zd_lt_n, zd_le_p, zd_le_n, zd_eq_p, zd_eq_n, zd_0_p, zd_0_n, zd_0lt_p, zd_0lt_n, zd_le0_p, zd_le0_n, zn_lt0, zn_le0, zn_add, zn_mul, zn_sub, zm_lt, zm_le, zm_eq, zb_1, zb_0, not_true_eq_false, not_false_eq_true, pk_c, pk_g0, pk_s0, pk_g1, pk_s1, pk_g2, pk_g3, pk_s3, pk_g4, pk_g5, pk_g6, pk_s6, pk_g7, pk_s7, pk_g8, pk_s8, pk_g9, pk_s9, h4, q33, q40, a1]
        · rw [parS, if_neg q33, if_neg q40]
          exact r1
end CP
