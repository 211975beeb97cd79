/-! ===== way, ruled ===== -/
--need 50.mean
/-- the way told by hand: from leg i on, k legs -/
def wayW (S : Nat → Int32) (cs : List Nat) (pace : Nat) : Nat → Nat → wyT → wyT
  | 0, _, s => s
  | k + 1, i, s => wayW S cs pace k (i + 1) (if S (69 + i) = -1 then s else wwt S cs (nS S (69 + i)) (nS S (73 + i)) (wgo S cs pace (nS S (29 + nS S (69 + i))) s))
def rulW (S : Nat → Int32) (cs : List Nat) (t : Nat) (n : Int32) : Nat → wyT → wyT
  | 0, s => s
  | k + 1, s => if uS S cs t s.2.1 < n then rulW S cs t n k (wwt S cs t 1 s) else s
def folW (S : Nat → Int32) (cs : List Nat) (pace t : Nat) (n : Int32) (s : wyT) : wyT := if uS S cs t s.2.1 < n then rulW S cs t n 20 (wgo S cs pace (nS S (29 + t)) s) else s
def rulsW (S : Nat → Int32) (cs : List Nat) (pace : Nat) : Nat → Nat → wyT → wyT
  | 0, _, s => s
  | k + 1, i, s => rulsW S cs pace k (i + 1) (folW S cs pace (nS S (77 + i)) (S (81 + i)) s)
/-- home from where one is: what is told -/
def homT (S : Nat → Int32) (N : Nat → Nat) (cs : List Nat) (what i : Nat) (s : wyT) : Int32 := tlS S (S (64 + i)) what ((wgo S cs (nS S (59 + i)) (N 9) s).2.1 - N 8) (wgo S cs (nS S (59 + i)) (N 9) s).2.2
theorem rulW_le {S : Nat → Int32} {cs : List Nat} {t : Nat} {n : Int32} : ∀ (k : Nat) (s : wyT), (rulW S cs t n k s).1 = s.1 ∧ s.2.1 ≤ (rulW S cs t n k s).2.1 ∧ (rulW S cs t n k s).2.1 ≤ s.2.1 + k
  | 0, s => ⟨rfl, Nat.le_refl _, Nat.le_refl _⟩
  | k + 1, s => by
    rw [rulW]
    split
    · obtain ⟨a, b, c⟩ := rulW_le (S := S) (cs := cs) (t := t) (n := n) k (wwt S cs t 1 s)
      simp only [wwt] at a b c ⊢
      omega
    · exact ⟨rfl, Nat.le_refl _, by omega⟩
section Q8
variable {X : ix_X} {d : Nat} {τ : List fm_D} {μ : fm_M} {S : Nat → Int32} {N : Nat → Nat} {C : Nat → List Nat} {Q : Nat → Nat} {t m : Nat}
theorem QI_leg (h : QI μ τ S N C Q) {i : Nat} (hi : i < N 3) : (S (69 + i) = -1 ∨ (S (69 + i) = nI (nS S (69 + i)) ∧ nS S (69 + i) < N 0 ∧ ¬ S (69 + i) = -1)) ∧ S (73 + i) = nI (nS S (73 + i)) ∧ nS S (73 + i) ≤ 20 := by
  obtain ⟨h1, h2⟩ := h.1.2.2.2.2.2.1 i hi
  have hb := QI_b h
  refine ⟨?_, okN_nS h2 (by decide)⟩
  rcases h1 with h1 | ⟨t, ht, e⟩
  · exact Or.inl h1
  · right
    rw [nS_of e (by omega)]
    exact ⟨e, ht, by rw [e, zm_eq (by omega)]; exact id⟩
theorem QI_rul (h : QI μ τ S N C Q) {i : Nat} (hi : i < N 4) : S (77 + i) = nI (nS S (77 + i)) ∧ nS S (77 + i) < N 0 ∧ S (81 + i) = nI (nS S (81 + i)) ∧ nS S (81 + i) ≤ 20 := by
  obtain ⟨⟨t, ht, e⟩, h2⟩ := h.1.2.2.2.2.2.2.1 i hi
  have hb := QI_b h
  obtain ⟨h3, h4⟩ := okN_nS h2 (by decide)
  rw [nS_of e (by omega)]
  exact ⟨e, ht, h3, h4⟩
theorem cl_endW {w what : Nat} {s : wyT} (h : QI μ τ S N C Q) (hi : w < N 1) (hwh : what ≤ 2) (ht : trw μ 64 (nS S (59 + w)) s) (h1 : s.1 ≤ 99) (h2 : N 8 ≤ s.2.1) (h3 : s.2.1 ≤ 1500) : ∃ μ' : fm_M, ix_call X (d + 2) 67 [.ref 0, .int (nI 1)] (fm_W μ τ) = some (some (.int (nI (N 9))), fm_W μ τ) ∧ ix_call X (d + 2) 59 [.ref 64, .int (nI (N 9))] (fm_W μ τ) = some (none, fm_W μ' τ) ∧ ix_call X (d + 2) 89 [.ref 0, .ref 64, .int (nI w), .int (nI what)] (fm_W μ' τ) = some (some (.int (homT S N (csN N C) what w s)), fm_W μ' τ) ∧ QI μ' τ S N C Q := by
  obtain ⟨b0, b1, b2, b3, b4, b5, b6, b8, b9, b10⟩ := QI_b h
  obtain ⟨p0, p1, p2⟩ := QI_pc h hi
  have k2 := cl_homeQ (X := X) (d := d + 1) h
  obtain ⟨μ2, a2, q2, t2, f2⟩ := cl_walkQ (X := X) (d := d) (r := 64) (to := N 9) rfl h ht p1 p2 h1 b9 h3
  have g := wgo_le (S := S) (cs := csN N C) (s := s) p1 h1 b9
  exact ⟨μ2, k2, a2, cl_outQ (X := X) (d := d) (r := 64) rfl q2 t2 (by omega) hi hwh, q2⟩
theorem cl_wayL {w what : Nat} (hw : w < N 1) (hwh : what ≤ 2) : ∀ (k i : Nat) (s : wyT) (μ : fm_M) (x4 : Option Value), QI μ τ S N C Q → trw μ 64 (nS S (59 + w)) s → i + k = N 3 → s.1 ≤ 99 → N 8 ≤ s.2.1 → s.2.1 ≤ N 8 + 119 * i → ∃ μ' : fm_M, ix_sem X (d + 6) 93 33 [some (.ref 0), some (.int (nI w)), some (.int (nI what)), some (.int (nI i)), x4] [] (fm_W μ τ) = some (some (.int (homT S N (csN N C) what w (wayW S (csN N C) (nS S (59 + w)) k i s))), fm_W μ' τ) ∧ QI μ' τ S N C Q
  | 0, i, s, μ, x4, h, ht, e, h1, h2, h3 => by
    have hb := QI_b h
    have hO : rwO 10 := rfl
    have hT : tpO 64 := rfl
    have hz : μ 10 4 = nI (N 3) := h.2.1.1.2.2.2.1.1.2.2.trans (QI_S h (by decide) (by decide))
    obtain ⟨μ', a1, a2, a3, q⟩ := cl_endW (X := X) (d := d + 3) h hw hwh ht h1 h2 (by omega)
    refine ⟨μ', ?_, q⟩
    simp (disch := first | assumption | omega | decide) only [i93_0, i93_1, i93_4, i93_5, i93_8, i93_11, i93_12, i93_13, i93_14, i93_17, i93_20, i93_21, i93_22, i93_23, i93_24, i93_27, i93_28, i93_31, i93_32, i93_33, i93_34, i93_35, i93_38, i93_41, i93_44, i93_45, i93_46, i93_49, i93_50, i93_51, i93_54, i93_57, i93_57n, i93_59, i93_59n, i93_61n, i93_61, i93_64, i93_65, i93_68, i93_68n, i93_70, i93_71, i93_74, i93_75, i93_76, i93_79, i93_82, i93_85, i93_88, i93_89, i93_92, i93_93, i93_94, i93_97, i93_100, i93_101, i93_102, i93_105, i93_106, i93_107, i93_110, ix_pv_s, ix_pi_s, zpn, ix_po_s, ix_po_n, ix_ph_s, ix_bk_v, ix_bk_n, zcv, zcv_ne, ↓reduceIte, Nat.reduceEqDiff, zn_m1, zd_lt_p, zd_lt_n, zd_le_p, zd_le_n, zd_eq_p, zd_eq_n, zd_0_p, zd_0_n, zd_0lt_p, zd_0lt_n, zd_le0_p, zd_le0_n, zn_lt0, zn_le0, zn_add, zn_mul, zn_sub, zm_lt, zm_le, zm_eq, zb_1, zb_0, not_true_eq_false, not_false_eq_true, t0_c, t0_g0, t0_g1, t0_g2, t0_g3, t0_g4, t0_g5, t0_g6, t0_g7, t0_g8, t0_g9, t0_g10, t0_s11, t0_g12, t0_s12, t0_g13, t0_g14, t0_g15, t0_g16, t0_c, rw_c, rw_g4, hz, tp_c, a1, a2, a3, wayW]
  | k + 1, i, s, μ, x4, h, ht, e, h1, h2, h3 => by
    have hb := QI_b h
    have hi : i < N 3 := by omega
    have hA : rwA 10 8 := ⟨rfl, rfl, rfl⟩
    have hO : rwO 10 := rfl
    have hT : tpO 64 := rfl
    obtain ⟨⟨w0, w1, w2⟩, wc⟩ := h.2.1.1.2.2.2.1
    have hz : μ 10 4 = nI (N 3) := w2.trans (QI_S h (by decide) (by decide))
    obtain ⟨c1, c2⟩ := wc i hi
    obtain ⟨g0, g1, g2⟩ := QI_leg h hi
    obtain ⟨p0, p1, p2⟩ := QI_pc h hw
    have k0 := rw_cell (X := X) (d := d + 5) (τ := τ) (i := i) (c := 0) hA w1 hz hi (by decide) (by omega) (by decide) (by omega) (by decide)
    have k1 := rw_cell (X := X) (d := d + 5) (τ := τ) (i := i) (c := 1) hA w1 hz hi (by decide) (by omega) (by decide) (by omega) (by decide)
    rw [show μ (10 + 1) (i * 2 + 1) = nI (nS S (73 + i)) from c2.trans g1] at k1
    rcases g0 with g0 | ⟨g0, gt, gn⟩
    · rw [show μ (10 + 1) (i * 2 + 0) = -1 from c1.trans g0] at k0
      have hc := cl_treeN (X := X) (d := d + 3) (a := -1) h (inS_m1 (by omega))
      obtain ⟨μ3, a3, q3⟩ := cl_wayL hw hwh k (i + 1) s μ (some .null) h ht (by omega) h1 h2 (by omega)
      refine ⟨μ3, ?_, q3⟩
      rw [wayW, if_pos g0, ← a3, i93_33]
      simp (disch := first | assumption | omega | decide) only [i93_0, i93_1, i93_4, i93_5, i93_8, i93_11, i93_12, i93_13, i93_14, i93_17, i93_20, i93_21, i93_22, i93_23, i93_24, i93_27, i93_28, i93_31, i93_32, i93_34, i93_35, i93_38, i93_41, i93_44, i93_45, i93_46, i93_49, i93_50, i93_51, i93_54, i93_57, i93_57n, i93_59, i93_59n, i93_61n, i93_61, i93_64, i93_65, i93_68, i93_68n, i93_70, i93_71, i93_74, i93_75, i93_76, i93_79, i93_82, i93_85, i93_88, i93_89, i93_92, i93_93, i93_94, i93_97, i93_100, i93_101, i93_102, i93_105, i93_106, i93_107, i93_110, ix_pv_s, ix_pi_s, zpn, ix_po_s, ix_po_n, ix_ph_s, ix_bk_v, ix_bk_n, zcv, zcv_ne, ↓reduceIte, Nat.reduceEqDiff, zn_m1, zd_lt_p, zd_lt_n, zd_le_p, zd_le_n, zd_eq_p, zd_eq_n, zd_0_p, zd_0_n, zd_0lt_p, zd_0lt_n, zd_le0_p, zd_le0_n, zn_lt0, zn_le0, zn_add, zn_mul, zn_sub, zm_lt, zm_le, zm_eq, zb_1, zb_0, not_true_eq_false, not_false_eq_true, t0_c, t0_g0, t0_g1, t0_g2, t0_g3, t0_g4, t0_g5, t0_g6, t0_g7, t0_g8, t0_g9, t0_g10, t0_s11, t0_g12, t0_s12, t0_g13, t0_g14, t0_g15, t0_g16, t0_c, rw_c, rw_g4, hz, k0, hc]
    · rw [show μ (10 + 1) (i * 2 + 0) = nI (nS S (69 + i)) from c1.trans g0] at k0
      have hc := cl_tree (X := X) (d := d + 3) h gt
      obtain ⟨l0, l1⟩ := QI_pl h gt
      obtain ⟨μ1, a1, q1, t1, f1⟩ := cl_visitQ (X := X) (d := d) (r := 64) (k := nS S (73 + i)) rfl h gt ht p1 p2 h1 g2 (by omega)
      have gl := wgo_le (S := S) (cs := csN N C) (pace := nS S (59 + w)) (to := nS S (29 + nS S (69 + i))) (s := s) p1 h1 l1
      obtain ⟨μ3, a3, q3⟩ := cl_wayL hw hwh k (i + 1) _ μ1 (some (.ref (Q (nS S (69 + i))))) q1 t1 (by omega) (by simp only [wwt]; omega) (by simp only [wwt]; omega) (by simp only [wwt]; omega)
      refine ⟨μ3, ?_, q3⟩
      rw [wayW, if_neg gn, ← a3, i93_33]
      simp (disch := first | assumption | omega | decide) only [i93_0, i93_1, i93_4, i93_5, i93_8, i93_11, i93_12, i93_13, i93_14, i93_17, i93_20, i93_21, i93_22, i93_23, i93_24, i93_27, i93_28, i93_31, i93_32, i93_34, i93_35, i93_38, i93_41, i93_44, i93_45, i93_46, i93_49, i93_50, i93_51, i93_54, i93_57, i93_57n, i93_59, i93_59n, i93_61n, i93_61, i93_64, i93_65, i93_68, i93_68n, i93_70, i93_71, i93_74, i93_75, i93_76, i93_79, i93_82, i93_85, i93_88, i93_89, i93_92, i93_93, i93_94, i93_97, i93_100, i93_101, i93_102, i93_105, i93_106, i93_107, i93_110, ix_pv_s, ix_pi_s, zpn, ix_po_s, ix_po_n, ix_ph_s, ix_bk_v, ix_bk_n, zcv, zcv_ne, ↓reduceIte, Nat.reduceEqDiff, zn_m1, zd_lt_p, zd_lt_n, zd_le_p, zd_le_n, zd_eq_p, zd_eq_n, zd_0_p, zd_0_n, zd_0lt_p, zd_0lt_n, zd_le0_p, zd_le0_n, zn_lt0, zn_le0, zn_add, zn_mul, zn_sub, zm_lt, zm_le, zm_eq, zb_1, zb_0, not_true_eq_false, not_false_eq_true, t0_c, t0_g0, t0_g1, t0_g2, t0_g3, t0_g4, t0_g5, t0_g6, t0_g7, t0_g8, t0_g9, t0_g10, t0_s11, t0_g12, t0_s12, t0_g13, t0_g14, t0_g15, t0_g16, t0_c, rw_c, rw_g4, hz, k0, k1, hc, tp_c, a1]
theorem mo_endW {w what : Nat} {s : wyT} (h : QI μ τ S N C Q) (hi : w < N 1) (hwh : what ≤ 2) (ht : mtw μ s) (h1 : s.1 ≤ 99) (h2 : N 8 ≤ s.2.1) (h3 : s.2.1 ≤ 1500) : ∃ μ' : fm_M, ix_call X (d + 3) 175 [.ref 67, .int (nI (N 9)), .int (nI (nS S (59 + w)))] (fm_W μ τ) = some (none, fm_W μ' τ) ∧ ix_call X (d + 3) 176 [.ref 67, .int (nI w), .int (nI what)] (fm_W μ' τ) = some (some (.int (homT S N (csN N C) what w s)), fm_W μ' τ) ∧ QI μ' τ S N C Q := by
  obtain ⟨b0, b1, b2, b3, b4, b5, b6, b8, b9, b10⟩ := QI_b h
  obtain ⟨p0, p1, p2⟩ := QI_pc h hi
  obtain ⟨μ2, a2, q2, t2, f2⟩ := mo_walkQ (X := X) (d := d) (to := N 9) h ht p1 p2 h1 b9 h3
  have g := wgo_le (S := S) (cs := csN N C) (s := s) p1 h1 b9
  exact ⟨μ2, a2, mo_tellQ (X := X) (d := d + 1) q2 t2 (by omega) hi hwh, q2⟩
theorem QI_9 (h : QI μ τ S N C Q) : S 9 = nI (N 9) := QI_S h (by decide) (by decide)
theorem mo_wayL {w what : Nat} (hw : w < N 1) (hwh : what ≤ 2) : ∀ (k i : Nat) (s : wyT) (μ : fm_M) (x5 : Option Value), QI μ τ S N C Q → mtw μ s → i + k = N 3 → s.1 ≤ 99 → N 8 ≤ s.2.1 → s.2.1 ≤ N 8 + 119 * i → ∃ μ' : fm_M, ix_sem X (d + 7) 181 37 [some (.ref 67), some (.int (nI w)), some (.int (nI what)), some (.int (nI (nS S (59 + w)))), some (.int (nI i)), x5] [] (fm_W μ τ) = some (some (.int (homT S N (csN N C) what w (wayW S (csN N C) (nS S (59 + w)) k i s))), fm_W μ' τ) ∧ QI μ' τ S N C Q
  | 0, i, s, μ, x5, h, ht, e, h1, h2, h3 => by
    have hb := QI_b h
    have e68 := QI_68 h
    have e3 := QI_S h (k := 3) (by decide) (by decide)
    have e9 := QI_9 h
    obtain ⟨μ', a2, a3, q⟩ := mo_endW (X := X) (d := d + 3) h hw hwh ht h1 h2 (by omega)
    refine ⟨μ', ?_, q⟩
    simp (disch := first | assumption | omega | decide) only [i181_0, i181_1, i181_2, i181_5, i181_8, i181_9, i181_10, i181_11, i181_14, i181_17, i181_18, i181_19, i181_20, i181_23, i181_25, i181_26, i181_27, i181_28, i181_29, i181_30, i181_31, i181_34, i181_35, i181_37, i181_39, i181_40, i181_43, i181_44, i181_45, i181_48, i181_49, i181_52, i181_54, i181_56, i181_57, i181_58, i181_60, i181_62, i181_63, i181_66, i181_67, i181_68, i181_71, i181_73, i181_75, i181_76, i181_77, i181_78, i181_81, i181_82, i181_84, i181_85, i181_88, i181_90, i181_92, i181_93, i181_94, i181_97, i181_100, i181_103, i181_104, i181_105, i181_108, i181_110, i181_111, i181_112, i181_115, i181_116, i181_117, i181_118, i181_121, ix_pv_s, ix_pi_s, zpn, ix_po_s, ix_po_n, ix_ph_s, ix_bk_v, ix_bk_n, zcv, zcv_ne, ↓reduceIte, Nat.reduceEqDiff, zn_m1, zd_lt_p, zd_lt_n, zd_le_p, zd_le_n, zd_eq_p, zd_eq_n, zd_0_p, zd_0_n, zd_0lt_p, zd_0lt_n, zd_le0_p, zd_le0_n, zn_lt0, zn_le0, zn_add, zn_mul, zn_sub, zm_lt, zm_le, zm_eq, zb_1, zb_0, not_true_eq_false, not_false_eq_true, mo_c, mo_g0, mo_s0, mo_g1, mo_g2, mo_g3, mo_s3, mo_g4, mo_s4, mo_g5, mo_s5, mo_g6, mo_s6, mo_g7, mo_s7, mo_g8, mo_s8, mo_g9, mo_g10, mo_g11, mo_g12, mo_g13, mo_s13, mo_g14, mo_s14, mo_g15, mo_s15, mo_g16, mo_g17, mo_s17, mo_g18, mo_s18, mo_g19, mo_g20, mo_s20, mo_g21, mo_s21, mo_g22, mo_s22, mo_g23, mo_s23, ra_25, wa_25, al_25, ra_68, wa_68, al_68, ra_69, wa_69, al_69, ra_70, wa_70, al_70, ra_71, wa_71, al_71, ra_72, wa_72, al_72, ra_73, wa_73, al_73, ra_74, wa_74, al_74, ra_75, wa_75, al_75, e68, e3, e9, a2, a3, wayW]
  | k + 1, i, s, μ, x5, h, ht, e, h1, h2, h3 => by
    have hb := QI_b h
    have hi : i < N 3 := by omega
    have e68 := QI_68 h
    have e3 := QI_S h (k := 3) (by decide) (by decide)
    obtain ⟨g0, g1, g2⟩ := QI_leg h hi
    obtain ⟨p0, p1, p2⟩ := QI_pc h hw
    rcases g0 with g0 | ⟨g0, gt, gn⟩
    · obtain ⟨μ3, a3, q3⟩ := mo_wayL hw hwh k (i + 1) s μ (some (.int (-1))) h ht (by omega) h1 h2 (by omega)
      refine ⟨μ3, ?_, q3⟩
      rw [wayW, if_pos g0, ← a3, i181_37]
      simp (disch := first | assumption | omega | decide) only [i181_0, i181_1, i181_2, i181_5, i181_8, i181_9, i181_10, i181_11, i181_14, i181_17, i181_18, i181_19, i181_20, i181_23, i181_25, i181_26, i181_27, i181_28, i181_29, i181_30, i181_31, i181_34, i181_35, i181_39, i181_40, i181_43, i181_44, i181_45, i181_48, i181_49, i181_52, i181_54, i181_56, i181_57, i181_58, i181_60, i181_62, i181_63, i181_66, i181_67, i181_68, i181_71, i181_73, i181_75, i181_76, i181_77, i181_78, i181_81, i181_82, i181_84, i181_85, i181_88, i181_90, i181_92, i181_93, i181_94, i181_97, i181_100, i181_103, i181_104, i181_105, i181_108, i181_110, i181_111, i181_112, i181_115, i181_116, i181_117, i181_118, i181_121, ix_pv_s, ix_pi_s, zpn, ix_po_s, ix_po_n, ix_ph_s, ix_bk_v, ix_bk_n, zcv, zcv_ne, ↓reduceIte, Nat.reduceEqDiff, zn_m1, zd_lt_p, zd_lt_n, zd_le_p, zd_le_n, zd_eq_p, zd_eq_n, zd_0_p, zd_0_n, zd_0lt_p, zd_0lt_n, zd_le0_p, zd_le0_n, zn_lt0, zn_le0, zn_add, zn_mul, zn_sub, zm_lt, zm_le, zm_eq, zb_1, zb_0, not_true_eq_false, not_false_eq_true, mo_c, mo_g0, mo_s0, mo_g1, mo_g2, mo_g3, mo_s3, mo_g4, mo_s4, mo_g5, mo_s5, mo_g6, mo_s6, mo_g7, mo_s7, mo_g8, mo_s8, mo_g9, mo_g10, mo_g11, mo_g12, mo_g13, mo_s13, mo_g14, mo_s14, mo_g15, mo_s15, mo_g16, mo_g17, mo_s17, mo_g18, mo_s18, mo_g19, mo_g20, mo_s20, mo_g21, mo_s21, mo_g22, mo_s22, mo_g23, mo_s23, ra_25, wa_25, al_25, ra_68, wa_68, al_68, ra_69, wa_69, al_69, ra_70, wa_70, al_70, ra_71, wa_71, al_71, ra_72, wa_72, al_72, ra_73, wa_73, al_73, ra_74, wa_74, al_74, ra_75, wa_75, al_75, e68, e3, g0]
    · obtain ⟨l0, l1⟩ := QI_pl h gt
      have gl := wgo_le (S := S) (cs := csN N C) (pace := nS S (59 + w)) (to := nS S (29 + nS S (69 + i))) (s := s) p1 h1 l1
      obtain ⟨μ1, a1, q1, t1, f1⟩ := mo_walkQ (X := X) (d := d + 3) (pace := nS S (59 + w)) (to := nS S (29 + nS S (69 + i))) h ht p1 p2 h1 l1 (by omega)
      have f68 := QI_68 q1
      obtain ⟨μ2, a2, q2, t2, f2⟩ := mo_waitQ (X := X) (d := d) (k := nS S (73 + i)) q1 gt t1 (by omega) (by omega)
      obtain ⟨μ3, a3, q3⟩ := mo_wayL hw hwh k (i + 1) _ μ2 (some (.int (nI (nS S (69 + i))))) q2 t2 (by omega) (by simp only [wwt]; omega) (by simp only [wwt]; omega) (by simp only [wwt]; omega)
      refine ⟨μ3, ?_, q3⟩
      rw [wayW, if_neg gn, ← a3, i181_37]
      simp (disch := first | assumption | omega | decide) only [i181_0, i181_1, i181_2, i181_5, i181_8, i181_9, i181_10, i181_11, i181_14, i181_17, i181_18, i181_19, i181_20, i181_23, i181_25, i181_26, i181_27, i181_28, i181_29, i181_30, i181_31, i181_34, i181_35, i181_39, i181_40, i181_43, i181_44, i181_45, i181_48, i181_49, i181_52, i181_54, i181_56, i181_57, i181_58, i181_60, i181_62, i181_63, i181_66, i181_67, i181_68, i181_71, i181_73, i181_75, i181_76, i181_77, i181_78, i181_81, i181_82, i181_84, i181_85, i181_88, i181_90, i181_92, i181_93, i181_94, i181_97, i181_100, i181_103, i181_104, i181_105, i181_108, i181_110, i181_111, i181_112, i181_115, i181_116, i181_117, i181_118, i181_121, ix_pv_s, ix_pi_s, zpn, ix_po_s, ix_po_n, ix_ph_s, ix_bk_v, ix_bk_n, zcv, zcv_ne, ↓reduceIte, Nat.reduceEqDiff, zn_m1, zd_lt_p, zd_lt_n, zd_le_p, zd_le_n, zd_eq_p, zd_eq_n, zd_0_p, zd_0_n, zd_0lt_p, zd_0lt_n, zd_le0_p, zd_le0_n, zn_lt0, zn_le0, zn_add, zn_mul, zn_sub, zm_lt, zm_le, zm_eq, zb_1, zb_0, not_true_eq_false, not_false_eq_true, mo_c, mo_g0, mo_s0, mo_g1, mo_g2, mo_g3, mo_s3, mo_g4, mo_s4, mo_g5, mo_s5, mo_g6, mo_s6, mo_g7, mo_s7, mo_g8, mo_s8, mo_g9, mo_g10, mo_g11, mo_g12, mo_g13, mo_s13, mo_g14, mo_s14, mo_g15, mo_s15, mo_g16, mo_g17, mo_s17, mo_g18, mo_s18, mo_g19, mo_g20, mo_s20, mo_g21, mo_s21, mo_g22, mo_s22, mo_g23, mo_s23, ra_25, wa_25, al_25, ra_68, wa_68, al_68, ra_69, wa_69, al_69, ra_70, wa_70, al_70, ra_71, wa_71, al_71, ra_72, wa_72, al_72, ra_73, wa_73, al_73, ra_74, wa_74, al_74, ra_75, wa_75, al_75, e68, e3, g0, l0, g1, f68, a1, a2]
theorem agr_way {a b : Int32} : agr X (d + 8) τ S N C Q 93 181 [.int a, .int b] := by
  intro μ h
  have hO7 : rwO 7 := rfl
  have hT : tpO 64 := rfl
  have hb := QI_b h
  by_cases ha : inS a (N 1)
  · by_cases hin : nI 0 ≤ b ∧ b ≤ nI 2
    · obtain ⟨w, hw, rfl⟩ := ha
      obtain ⟨what, _, hwh, rfl⟩ := in_nat hin (by decide) (by decide)
      have hc := cl_walker (X := X) (d := d + 7) h hw
      obtain ⟨μ0, a0, q0, t0, f0⟩ := cl_startQ (X := X) (d := d + 5) (r := 64) rfl h hw
      obtain ⟨μ1, a1, q1⟩ := cl_wayL (X := X) (d := d + 2) (τ := τ) hw hwh (N 3) 0 (0, N 8, nI 0) μ0 none q0 t0 (by omega) (by simp) (by simp) (by simp)
      have hm := mo_walker (X := X) (d := d + 6) q1 (inS_p hw)
      have e68 := QI_68 q1
      obtain ⟨p0, p1, p2⟩ := QI_pc h hw
      obtain ⟨μ2, a2, q2, t2, _⟩ := mo_startQ (X := X) (d := d + 7) (l := 0) q1
      obtain ⟨μ3, a3, q3⟩ := mo_wayL (X := X) (d := d + 1) (τ := τ) hw hwh (N 3) 0 (0, N 8, nI 0) μ2 none q2 t2 (by omega) (by simp) (by simp) (by simp)
      refine ⟨_, μ1, μ3, Eq.trans ?_ a1, Eq.trans ?_ a3, q3⟩
      · simp (disch := first | assumption | omega | decide) only [e93, i93_0, i93_1, i93_4, i93_5, i93_8, i93_11, i93_12, i93_13, i93_14, i93_17, i93_20, i93_21, i93_22, i93_23, i93_24, i93_27, i93_28, i93_31, i93_32, i93_34, i93_35, i93_38, i93_41, i93_44, i93_45, i93_46, i93_49, i93_50, i93_51, i93_54, i93_57, i93_57n, i93_59, i93_59n, i93_61n, i93_61, i93_64, i93_65, i93_68, i93_68n, i93_70, i93_71, i93_74, i93_75, i93_76, i93_79, i93_82, i93_85, i93_88, i93_89, i93_92, i93_93, i93_94, i93_97, i93_100, i93_101, i93_102, i93_105, i93_106, i93_107, i93_110, ix_pv_s, ix_pi_s, zpn, ix_po_s, ix_po_n, ix_ph_s, ix_bk_v, ix_bk_n, zcv, zcv_ne, ↓reduceIte, Nat.reduceEqDiff, zn_m1, zd_lt_p, zd_lt_n, zd_le_p, zd_le_n, zd_eq_p, zd_eq_n, zd_0_p, zd_0_n, zd_0lt_p, zd_0lt_n, zd_le0_p, zd_le0_n, zn_lt0, zn_le0, zn_add, zn_mul, zn_sub, zm_lt, zm_le, zm_eq, zb_1, zb_0, not_true_eq_false, not_false_eq_true, t0_c, t0_g0, t0_g1, t0_g2, t0_g3, t0_g4, t0_g5, t0_g6, t0_g7, t0_g8, t0_g9, t0_g10, t0_s11, t0_g12, t0_s12, t0_g13, t0_g14, t0_g15, t0_g16, t0_c, rw_c, tp_c, hc, cl_within, hin, and_self, a0]
      · simp (disch := first | assumption | omega | decide) only [e181, i181_0, i181_1, i181_2, i181_5, i181_8, i181_9, i181_10, i181_11, i181_14, i181_17, i181_18, i181_19, i181_20, i181_23, i181_25, i181_26, i181_27, i181_28, i181_29, i181_30, i181_31, i181_34, i181_35, i181_39, i181_40, i181_43, i181_44, i181_45, i181_48, i181_49, i181_52, i181_54, i181_56, i181_57, i181_58, i181_60, i181_62, i181_63, i181_66, i181_67, i181_68, i181_71, i181_73, i181_75, i181_76, i181_77, i181_78, i181_81, i181_82, i181_84, i181_85, i181_88, i181_90, i181_92, i181_93, i181_94, i181_97, i181_100, i181_103, i181_104, i181_105, i181_108, i181_110, i181_111, i181_112, i181_115, i181_116, i181_117, i181_118, i181_121, ix_pv_s, ix_pi_s, zpn, ix_po_s, ix_po_n, ix_ph_s, ix_bk_v, ix_bk_n, zcv, zcv_ne, ↓reduceIte, Nat.reduceEqDiff, zn_m1, zd_lt_p, zd_lt_n, zd_le_p, zd_le_n, zd_eq_p, zd_eq_n, zd_0_p, zd_0_n, zd_0lt_p, zd_0lt_n, zd_le0_p, zd_le0_n, zn_lt0, zn_le0, zn_add, zn_mul, zn_sub, zm_lt, zm_le, zm_eq, zb_1, zb_0, not_true_eq_false, not_false_eq_true, mo_c, mo_g0, mo_s0, mo_g1, mo_g2, mo_g3, mo_s3, mo_g4, mo_s4, mo_g5, mo_s5, mo_g6, mo_s6, mo_g7, mo_s7, mo_g8, mo_s8, mo_g9, mo_g10, mo_g11, mo_g12, mo_g13, mo_s13, mo_g14, mo_s14, mo_g15, mo_s15, mo_g16, mo_g17, mo_s17, mo_g18, mo_s18, mo_g19, mo_g20, mo_s20, mo_g21, mo_s21, mo_g22, mo_s22, mo_g23, mo_s23, ra_25, wa_25, al_25, ra_68, wa_68, al_68, ra_69, wa_69, al_69, ra_70, wa_70, al_70, ra_71, wa_71, al_71, ra_72, wa_72, al_72, ra_73, wa_73, al_73, ra_74, wa_74, al_74, ra_75, wa_75, al_75, hm, mo_in, hin, and_self, e68, p0, a2]
    · have hm := mo_walker (X := X) (d := d + 6) h ha
      obtain ⟨w, hw, rfl⟩ := ha
      have hc := cl_walker (X := X) (d := d + 7) h hw
      refine ⟨-1, μ, μ, ?_, ?_, h⟩
      · simp (disch := first | assumption | omega | decide) only [e93, i93_0, i93_1, i93_4, i93_5, i93_8, i93_11, i93_12, i93_13, i93_14, i93_17, i93_20, i93_21, i93_22, i93_23, i93_24, i93_27, i93_28, i93_31, i93_32, i93_34, i93_35, i93_38, i93_41, i93_44, i93_45, i93_46, i93_49, i93_50, i93_51, i93_54, i93_57, i93_57n, i93_59, i93_59n, i93_61n, i93_61, i93_64, i93_65, i93_68, i93_68n, i93_70, i93_71, i93_74, i93_75, i93_76, i93_79, i93_82, i93_85, i93_88, i93_89, i93_92, i93_93, i93_94, i93_97, i93_100, i93_101, i93_102, i93_105, i93_106, i93_107, i93_110, ix_pv_s, ix_pi_s, zpn, ix_po_s, ix_po_n, ix_ph_s, ix_bk_v, ix_bk_n, zcv, zcv_ne, ↓reduceIte, Nat.reduceEqDiff, zn_m1, zd_lt_p, zd_lt_n, zd_le_p, zd_le_n, zd_eq_p, zd_eq_n, zd_0_p, zd_0_n, zd_0lt_p, zd_0lt_n, zd_le0_p, zd_le0_n, zn_lt0, zn_le0, zn_add, zn_mul, zn_sub, zm_lt, zm_le, zm_eq, zb_1, zb_0, not_true_eq_false, not_false_eq_true, t0_c, t0_g0, t0_g1, t0_g2, t0_g3, t0_g4, t0_g5, t0_g6, t0_g7, t0_g8, t0_g9, t0_g10, t0_s11, t0_g12, t0_s12, t0_g13, t0_g14, t0_g15, t0_g16, t0_c, rw_c, hc, cl_within, hin]
      · simp (disch := first | assumption | omega | decide) only [e181, i181_0, i181_1, i181_2, i181_5, i181_8, i181_9, i181_10, i181_11, i181_14, i181_17, i181_18, i181_19, i181_20, i181_23, i181_25, i181_26, i181_27, i181_28, i181_29, i181_30, i181_31, i181_34, i181_35, i181_39, i181_40, i181_43, i181_44, i181_45, i181_48, i181_49, i181_52, i181_54, i181_56, i181_57, i181_58, i181_60, i181_62, i181_63, i181_66, i181_67, i181_68, i181_71, i181_73, i181_75, i181_76, i181_77, i181_78, i181_81, i181_82, i181_84, i181_85, i181_88, i181_90, i181_92, i181_93, i181_94, i181_97, i181_100, i181_103, i181_104, i181_105, i181_108, i181_110, i181_111, i181_112, i181_115, i181_116, i181_117, i181_118, i181_121, ix_pv_s, ix_pi_s, zpn, ix_po_s, ix_po_n, ix_ph_s, ix_bk_v, ix_bk_n, zcv, zcv_ne, ↓reduceIte, Nat.reduceEqDiff, zn_m1, zd_lt_p, zd_lt_n, zd_le_p, zd_le_n, zd_eq_p, zd_eq_n, zd_0_p, zd_0_n, zd_0lt_p, zd_0lt_n, zd_le0_p, zd_le0_n, zn_lt0, zn_le0, zn_add, zn_mul, zn_sub, zm_lt, zm_le, zm_eq, zb_1, zb_0, not_true_eq_false, not_false_eq_true, mo_c, mo_g0, mo_s0, mo_g1, mo_g2, mo_g3, mo_s3, mo_g4, mo_s4, mo_g5, mo_s5, mo_g6, mo_s6, mo_g7, mo_s7, mo_g8, mo_s8, mo_g9, mo_g10, mo_g11, mo_g12, mo_g13, mo_s13, mo_g14, mo_s14, mo_g15, mo_s15, mo_g16, mo_g17, mo_s17, mo_g18, mo_s18, mo_g19, mo_g20, mo_s20, mo_g21, mo_s21, mo_g22, mo_s22, mo_g23, mo_s23, ra_25, wa_25, al_25, ra_68, wa_68, al_68, ra_69, wa_69, al_69, ra_70, wa_70, al_70, ra_71, wa_71, al_71, ra_72, wa_72, al_72, ra_73, wa_73, al_73, ra_74, wa_74, al_74, ra_75, wa_75, al_75, hm, mo_in, hin]
  · have hc := cl_walkerN (X := X) (d := d + 7) h ha
    have hm := mo_walkerN (X := X) (d := d + 6) h ha
    refine ⟨-1, μ, μ, ?_, ?_, h⟩
    · simp (disch := first | assumption | omega | decide) only [e93, i93_0, i93_1, i93_4, i93_5, i93_8, i93_11, i93_12, i93_13, i93_14, i93_17, i93_20, i93_21, i93_22, i93_23, i93_24, i93_27, i93_28, i93_31, i93_32, i93_34, i93_35, i93_38, i93_41, i93_44, i93_45, i93_46, i93_49, i93_50, i93_51, i93_54, i93_57, i93_57n, i93_59, i93_59n, i93_61n, i93_61, i93_64, i93_65, i93_68, i93_68n, i93_70, i93_71, i93_74, i93_75, i93_76, i93_79, i93_82, i93_85, i93_88, i93_89, i93_92, i93_93, i93_94, i93_97, i93_100, i93_101, i93_102, i93_105, i93_106, i93_107, i93_110, ix_pv_s, ix_pi_s, zpn, ix_po_s, ix_po_n, ix_ph_s, ix_bk_v, ix_bk_n, zcv, zcv_ne, ↓reduceIte, Nat.reduceEqDiff, zn_m1, zd_lt_p, zd_lt_n, zd_le_p, zd_le_n, zd_eq_p, zd_eq_n, zd_0_p, zd_0_n, zd_0lt_p, zd_0lt_n, zd_le0_p, zd_le0_n, zn_lt0, zn_le0, zn_add, zn_mul, zn_sub, zm_lt, zm_le, zm_eq, zb_1, zb_0, not_true_eq_false, not_false_eq_true, t0_c, t0_g0, t0_g1, t0_g2, t0_g3, t0_g4, t0_g5, t0_g6, t0_g7, t0_g8, t0_g9, t0_g10, t0_s11, t0_g12, t0_s12, t0_g13, t0_g14, t0_g15, t0_g16, t0_c, rw_c, hc]
    · simp (disch := first | assumption | omega | decide) only [e181, i181_0, i181_1, i181_2, i181_5, i181_8, i181_9, i181_10, i181_11, i181_14, i181_17, i181_18, i181_19, i181_20, i181_23, i181_25, i181_26, i181_27, i181_28, i181_29, i181_30, i181_31, i181_34, i181_35, i181_39, i181_40, i181_43, i181_44, i181_45, i181_48, i181_49, i181_52, i181_54, i181_56, i181_57, i181_58, i181_60, i181_62, i181_63, i181_66, i181_67, i181_68, i181_71, i181_73, i181_75, i181_76, i181_77, i181_78, i181_81, i181_82, i181_84, i181_85, i181_88, i181_90, i181_92, i181_93, i181_94, i181_97, i181_100, i181_103, i181_104, i181_105, i181_108, i181_110, i181_111, i181_112, i181_115, i181_116, i181_117, i181_118, i181_121, ix_pv_s, ix_pi_s, zpn, ix_po_s, ix_po_n, ix_ph_s, ix_bk_v, ix_bk_n, zcv, zcv_ne, ↓reduceIte, Nat.reduceEqDiff, zn_m1, zd_lt_p, zd_lt_n, zd_le_p, zd_le_n, zd_eq_p, zd_eq_n, zd_0_p, zd_0_n, zd_0lt_p, zd_0lt_n, zd_le0_p, zd_le0_n, zn_lt0, zn_le0, zn_add, zn_mul, zn_sub, zm_lt, zm_le, zm_eq, zb_1, zb_0, not_true_eq_false, not_false_eq_true, mo_c, mo_g0, mo_s0, mo_g1, mo_g2, mo_g3, mo_s3, mo_g4, mo_s4, mo_g5, mo_s5, mo_g6, mo_s6, mo_g7, mo_s7, mo_g8, mo_s8, mo_g9, mo_g10, mo_g11, mo_g12, mo_g13, mo_s13, mo_g14, mo_s14, mo_g15, mo_s15, mo_g16, mo_g17, mo_s17, mo_g18, mo_s18, mo_g19, mo_g20, mo_s20, mo_g21, mo_s21, mo_g22, mo_s22, mo_g23, mo_s23, ra_25, wa_25, al_25, ra_68, wa_68, al_68, ra_69, wa_69, al_69, ra_70, wa_70, al_70, ra_71, wa_71, al_71, ra_72, wa_72, al_72, ra_73, wa_73, al_73, ra_74, wa_74, al_74, ra_75, wa_75, al_75, hm]
theorem cl_rulL {n : Int32} {pace : Nat} (ht : t < N 0) : ∀ (k j : Nat) (s : wyT) (μ : fm_M) (x4 : Option Value), QI μ τ S N C Q → trw μ 64 pace s → j + k = 20 → s.2.1 + k ≤ 1590 → ∃ μ' : fm_M, ix_sem X (d + 5) 122 32 [some (.ref 0), some (.ref (Q t)), some (.int n), some (.int (nI j)), x4] [] (fm_W μ τ) = some (none, fm_W μ' τ) ∧ QI μ' τ S N C Q ∧ trw μ' 64 pace (rulW S (csN N C) t n k s)
  | 0, j, s, μ, x4, h, hw, e, h3 => by
    refine ⟨μ, ?_, h, hw⟩
    simp (disch := first | assumption | omega | decide) only [i122_0, i122_0n, i122_1, i122_2, i122_5, i122_8, i122_11, i122_12, i122_15, i122_16, i122_17, i122_20, i122_20n, i122_21, i122_24, i122_27, i122_30, i122_31, i122_32, i122_33, i122_35, i122_38, i122_38n, i122_39, i122_40, i122_43, i122_46, i122_49, i122_51, i122_53, i122_54, i122_57, i122_58, i122_59, i122_62, i122_64, i122_67, i122_70, i122_73, ix_pv_s, ix_pi_s, zpn, ix_po_s, ix_po_n, ix_ph_s, ix_bk_v, ix_bk_n, zcv, zcv_ne, ↓reduceIte, Nat.reduceEqDiff, zn_m1, zd_lt_p, zd_lt_n, zd_le_p, zd_le_n, zd_eq_p, zd_eq_n, zd_0_p, zd_0_n, zd_0lt_p, zd_0lt_n, zd_le0_p, zd_le0_n, zn_lt0, zn_le0, zn_add, zn_mul, zn_sub, zm_lt, zm_le, zm_eq, zb_1, zb_0, not_true_eq_false, not_false_eq_true, t0_c, t0_g0, t0_g1, t0_g2, t0_g3, t0_g4, t0_g5, t0_g6, t0_g7, t0_g8, t0_g9, t0_g10, t0_s11, t0_g12, t0_s12, t0_g13, t0_g14, t0_g15, t0_g16, t0_c, rw_c]
  | k + 1, j, s, μ, x4, h, hw, e, h3 => by
    have hT : tpO 64 := rfl
    have g3 : μ 64 3 = nI s.2.1 := hw.2.2.1
    obtain ⟨μ1, a1, q1, c1⟩ := cl_under (X := X) (d := d) (m := s.2.1) h ht (by omega)
    have hw1 : trw μ1 64 pace s := tri_row hw (tp_row rfl c1)
    by_cases hq : uS S (csN N C) t s.2.1 < n
    · obtain ⟨μ2, a2, q2, t2, f2⟩ := cl_endQ (X := X) (d := d + 4) (r := 64) (t := t) rfl q1 hw1
      obtain ⟨μ3, a3, q3, t3⟩ := cl_rulL (n := n) ht k (j + 1) _ μ2 (some (.int (uS S (csN N C) t s.2.1))) q2 t2 (by omega) (by simp only [wwt]; omega)
      refine ⟨μ3, ?_, q3, by rw [rulW, if_pos hq]; exact t3⟩
      rw [← a3, i122_32]
      simp (disch := first | assumption | omega | decide) only [i122_0, i122_0n, i122_1, i122_2, i122_5, i122_8, i122_11, i122_12, i122_15, i122_16, i122_17, i122_20, i122_20n, i122_21, i122_24, i122_27, i122_30, i122_31, i122_33, i122_35, i122_38, i122_38n, i122_39, i122_40, i122_43, i122_46, i122_49, i122_51, i122_53, i122_54, i122_57, i122_58, i122_59, i122_62, i122_64, i122_67, i122_70, i122_73, ix_pv_s, ix_pi_s, zpn, ix_po_s, ix_po_n, ix_ph_s, ix_bk_v, ix_bk_n, zcv, zcv_ne, ↓reduceIte, Nat.reduceEqDiff, zn_m1, zd_lt_p, zd_lt_n, zd_le_p, zd_le_n, zd_eq_p, zd_eq_n, zd_0_p, zd_0_n, zd_0lt_p, zd_0lt_n, zd_le0_p, zd_le0_n, zn_lt0, zn_le0, zn_add, zn_mul, zn_sub, zm_lt, zm_le, zm_eq, zb_1, zb_0, not_true_eq_false, not_false_eq_true, t0_c, t0_g0, t0_g1, t0_g2, t0_g3, t0_g4, t0_g5, t0_g6, t0_g7, t0_g8, t0_g9, t0_g10, t0_s11, t0_g12, t0_s12, t0_g13, t0_g14, t0_g15, t0_g16, t0_c, rw_c, tp_c, tp_g0, tp_g1, tp_s1, tp_g2, tp_s2, tp_g3, tp_s3, tp_g4, tp_s4, g3, a1, hq, a2]
    · refine ⟨μ1, ?_, q1, by rw [rulW, if_neg hq]; exact hw1⟩
      rw [i122_32]
      simp (disch := first | assumption | omega | decide) only [i122_0, i122_0n, i122_1, i122_2, i122_5, i122_8, i122_11, i122_12, i122_15, i122_16, i122_17, i122_20, i122_20n, i122_21, i122_24, i122_27, i122_30, i122_31, i122_33, i122_35, i122_38, i122_38n, i122_39, i122_40, i122_43, i122_46, i122_49, i122_51, i122_53, i122_54, i122_57, i122_58, i122_59, i122_62, i122_64, i122_67, i122_70, i122_73, ix_pv_s, ix_pi_s, zpn, ix_po_s, ix_po_n, ix_ph_s, ix_bk_v, ix_bk_n, zcv, zcv_ne, ↓reduceIte, Nat.reduceEqDiff, zn_m1, zd_lt_p, zd_lt_n, zd_le_p, zd_le_n, zd_eq_p, zd_eq_n, zd_0_p, zd_0_n, zd_0lt_p, zd_0lt_n, zd_le0_p, zd_le0_n, zn_lt0, zn_le0, zn_add, zn_mul, zn_sub, zm_lt, zm_le, zm_eq, zb_1, zb_0, not_true_eq_false, not_false_eq_true, t0_c, t0_g0, t0_g1, t0_g2, t0_g3, t0_g4, t0_g5, t0_g6, t0_g7, t0_g8, t0_g9, t0_g10, t0_s11, t0_g12, t0_s12, t0_g13, t0_g14, t0_g15, t0_g16, t0_c, rw_c, tp_c, tp_g0, tp_g1, tp_s1, tp_g2, tp_s2, tp_g3, tp_s3, tp_g4, tp_s4, g3, a1, hq]
theorem cl_follow {n : Int32} {pace : Nat} {s : wyT} (h : QI μ τ S N C Q) (ht : t < N 0) (hw : trw μ 64 pace s) (p1 : 1 ≤ pace) (p2 : pace ≤ 20) (h1 : s.1 ≤ 99) (h3 : s.2.1 ≤ 1450) : ∃ μ' : fm_M, ix_call X (d + 5) 122 [.ref 0, .ref (Q t), .int n] (fm_W μ τ) = some (none, fm_W μ' τ) ∧ QI μ' τ S N C Q ∧ trw μ' 64 pace (folW S (csN N C) pace t n s) := by
  have hT : tpO 64 := rfl
  have g3 : μ 64 3 = nI s.2.1 := hw.2.2.1
  obtain ⟨μ1, a1, q1, c1⟩ := cl_under (X := X) (d := d) (m := s.2.1) h ht (by omega)
  have hw1 : trw μ1 64 pace s := tri_row hw (tp_row rfl c1)
  by_cases hq : uS S (csN N C) t s.2.1 < n
  · obtain ⟨l0, l1⟩ := QI_pl h ht
    obtain ⟨c, rest, hO⟩ := QI_trO h ht
    have hcc := hO.2.2
    obtain ⟨s1, s2, s3, s4⟩ := sp_num q1.2.2.1 ht
    obtain ⟨t1, t2, _, t4⟩ := QI_tree q1 ht
    rw [l0] at t4
    have gl := wgo_le (S := S) (cs := csN N C) (pace := pace) (to := nS S (29 + t)) (s := s) p1 h1 l1
    obtain ⟨μ2, a2, q2, t2, f2⟩ := cl_walkQ (X := X) (d := d + 2) (r := 64) (to := nS S (29 + t)) rfl q1 hw1 p1 p2 h1 l1 (by omega)
    obtain ⟨μ3, a3, q3, t3⟩ := cl_rulL (X := X) (d := d) (n := n) ht 20 0 _ μ2 none q2 t2 rfl (by omega)
    refine ⟨μ3, Eq.trans ?_ a3, q3, by rw [folW, if_pos hq]; exact t3⟩
    simp (disch := first | assumption | omega | decide) only [e122, i122_0, i122_0n, i122_1, i122_2, i122_5, i122_8, i122_11, i122_12, i122_15, i122_16, i122_17, i122_20, i122_20n, i122_21, i122_24, i122_27, i122_30, i122_31, i122_33, i122_35, i122_38, i122_38n, i122_39, i122_40, i122_43, i122_46, i122_49, i122_51, i122_53, i122_54, i122_57, i122_58, i122_59, i122_62, i122_64, i122_67, i122_70, i122_73, ix_pv_s, ix_pi_s, zpn, ix_po_s, ix_po_n, ix_ph_s, ix_bk_v, ix_bk_n, zcv, zcv_ne, ↓reduceIte, Nat.reduceEqDiff, zn_m1, zd_lt_p, zd_lt_n, zd_le_p, zd_le_n, zd_eq_p, zd_eq_n, zd_0_p, zd_0_n, zd_0lt_p, zd_0lt_n, zd_le0_p, zd_le0_n, zn_lt0, zn_le0, zn_add, zn_mul, zn_sub, zm_lt, zm_le, zm_eq, zb_1, zb_0, not_true_eq_false, not_false_eq_true, t0_c, t0_g0, t0_g1, t0_g2, t0_g3, t0_g4, t0_g5, t0_g6, t0_g7, t0_g8, t0_g9, t0_g10, t0_s11, t0_g12, t0_s12, t0_g13, t0_g14, t0_g15, t0_g16, t0_c, rw_c, tp_c, tp_g0, tp_g1, tp_s1, tp_g2, tp_s2, tp_g3, tp_s3, tp_g4, tp_s4, g3, a1, hq, tr_g0 hO, sp_g6, t4, a2]
  · refine ⟨μ1, ?_, q1, by rw [folW, if_neg hq]; exact hw1⟩
    simp (disch := first | assumption | omega | decide) only [e122, i122_0, i122_0n, i122_1, i122_2, i122_5, i122_8, i122_11, i122_12, i122_15, i122_16, i122_17, i122_20, i122_20n, i122_21, i122_24, i122_27, i122_30, i122_31, i122_33, i122_35, i122_38, i122_38n, i122_39, i122_40, i122_43, i122_46, i122_49, i122_51, i122_53, i122_54, i122_57, i122_58, i122_59, i122_62, i122_64, i122_67, i122_70, i122_73, ix_pv_s, ix_pi_s, zpn, ix_po_s, ix_po_n, ix_ph_s, ix_bk_v, ix_bk_n, zcv, zcv_ne, ↓reduceIte, Nat.reduceEqDiff, zn_m1, zd_lt_p, zd_lt_n, zd_le_p, zd_le_n, zd_eq_p, zd_eq_n, zd_0_p, zd_0_n, zd_0lt_p, zd_0lt_n, zd_le0_p, zd_le0_n, zn_lt0, zn_le0, zn_add, zn_mul, zn_sub, zm_lt, zm_le, zm_eq, zb_1, zb_0, not_true_eq_false, not_false_eq_true, t0_c, t0_g0, t0_g1, t0_g2, t0_g3, t0_g4, t0_g5, t0_g6, t0_g7, t0_g8, t0_g9, t0_g10, t0_s11, t0_g12, t0_s12, t0_g13, t0_g14, t0_g15, t0_g16, t0_c, rw_c, tp_c, tp_g0, tp_g1, tp_s1, tp_g2, tp_s2, tp_g3, tp_s3, tp_g4, tp_s4, g3, a1, hq]
theorem folW_le {cs : List Nat} {pace t : Nat} {n : Int32} {s : wyT} (p1 : 1 ≤ pace) (h1 : s.1 ≤ 99) (l1 : nS S (29 + t) ≤ 99) : (folW S cs pace t n s).1 ≤ 99 ∧ s.2.1 ≤ (folW S cs pace t n s).2.1 ∧ (folW S cs pace t n s).2.1 ≤ s.2.1 + 119 := by
  unfold folW
  have gl := wgo_le (S := S) (cs := cs) (pace := pace) (to := nS S (29 + t)) (s := s) p1 h1 l1
  split
  · have := rulW_le (S := S) (cs := cs) (t := t) (n := n) 20 (wgo S cs pace (nS S (29 + t)) s)
    omega
  · omega
theorem cl_rulsL {w what : Nat} (hw : w < N 1) (hwh : what ≤ 2) : ∀ (k i : Nat) (s : wyT) (μ : fm_M) (x4 : Option Value), QI μ τ S N C Q → trw μ 64 (nS S (59 + w)) s → i + k = N 4 → s.1 ≤ 99 → N 8 ≤ s.2.1 → s.2.1 ≤ N 8 + 119 * i → ∃ μ' : fm_M, ix_sem X (d + 6) 121 33 [some (.ref 0), some (.int (nI w)), some (.int (nI what)), some (.int (nI i)), x4] [] (fm_W μ τ) = some (some (.int (homT S N (csN N C) what w (rulsW S (csN N C) (nS S (59 + w)) k i s))), fm_W μ' τ) ∧ QI μ' τ S N C Q
  | 0, i, s, μ, x4, h, ht, e, h1, h2, h3 => by
    have hb := QI_b h
    have hO : rwO 13 := rfl
    have hT : tpO 64 := rfl
    have hz : μ 13 4 = nI (N 4) := h.2.1.1.2.2.2.2.1.1.2.2.trans (QI_S h (by decide) (by decide))
    obtain ⟨μ', a1, a2, a3, q⟩ := cl_endW (X := X) (d := d + 3) h hw hwh ht h1 h2 (by omega)
    refine ⟨μ', ?_, q⟩
    simp (disch := first | assumption | omega | decide) only [i121_0, i121_1, i121_4, i121_5, i121_8, i121_11, i121_12, i121_13, i121_14, i121_17, i121_20, i121_21, i121_22, i121_23, i121_24, i121_27, i121_28, i121_31, i121_32, i121_33, i121_34, i121_35, i121_38, i121_41, i121_44, i121_45, i121_46, i121_49, i121_50, i121_51, i121_54, i121_57, i121_57n, i121_59, i121_59n, i121_61n, i121_61, i121_64, i121_65, i121_65n, i121_67, i121_68, i121_71, i121_72, i121_73, i121_76, i121_79, i121_82, i121_85, i121_86, i121_89, i121_90, i121_91, i121_94, i121_97, i121_98, i121_99, i121_102, i121_103, i121_104, i121_107, ix_pv_s, ix_pi_s, zpn, ix_po_s, ix_po_n, ix_ph_s, ix_bk_v, ix_bk_n, zcv, zcv_ne, ↓reduceIte, Nat.reduceEqDiff, zn_m1, zd_lt_p, zd_lt_n, zd_le_p, zd_le_n, zd_eq_p, zd_eq_n, zd_0_p, zd_0_n, zd_0lt_p, zd_0lt_n, zd_le0_p, zd_le0_n, zn_lt0, zn_le0, zn_add, zn_mul, zn_sub, zm_lt, zm_le, zm_eq, zb_1, zb_0, not_true_eq_false, not_false_eq_true, t0_c, t0_g0, t0_g1, t0_g2, t0_g3, t0_g4, t0_g5, t0_g6, t0_g7, t0_g8, t0_g9, t0_g10, t0_s11, t0_g12, t0_s12, t0_g13, t0_g14, t0_g15, t0_g16, t0_c, rw_c, rw_g4, hz, tp_c, a1, a2, a3, rulsW]
  | k + 1, i, s, μ, x4, h, ht, e, h1, h2, h3 => by
    have hb := QI_b h
    have hi : i < N 4 := by omega
    have hA : rwA 13 8 := ⟨rfl, rfl, rfl⟩
    have hO : rwO 13 := rfl
    obtain ⟨⟨w0, w1, w2⟩, wc⟩ := h.2.1.1.2.2.2.2.1
    have hz : μ 13 4 = nI (N 4) := w2.trans (QI_S h (by decide) (by decide))
    obtain ⟨c1, c2⟩ := wc i hi
    obtain ⟨g0, gt, g1, g2⟩ := QI_rul h hi
    obtain ⟨p0, p1, p2⟩ := QI_pc h hw
    have k0 := rw_cell (X := X) (d := d + 5) (τ := τ) (i := i) (c := 0) hA w1 hz hi (by decide) (by omega) (by decide) (by omega) (by decide)
    have k1 := rw_cell (X := X) (d := d + 5) (τ := τ) (i := i) (c := 1) hA w1 hz hi (by decide) (by omega) (by decide) (by omega) (by decide)
    rw [show μ (13 + 1) (i * 2 + 0) = nI (nS S (77 + i)) from c1.trans g0] at k0
    rw [show μ (13 + 1) (i * 2 + 1) = S (81 + i) from c2] at k1
    have hc := cl_tree (X := X) (d := d + 3) h gt
    obtain ⟨l0, l1⟩ := QI_pl h gt
    obtain ⟨μ1, a1, q1, t1⟩ := cl_follow (X := X) (d := d) (n := S (81 + i)) h gt ht p1 p2 h1 (by omega)
    have fl := folW_le (S := S) (cs := csN N C) (n := S (81 + i)) p1 h1 l1
    obtain ⟨μ3, a3, q3⟩ := cl_rulsL hw hwh k (i + 1) _ μ1 (some (.ref (Q (nS S (77 + i))))) q1 t1 (by omega) fl.1 (by omega) (by omega)
    refine ⟨μ3, ?_, q3⟩
    rw [rulsW, ← a3, i121_33]
    simp (disch := first | assumption | omega | decide) only [i121_0, i121_1, i121_4, i121_5, i121_8, i121_11, i121_12, i121_13, i121_14, i121_17, i121_20, i121_21, i121_22, i121_23, i121_24, i121_27, i121_28, i121_31, i121_32, i121_34, i121_35, i121_38, i121_41, i121_44, i121_45, i121_46, i121_49, i121_50, i121_51, i121_54, i121_57, i121_57n, i121_59, i121_59n, i121_61n, i121_61, i121_64, i121_65, i121_65n, i121_67, i121_68, i121_71, i121_72, i121_73, i121_76, i121_79, i121_82, i121_85, i121_86, i121_89, i121_90, i121_91, i121_94, i121_97, i121_98, i121_99, i121_102, i121_103, i121_104, i121_107, ix_pv_s, ix_pi_s, zpn, ix_po_s, ix_po_n, ix_ph_s, ix_bk_v, ix_bk_n, zcv, zcv_ne, ↓reduceIte, Nat.reduceEqDiff, zn_m1, zd_lt_p, zd_lt_n, zd_le_p, zd_le_n, zd_eq_p, zd_eq_n, zd_0_p, zd_0_n, zd_0lt_p, zd_0lt_n, zd_le0_p, zd_le0_n, zn_lt0, zn_le0, zn_add, zn_mul, zn_sub, zm_lt, zm_le, zm_eq, zb_1, zb_0, not_true_eq_false, not_false_eq_true, t0_c, t0_g0, t0_g1, t0_g2, t0_g3, t0_g4, t0_g5, t0_g6, t0_g7, t0_g8, t0_g9, t0_g10, t0_s11, t0_g12, t0_s12, t0_g13, t0_g14, t0_g15, t0_g16, t0_c, rw_c, rw_g4, hz, k0, k1, hc, a1]
theorem mo_rulL {n : Int32} {w what i : Nat} (ht : t < N 0) : ∀ (k j : Nat) (s : wyT) (μ : fm_M), QI μ τ S N C Q → mtw μ s → j + k = 20 → s.2.1 + k ≤ 1490 → ∃ (x6 : Option Value) (μ' : fm_M), ix_sem X (d + 7) 207 99 [some (.ref 67), some (.int (nI w)), some (.int (nI what)), some (.int (nI i)), some (.int (nI t)), some (.int n), some (.int (nI j))] [] (fm_W μ τ) = ix_sem X (d + 7) 207 134 [some (.ref 67), some (.int (nI w)), some (.int (nI what)), some (.int (nI i)), some (.int (nI t)), some (.int n), x6] [] (fm_W μ' τ) ∧ QI μ' τ S N C Q ∧ mtw μ' (rulW S (csN N C) t n k s)
  | 0, j, s, μ, h, hw, e, h3 => by
    refine ⟨some (.int (nI j)), μ, ?_, h, hw⟩
    simp (disch := first | assumption | omega | decide) only [i207_0, i207_1, i207_2, i207_5, i207_8, i207_9, i207_10, i207_11, i207_14, i207_17, i207_18, i207_19, i207_20, i207_21, i207_24, i207_25, i207_26, i207_27, i207_28, i207_31, i207_32, i207_33, i207_36, i207_37, i207_40, i207_42, i207_43, i207_44, i207_45, i207_47, i207_48, i207_51, i207_53, i207_54, i207_55, i207_56, i207_58, i207_59, i207_61, i207_62, i207_65, i207_68, i207_70, i207_73, i207_74, i207_75, i207_78, i207_80, i207_82, i207_83, i207_84, i207_85, i207_88, i207_90, i207_91, i207_92, i207_93, i207_96, i207_97, i207_99, i207_101, i207_103, i207_106, i207_107, i207_109, i207_110, i207_113, i207_116, i207_118, i207_121, i207_122, i207_124, i207_125, i207_128, i207_131, i207_137, i207_140, i207_141, i207_142, i207_145, i207_147, i207_148, i207_149, i207_152, i207_154, i207_155, i207_156, i207_157, i207_160, i207_161, i207_162, i207_163, i207_166, ix_pv_s, ix_pi_s, zpn, ix_po_s, ix_po_n, ix_ph_s, ix_bk_v, ix_bk_n, zcv, zcv_ne, ↓reduceIte, Nat.reduceEqDiff, zn_m1, zd_lt_p, zd_lt_n, zd_le_p, zd_le_n, zd_eq_p, zd_eq_n, zd_0_p, zd_0_n, zd_0lt_p, zd_0lt_n, zd_le0_p, zd_le0_n, zn_lt0, zn_le0, zn_add, zn_mul, zn_sub, zm_lt, zm_le, zm_eq, zb_1, zb_0, not_true_eq_false, not_false_eq_true, mo_c, mo_g0, mo_s0, mo_g1, mo_g2, mo_g3, mo_s3, mo_g4, mo_s4, mo_g5, mo_s5, mo_g6, mo_s6, mo_g7, mo_s7, mo_g8, mo_s8, mo_g9, mo_g10, mo_g11, mo_g12, mo_g13, mo_s13, mo_g14, mo_s14, mo_g15, mo_s15, mo_g16, mo_g17, mo_s17, mo_g18, mo_s18, mo_g19, mo_g20, mo_s20, mo_g21, mo_s21, mo_g22, mo_s22, mo_g23, mo_s23, ra_25, wa_25, al_25, ra_68, wa_68, al_68, ra_69, wa_69, al_69, ra_70, wa_70, al_70, ra_71, wa_71, al_71, ra_72, wa_72, al_72, ra_73, wa_73, al_73, ra_74, wa_74, al_74, ra_75, wa_75, al_75]
  | k + 1, j, s, μ, h, hw, e, h3 => by
    have g3 : μ 67 14 = nI s.2.1 := hw.2.1
    obtain ⟨μ1, a1, q1, c1⟩ := mo_underQ (X := X) (d := d + 1) (m := s.2.1) h ht (by omega)
    have r1 : μ1 67 = μ 67 := c1 67 (by decide) (by decide) (by decide) (by decide)
    have hw1 : mtw μ1 s := by unfold mtw mtr; rw [r1]; exact hw
    by_cases hq : uS S (csN N C) t s.2.1 < n
    · have hq' : ¬ n ≤ uS S (csN N C) t s.2.1 := Int32.not_le.mpr hq
      obtain ⟨μ2, a2, q2, t2, f2⟩ := mo_waitQ (X := X) (d := d) (k := 1) q1 ht hw1 (by decide) (by omega)
      obtain ⟨x6, μ3, a3, q3, t3⟩ := mo_rulL (n := n) (w := w) (what := what) (i := i) ht k (j + 1) _ μ2 q2 t2 (by omega) (by simp only [wwt]; omega)
      refine ⟨x6, μ3, ?_, q3, by rw [rulW, if_pos hq]; exact t3⟩
      rw [← a3, i207_99]
      simp (disch := first | assumption | omega | decide) only [i207_0, i207_1, i207_2, i207_5, i207_8, i207_9, i207_10, i207_11, i207_14, i207_17, i207_18, i207_19, i207_20, i207_21, i207_24, i207_25, i207_26, i207_27, i207_28, i207_31, i207_32, i207_33, i207_36, i207_37, i207_40, i207_42, i207_43, i207_44, i207_45, i207_47, i207_48, i207_51, i207_53, i207_54, i207_55, i207_56, i207_58, i207_59, i207_61, i207_62, i207_65, i207_68, i207_70, i207_73, i207_74, i207_75, i207_78, i207_80, i207_82, i207_83, i207_84, i207_85, i207_88, i207_90, i207_91, i207_92, i207_93, i207_96, i207_97, i207_101, i207_103, i207_106, i207_107, i207_109, i207_110, i207_113, i207_116, i207_118, i207_121, i207_122, i207_124, i207_125, i207_128, i207_131, i207_137, i207_140, i207_141, i207_142, i207_145, i207_147, i207_148, i207_149, i207_152, i207_154, i207_155, i207_156, i207_157, i207_160, i207_161, i207_162, i207_163, i207_166, ix_pv_s, ix_pi_s, zpn, ix_po_s, ix_po_n, ix_ph_s, ix_bk_v, ix_bk_n, zcv, zcv_ne, ↓reduceIte, Nat.reduceEqDiff, zn_m1, zd_lt_p, zd_lt_n, zd_le_p, zd_le_n, zd_eq_p, zd_eq_n, zd_0_p, zd_0_n, zd_0lt_p, zd_0lt_n, zd_le0_p, zd_le0_n, zn_lt0, zn_le0, zn_add, zn_mul, zn_sub, zm_lt, zm_le, zm_eq, zb_1, zb_0, not_true_eq_false, not_false_eq_true, mo_c, mo_g0, mo_s0, mo_g1, mo_g2, mo_g3, mo_s3, mo_g4, mo_s4, mo_g5, mo_s5, mo_g6, mo_s6, mo_g7, mo_s7, mo_g8, mo_s8, mo_g9, mo_g10, mo_g11, mo_g12, mo_g13, mo_s13, mo_g14, mo_s14, mo_g15, mo_s15, mo_g16, mo_g17, mo_s17, mo_g18, mo_s18, mo_g19, mo_g20, mo_s20, mo_g21, mo_s21, mo_g22, mo_s22, mo_g23, mo_s23, ra_25, wa_25, al_25, ra_68, wa_68, al_68, ra_69, wa_69, al_69, ra_70, wa_70, al_70, ra_71, wa_71, al_71, ra_72, wa_72, al_72, ra_73, wa_73, al_73, ra_74, wa_74, al_74, ra_75, wa_75, al_75, g3, a1, hq', a2]
    · have hq' : n ≤ uS S (csN N C) t s.2.1 := Int32.not_lt.mp hq
      refine ⟨some (.int (nI j)), μ1, ?_, q1, by rw [rulW, if_neg hq]; exact hw1⟩
      rw [i207_99]
      simp (disch := first | assumption | omega | decide) only [i207_0, i207_1, i207_2, i207_5, i207_8, i207_9, i207_10, i207_11, i207_14, i207_17, i207_18, i207_19, i207_20, i207_21, i207_24, i207_25, i207_26, i207_27, i207_28, i207_31, i207_32, i207_33, i207_36, i207_37, i207_40, i207_42, i207_43, i207_44, i207_45, i207_47, i207_48, i207_51, i207_53, i207_54, i207_55, i207_56, i207_58, i207_59, i207_61, i207_62, i207_65, i207_68, i207_70, i207_73, i207_74, i207_75, i207_78, i207_80, i207_82, i207_83, i207_84, i207_85, i207_88, i207_90, i207_91, i207_92, i207_93, i207_96, i207_97, i207_101, i207_103, i207_106, i207_107, i207_109, i207_110, i207_113, i207_116, i207_118, i207_121, i207_122, i207_124, i207_125, i207_128, i207_131, i207_137, i207_140, i207_141, i207_142, i207_145, i207_147, i207_148, i207_149, i207_152, i207_154, i207_155, i207_156, i207_157, i207_160, i207_161, i207_162, i207_163, i207_166, ix_pv_s, ix_pi_s, zpn, ix_po_s, ix_po_n, ix_ph_s, ix_bk_v, ix_bk_n, zcv, zcv_ne, ↓reduceIte, Nat.reduceEqDiff, zn_m1, zd_lt_p, zd_lt_n, zd_le_p, zd_le_n, zd_eq_p, zd_eq_n, zd_0_p, zd_0_n, zd_0lt_p, zd_0lt_n, zd_le0_p, zd_le0_n, zn_lt0, zn_le0, zn_add, zn_mul, zn_sub, zm_lt, zm_le, zm_eq, zb_1, zb_0, not_true_eq_false, not_false_eq_true, mo_c, mo_g0, mo_s0, mo_g1, mo_g2, mo_g3, mo_s3, mo_g4, mo_s4, mo_g5, mo_s5, mo_g6, mo_s6, mo_g7, mo_s7, mo_g8, mo_s8, mo_g9, mo_g10, mo_g11, mo_g12, mo_g13, mo_s13, mo_g14, mo_s14, mo_g15, mo_s15, mo_g16, mo_g17, mo_s17, mo_g18, mo_s18, mo_g19, mo_g20, mo_s20, mo_g21, mo_s21, mo_g22, mo_s22, mo_g23, mo_s23, ra_25, wa_25, al_25, ra_68, wa_68, al_68, ra_69, wa_69, al_69, ra_70, wa_70, al_70, ra_71, wa_71, al_71, ra_72, wa_72, al_72, ra_73, wa_73, al_73, ra_74, wa_74, al_74, ra_75, wa_75, al_75, g3, a1, hq']
theorem mo_rulsL {w what : Nat} (hw : w < N 1) (hwh : what ≤ 2) : ∀ (k i : Nat) (s : wyT) (μ : fm_M) (x4 x5 x6 : Option Value), QI μ τ S N C Q → mtw μ s → i + k = N 4 → s.1 ≤ 99 → N 8 ≤ s.2.1 → s.2.1 ≤ N 8 + 119 * i → ∃ μ' : fm_M, ix_sem X (d + 7) 207 26 [some (.ref 67), some (.int (nI w)), some (.int (nI what)), some (.int (nI i)), x4, x5, x6] [] (fm_W μ τ) = some (some (.int (homT S N (csN N C) what w (rulsW S (csN N C) (nS S (59 + w)) k i s))), fm_W μ' τ) ∧ QI μ' τ S N C Q
  | 0, i, s, μ, x4, x5, x6, h, ht, e, h1, h2, h3 => by
    have hb := QI_b h
    have e68 := QI_68 h
    have e4 := QI_S h (k := 4) (by decide) (by decide)
    have e9 := QI_9 h
    obtain ⟨p0, p1, p2⟩ := QI_pc h hw
    obtain ⟨μ', a2, a3, q⟩ := mo_endW (X := X) (d := d + 3) h hw hwh ht h1 h2 (by omega)
    refine ⟨μ', ?_, q⟩
    simp (disch := first | assumption | omega | decide) only [i207_0, i207_1, i207_2, i207_5, i207_8, i207_9, i207_10, i207_11, i207_14, i207_17, i207_18, i207_19, i207_20, i207_21, i207_24, i207_25, i207_26, i207_27, i207_28, i207_31, i207_32, i207_33, i207_36, i207_37, i207_40, i207_42, i207_43, i207_44, i207_45, i207_47, i207_48, i207_51, i207_53, i207_54, i207_55, i207_56, i207_58, i207_59, i207_61, i207_62, i207_65, i207_68, i207_70, i207_73, i207_74, i207_75, i207_78, i207_80, i207_82, i207_83, i207_84, i207_85, i207_88, i207_90, i207_91, i207_92, i207_93, i207_96, i207_97, i207_99, i207_101, i207_103, i207_106, i207_107, i207_109, i207_110, i207_113, i207_116, i207_118, i207_121, i207_122, i207_124, i207_125, i207_128, i207_131, i207_134, i207_137, i207_140, i207_141, i207_142, i207_145, i207_147, i207_148, i207_149, i207_152, i207_154, i207_155, i207_156, i207_157, i207_160, i207_161, i207_162, i207_163, i207_166, ix_pv_s, ix_pi_s, zpn, ix_po_s, ix_po_n, ix_ph_s, ix_bk_v, ix_bk_n, zcv, zcv_ne, ↓reduceIte, Nat.reduceEqDiff, zn_m1, zd_lt_p, zd_lt_n, zd_le_p, zd_le_n, zd_eq_p, zd_eq_n, zd_0_p, zd_0_n, zd_0lt_p, zd_0lt_n, zd_le0_p, zd_le0_n, zn_lt0, zn_le0, zn_add, zn_mul, zn_sub, zm_lt, zm_le, zm_eq, zb_1, zb_0, not_true_eq_false, not_false_eq_true, mo_c, mo_g0, mo_s0, mo_g1, mo_g2, mo_g3, mo_s3, mo_g4, mo_s4, mo_g5, mo_s5, mo_g6, mo_s6, mo_g7, mo_s7, mo_g8, mo_s8, mo_g9, mo_g10, mo_g11, mo_g12, mo_g13, mo_s13, mo_g14, mo_s14, mo_g15, mo_s15, mo_g16, mo_g17, mo_s17, mo_g18, mo_s18, mo_g19, mo_g20, mo_s20, mo_g21, mo_s21, mo_g22, mo_s22, mo_g23, mo_s23, ra_25, wa_25, al_25, ra_68, wa_68, al_68, ra_69, wa_69, al_69, ra_70, wa_70, al_70, ra_71, wa_71, al_71, ra_72, wa_72, al_72, ra_73, wa_73, al_73, ra_74, wa_74, al_74, ra_75, wa_75, al_75, e68, e4, e9, p0, a2, a3, rulsW]
  | k + 1, i, s, μ, x4, x5, x6, h, ht, e, h1, h2, h3 => by
    have hb := QI_b h
    have hi : i < N 4 := by omega
    have e68 := QI_68 h
    have e4 := QI_S h (k := 4) (by decide) (by decide)
    obtain ⟨g0, gt, g1, g2⟩ := QI_rul h hi
    obtain ⟨p0, p1, p2⟩ := QI_pc h hw
    obtain ⟨l0, l1⟩ := QI_pl h gt
    have g3 : μ 67 14 = nI s.2.1 := ht.2.1
    obtain ⟨μ1, a1, q1, c1⟩ := mo_underQ (X := X) (d := d + 1) (m := s.2.1) h gt (by omega)
    have r1 : μ1 67 = μ 67 := c1 67 (by decide) (by decide) (by decide) (by decide)
    have hw1 : mtw μ1 s := by unfold mtw mtr; rw [r1]; exact ht
    have f68 := QI_68 q1
    have fl := folW_le (S := S) (cs := csN N C) (n := S (81 + i)) p1 h1 l1
    by_cases hq : uS S (csN N C) (nS S (77 + i)) s.2.1 < S (81 + i)
    · have hq' : ¬ S (81 + i) ≤ uS S (csN N C) (nS S (77 + i)) s.2.1 := Int32.not_le.mpr hq
      have gl := wgo_le (S := S) (cs := csN N C) (pace := nS S (59 + w)) (to := nS S (29 + nS S (77 + i))) (s := s) p1 h1 l1
      obtain ⟨μ2, a2, q2, t2, f2⟩ := mo_walkQ (X := X) (d := d + 3) (pace := nS S (59 + w)) (to := nS S (29 + nS S (77 + i))) q1 hw1 p1 p2 h1 l1 (by omega)
      obtain ⟨y6, μ3, a3, q3, t3⟩ := mo_rulL (X := X) (d := d) (n := S (81 + i)) (w := w) (what := what) (i := i) gt 20 0 _ μ2 q2 t2 rfl (by omega)
      have ef : folW S (csN N C) (nS S (59 + w)) (nS S (77 + i)) (S (81 + i)) s = rulW S (csN N C) (nS S (77 + i)) (S (81 + i)) 20 (wgo S (csN N C) (nS S (59 + w)) (nS S (29 + nS S (77 + i))) s) := by rw [folW, if_pos hq]
      rw [← ef] at t3
      obtain ⟨μ4, a4, q4⟩ := mo_rulsL hw hwh k (i + 1) _ μ3 (some (.int (nI (nS S (77 + i))))) (some (.int (S (81 + i)))) y6 q3 t3 (by omega) fl.1 (by omega) (by omega)
      refine ⟨μ4, ?_, q4⟩
      rw [rulsW, ← a4, i207_26]
      simp (disch := first | assumption | omega | decide) only [i207_0, i207_1, i207_2, i207_5, i207_8, i207_9, i207_10, i207_11, i207_14, i207_17, i207_18, i207_19, i207_20, i207_21, i207_24, i207_25, i207_27, i207_28, i207_31, i207_32, i207_33, i207_36, i207_37, i207_40, i207_42, i207_43, i207_44, i207_45, i207_47, i207_48, i207_51, i207_53, i207_54, i207_55, i207_56, i207_58, i207_59, i207_61, i207_62, i207_65, i207_68, i207_70, i207_73, i207_74, i207_75, i207_78, i207_80, i207_82, i207_83, i207_84, i207_85, i207_88, i207_90, i207_91, i207_92, i207_93, i207_96, i207_97, i207_101, i207_103, i207_106, i207_107, i207_109, i207_110, i207_113, i207_116, i207_118, i207_121, i207_122, i207_124, i207_125, i207_128, i207_131, i207_134, i207_137, i207_140, i207_141, i207_142, i207_145, i207_147, i207_148, i207_149, i207_152, i207_154, i207_155, i207_156, i207_157, i207_160, i207_161, i207_162, i207_163, i207_166, ix_pv_s, ix_pi_s, zpn, ix_po_s, ix_po_n, ix_ph_s, ix_bk_v, ix_bk_n, zcv, zcv_ne, ↓reduceIte, Nat.reduceEqDiff, zn_m1, zd_lt_p, zd_lt_n, zd_le_p, zd_le_n, zd_eq_p, zd_eq_n, zd_0_p, zd_0_n, zd_0lt_p, zd_0lt_n, zd_le0_p, zd_le0_n, zn_lt0, zn_le0, zn_add, zn_mul, zn_sub, zm_lt, zm_le, zm_eq, zb_1, zb_0, not_true_eq_false, not_false_eq_true, mo_c, mo_g0, mo_s0, mo_g1, mo_g2, mo_g3, mo_s3, mo_g4, mo_s4, mo_g5, mo_s5, mo_g6, mo_s6, mo_g7, mo_s7, mo_g8, mo_s8, mo_g9, mo_g10, mo_g11, mo_g12, mo_g13, mo_s13, mo_g14, mo_s14, mo_g15, mo_s15, mo_g16, mo_g17, mo_s17, mo_g18, mo_s18, mo_g19, mo_g20, mo_s20, mo_g21, mo_s21, mo_g22, mo_s22, mo_g23, mo_s23, ra_25, wa_25, al_25, ra_68, wa_68, al_68, ra_69, wa_69, al_69, ra_70, wa_70, al_70, ra_71, wa_71, al_71, ra_72, wa_72, al_72, ra_73, wa_73, al_73, ra_74, wa_74, al_74, ra_75, wa_75, al_75, e68, e4, g0, p0, l0, g3, a1, hq', f68, a2, a3]
    · have hq' : S (81 + i) ≤ uS S (csN N C) (nS S (77 + i)) s.2.1 := Int32.not_lt.mp hq
      have ef : folW S (csN N C) (nS S (59 + w)) (nS S (77 + i)) (S (81 + i)) s = s := by rw [folW, if_neg hq]
      obtain ⟨μ4, a4, q4⟩ := mo_rulsL hw hwh k (i + 1) s μ1 (some (.int (nI (nS S (77 + i))))) (some (.int (S (81 + i)))) x6 q1 hw1 (by omega) h1 (by omega) (by omega)
      refine ⟨μ4, ?_, q4⟩
      rw [rulsW, ef, ← a4, i207_26]
      simp (disch := first | assumption | omega | decide) only [i207_0, i207_1, i207_2, i207_5, i207_8, i207_9, i207_10, i207_11, i207_14, i207_17, i207_18, i207_19, i207_20, i207_21, i207_24, i207_25, i207_27, i207_28, i207_31, i207_32, i207_33, i207_36, i207_37, i207_40, i207_42, i207_43, i207_44, i207_45, i207_47, i207_48, i207_51, i207_53, i207_54, i207_55, i207_56, i207_58, i207_59, i207_61, i207_62, i207_65, i207_68, i207_70, i207_73, i207_74, i207_75, i207_78, i207_80, i207_82, i207_83, i207_84, i207_85, i207_88, i207_90, i207_91, i207_92, i207_93, i207_96, i207_97, i207_101, i207_103, i207_106, i207_107, i207_109, i207_110, i207_113, i207_116, i207_118, i207_121, i207_122, i207_124, i207_125, i207_128, i207_131, i207_134, i207_137, i207_140, i207_141, i207_142, i207_145, i207_147, i207_148, i207_149, i207_152, i207_154, i207_155, i207_156, i207_157, i207_160, i207_161, i207_162, i207_163, i207_166, ix_pv_s, ix_pi_s, zpn, ix_po_s, ix_po_n, ix_ph_s, ix_bk_v, ix_bk_n, zcv, zcv_ne, ↓reduceIte, Nat.reduceEqDiff, zn_m1, zd_lt_p, zd_lt_n, zd_le_p, zd_le_n, zd_eq_p, zd_eq_n, zd_0_p, zd_0_n, zd_0lt_p, zd_0lt_n, zd_le0_p, zd_le0_n, zn_lt0, zn_le0, zn_add, zn_mul, zn_sub, zm_lt, zm_le, zm_eq, zb_1, zb_0, not_true_eq_false, not_false_eq_true, mo_c, mo_g0, mo_s0, mo_g1, mo_g2, mo_g3, mo_s3, mo_g4, mo_s4, mo_g5, mo_s5, mo_g6, mo_s6, mo_g7, mo_s7, mo_g8, mo_s8, mo_g9, mo_g10, mo_g11, mo_g12, mo_g13, mo_s13, mo_g14, mo_s14, mo_g15, mo_s15, mo_g16, mo_g17, mo_s17, mo_g18, mo_s18, mo_g19, mo_g20, mo_s20, mo_g21, mo_s21, mo_g22, mo_s22, mo_g23, mo_s23, ra_25, wa_25, al_25, ra_68, wa_68, al_68, ra_69, wa_69, al_69, ra_70, wa_70, al_70, ra_71, wa_71, al_71, ra_72, wa_72, al_72, ra_73, wa_73, al_73, ra_74, wa_74, al_74, ra_75, wa_75, al_75, e68, e4, g0, g3, a1, hq']
theorem agr_ruled {a b : Int32} : agr X (d + 8) τ S N C Q 121 207 [.int a, .int b] := by
  intro μ h
  have hO7 : rwO 7 := rfl
  have hT : tpO 64 := rfl
  have hb := QI_b h
  by_cases ha : inS a (N 1)
  · by_cases hin : nI 0 ≤ b ∧ b ≤ nI 1
    · obtain ⟨w, hw, rfl⟩ := ha
      obtain ⟨what, _, hwh, rfl⟩ := in_nat hin (by decide) (by decide)
      have hc := cl_walker (X := X) (d := d + 7) h hw
      obtain ⟨μ0, a0, q0, t0, f0⟩ := cl_startQ (X := X) (d := d + 5) (r := 64) rfl h hw
      obtain ⟨μ1, a1, q1⟩ := cl_rulsL (X := X) (d := d + 2) (τ := τ) (what := what) hw (by omega) (N 4) 0 (0, N 8, nI 0) μ0 none q0 t0 (by omega) (by simp) (by simp) (by simp)
      have hm := mo_walker (X := X) (d := d + 6) q1 (inS_p hw)
      obtain ⟨μ2, a2, q2, t2, _⟩ := mo_startQ (X := X) (d := d + 7) (l := 0) q1
      obtain ⟨μ3, a3, q3⟩ := mo_rulsL (X := X) (d := d + 1) (τ := τ) (what := what) hw (by omega) (N 4) 0 (0, N 8, nI 0) μ2 none none none q2 t2 (by omega) (by simp) (by simp) (by simp)
      refine ⟨_, μ1, μ3, Eq.trans ?_ a1, Eq.trans ?_ a3, q3⟩
      · simp (disch := first | assumption | omega | decide) only [e121, i121_0, i121_1, i121_4, i121_5, i121_8, i121_11, i121_12, i121_13, i121_14, i121_17, i121_20, i121_21, i121_22, i121_23, i121_24, i121_27, i121_28, i121_31, i121_32, i121_34, i121_35, i121_38, i121_41, i121_44, i121_45, i121_46, i121_49, i121_50, i121_51, i121_54, i121_57, i121_57n, i121_59, i121_59n, i121_61n, i121_61, i121_64, i121_65, i121_65n, i121_67, i121_68, i121_71, i121_72, i121_73, i121_76, i121_79, i121_82, i121_85, i121_86, i121_89, i121_90, i121_91, i121_94, i121_97, i121_98, i121_99, i121_102, i121_103, i121_104, i121_107, ix_pv_s, ix_pi_s, zpn, ix_po_s, ix_po_n, ix_ph_s, ix_bk_v, ix_bk_n, zcv, zcv_ne, ↓reduceIte, Nat.reduceEqDiff, zn_m1, zd_lt_p, zd_lt_n, zd_le_p, zd_le_n, zd_eq_p, zd_eq_n, zd_0_p, zd_0_n, zd_0lt_p, zd_0lt_n, zd_le0_p, zd_le0_n, zn_lt0, zn_le0, zn_add, zn_mul, zn_sub, zm_lt, zm_le, zm_eq, zb_1, zb_0, not_true_eq_false, not_false_eq_true, t0_c, t0_g0, t0_g1, t0_g2, t0_g3, t0_g4, t0_g5, t0_g6, t0_g7, t0_g8, t0_g9, t0_g10, t0_s11, t0_g12, t0_s12, t0_g13, t0_g14, t0_g15, t0_g16, t0_c, rw_c, tp_c, hc, cl_within, hin, and_self, a0]
      · simp (disch := first | assumption | omega | decide) only [e207, i207_0, i207_1, i207_2, i207_5, i207_8, i207_9, i207_10, i207_11, i207_14, i207_17, i207_18, i207_19, i207_20, i207_21, i207_24, i207_25, i207_27, i207_28, i207_31, i207_32, i207_33, i207_36, i207_37, i207_40, i207_42, i207_43, i207_44, i207_45, i207_47, i207_48, i207_51, i207_53, i207_54, i207_55, i207_56, i207_58, i207_59, i207_61, i207_62, i207_65, i207_68, i207_70, i207_73, i207_74, i207_75, i207_78, i207_80, i207_82, i207_83, i207_84, i207_85, i207_88, i207_90, i207_91, i207_92, i207_93, i207_96, i207_97, i207_101, i207_103, i207_106, i207_107, i207_109, i207_110, i207_113, i207_116, i207_118, i207_121, i207_122, i207_124, i207_125, i207_128, i207_131, i207_134, i207_137, i207_140, i207_141, i207_142, i207_145, i207_147, i207_148, i207_149, i207_152, i207_154, i207_155, i207_156, i207_157, i207_160, i207_161, i207_162, i207_163, i207_166, ix_pv_s, ix_pi_s, zpn, ix_po_s, ix_po_n, ix_ph_s, ix_bk_v, ix_bk_n, zcv, zcv_ne, ↓reduceIte, Nat.reduceEqDiff, zn_m1, zd_lt_p, zd_lt_n, zd_le_p, zd_le_n, zd_eq_p, zd_eq_n, zd_0_p, zd_0_n, zd_0lt_p, zd_0lt_n, zd_le0_p, zd_le0_n, zn_lt0, zn_le0, zn_add, zn_mul, zn_sub, zm_lt, zm_le, zm_eq, zb_1, zb_0, not_true_eq_false, not_false_eq_true, mo_c, mo_g0, mo_s0, mo_g1, mo_g2, mo_g3, mo_s3, mo_g4, mo_s4, mo_g5, mo_s5, mo_g6, mo_s6, mo_g7, mo_s7, mo_g8, mo_s8, mo_g9, mo_g10, mo_g11, mo_g12, mo_g13, mo_s13, mo_g14, mo_s14, mo_g15, mo_s15, mo_g16, mo_g17, mo_s17, mo_g18, mo_s18, mo_g19, mo_g20, mo_s20, mo_g21, mo_s21, mo_g22, mo_s22, mo_g23, mo_s23, ra_25, wa_25, al_25, ra_68, wa_68, al_68, ra_69, wa_69, al_69, ra_70, wa_70, al_70, ra_71, wa_71, al_71, ra_72, wa_72, al_72, ra_73, wa_73, al_73, ra_74, wa_74, al_74, ra_75, wa_75, al_75, hm, mo_in, hin, and_self, a2]
    · have hm := mo_walker (X := X) (d := d + 6) h ha
      obtain ⟨w, hw, rfl⟩ := ha
      have hc := cl_walker (X := X) (d := d + 7) h hw
      refine ⟨-1, μ, μ, ?_, ?_, h⟩
      · simp (disch := first | assumption | omega | decide) only [e121, i121_0, i121_1, i121_4, i121_5, i121_8, i121_11, i121_12, i121_13, i121_14, i121_17, i121_20, i121_21, i121_22, i121_23, i121_24, i121_27, i121_28, i121_31, i121_32, i121_34, i121_35, i121_38, i121_41, i121_44, i121_45, i121_46, i121_49, i121_50, i121_51, i121_54, i121_57, i121_57n, i121_59, i121_59n, i121_61n, i121_61, i121_64, i121_65, i121_65n, i121_67, i121_68, i121_71, i121_72, i121_73, i121_76, i121_79, i121_82, i121_85, i121_86, i121_89, i121_90, i121_91, i121_94, i121_97, i121_98, i121_99, i121_102, i121_103, i121_104, i121_107, ix_pv_s, ix_pi_s, zpn, ix_po_s, ix_po_n, ix_ph_s, ix_bk_v, ix_bk_n, zcv, zcv_ne, ↓reduceIte, Nat.reduceEqDiff, zn_m1, zd_lt_p, zd_lt_n, zd_le_p, zd_le_n, zd_eq_p, zd_eq_n, zd_0_p, zd_0_n, zd_0lt_p, zd_0lt_n, zd_le0_p, zd_le0_n, zn_lt0, zn_le0, zn_add, zn_mul, zn_sub, zm_lt, zm_le, zm_eq, zb_1, zb_0, not_true_eq_false, not_false_eq_true, t0_c, t0_g0, t0_g1, t0_g2, t0_g3, t0_g4, t0_g5, t0_g6, t0_g7, t0_g8, t0_g9, t0_g10, t0_s11, t0_g12, t0_s12, t0_g13, t0_g14, t0_g15, t0_g16, t0_c, rw_c, hc, cl_within, hin]
      · simp (disch := first | assumption | omega | decide) only [e207, i207_0, i207_1, i207_2, i207_5, i207_8, i207_9, i207_10, i207_11, i207_14, i207_17, i207_18, i207_19, i207_20, i207_21, i207_24, i207_25, i207_27, i207_28, i207_31, i207_32, i207_33, i207_36, i207_37, i207_40, i207_42, i207_43, i207_44, i207_45, i207_47, i207_48, i207_51, i207_53, i207_54, i207_55, i207_56, i207_58, i207_59, i207_61, i207_62, i207_65, i207_68, i207_70, i207_73, i207_74, i207_75, i207_78, i207_80, i207_82, i207_83, i207_84, i207_85, i207_88, i207_90, i207_91, i207_92, i207_93, i207_96, i207_97, i207_101, i207_103, i207_106, i207_107, i207_109, i207_110, i207_113, i207_116, i207_118, i207_121, i207_122, i207_124, i207_125, i207_128, i207_131, i207_134, i207_137, i207_140, i207_141, i207_142, i207_145, i207_147, i207_148, i207_149, i207_152, i207_154, i207_155, i207_156, i207_157, i207_160, i207_161, i207_162, i207_163, i207_166, ix_pv_s, ix_pi_s, zpn, ix_po_s, ix_po_n, ix_ph_s, ix_bk_v, ix_bk_n, zcv, zcv_ne, ↓reduceIte, Nat.reduceEqDiff, zn_m1, zd_lt_p, zd_lt_n, zd_le_p, zd_le_n, zd_eq_p, zd_eq_n, zd_0_p, zd_0_n, zd_0lt_p, zd_0lt_n, zd_le0_p, zd_le0_n, zn_lt0, zn_le0, zn_add, zn_mul, zn_sub, zm_lt, zm_le, zm_eq, zb_1, zb_0, not_true_eq_false, not_false_eq_true, mo_c, mo_g0, mo_s0, mo_g1, mo_g2, mo_g3, mo_s3, mo_g4, mo_s4, mo_g5, mo_s5, mo_g6, mo_s6, mo_g7, mo_s7, mo_g8, mo_s8, mo_g9, mo_g10, mo_g11, mo_g12, mo_g13, mo_s13, mo_g14, mo_s14, mo_g15, mo_s15, mo_g16, mo_g17, mo_s17, mo_g18, mo_s18, mo_g19, mo_g20, mo_s20, mo_g21, mo_s21, mo_g22, mo_s22, mo_g23, mo_s23, ra_25, wa_25, al_25, ra_68, wa_68, al_68, ra_69, wa_69, al_69, ra_70, wa_70, al_70, ra_71, wa_71, al_71, ra_72, wa_72, al_72, ra_73, wa_73, al_73, ra_74, wa_74, al_74, ra_75, wa_75, al_75, hm, mo_in, hin]
  · have hc := cl_walkerN (X := X) (d := d + 7) h ha
    have hm := mo_walkerN (X := X) (d := d + 6) h ha
    refine ⟨-1, μ, μ, ?_, ?_, h⟩
    · simp (disch := first | assumption | omega | decide) only [e121, i121_0, i121_1, i121_4, i121_5, i121_8, i121_11, i121_12, i121_13, i121_14, i121_17, i121_20, i121_21, i121_22, i121_23, i121_24, i121_27, i121_28, i121_31, i121_32, i121_34, i121_35, i121_38, i121_41, i121_44, i121_45, i121_46, i121_49, i121_50, i121_51, i121_54, i121_57, i121_57n, i121_59, i121_59n, i121_61n, i121_61, i121_64, i121_65, i121_65n, i121_67, i121_68, i121_71, i121_72, i121_73, i121_76, i121_79, i121_82, i121_85, i121_86, i121_89, i121_90, i121_91, i121_94, i121_97, i121_98, i121_99, i121_102, i121_103, i121_104, i121_107, ix_pv_s, ix_pi_s, zpn, ix_po_s, ix_po_n, ix_ph_s, ix_bk_v, ix_bk_n, zcv, zcv_ne, ↓reduceIte, Nat.reduceEqDiff, zn_m1, zd_lt_p, zd_lt_n, zd_le_p, zd_le_n, zd_eq_p, zd_eq_n, zd_0_p, zd_0_n, zd_0lt_p, zd_0lt_n, zd_le0_p, zd_le0_n, zn_lt0, zn_le0, zn_add, zn_mul, zn_sub, zm_lt, zm_le, zm_eq, zb_1, zb_0, not_true_eq_false, not_false_eq_true, t0_c, t0_g0, t0_g1, t0_g2, t0_g3, t0_g4, t0_g5, t0_g6, t0_g7, t0_g8, t0_g9, t0_g10, t0_s11, t0_g12, t0_s12, t0_g13, t0_g14, t0_g15, t0_g16, t0_c, rw_c, hc]
    · simp (disch := first | assumption | omega | decide) only [e207, i207_0, i207_1, i207_2, i207_5, i207_8, i207_9, i207_10, i207_11, i207_14, i207_17, i207_18, i207_19, i207_20, i207_21, i207_24, i207_25, i207_27, i207_28, i207_31, i207_32, i207_33, i207_36, i207_37, i207_40, i207_42, i207_43, i207_44, i207_45, i207_47, i207_48, i207_51, i207_53, i207_54, i207_55, i207_56, i207_58, i207_59, i207_61, i207_62, i207_65, i207_68, i207_70, i207_73, i207_74, i207_75, i207_78, i207_80, i207_82, i207_83, i207_84, i207_85, i207_88, i207_90, i207_91, i207_92, i207_93, i207_96, i207_97, i207_101, i207_103, i207_106, i207_107, i207_109, i207_110, i207_113, i207_116, i207_118, i207_121, i207_122, i207_124, i207_125, i207_128, i207_131, i207_134, i207_137, i207_140, i207_141, i207_142, i207_145, i207_147, i207_148, i207_149, i207_152, i207_154, i207_155, i207_156, i207_157, i207_160, i207_161, i207_162, i207_163, i207_166, ix_pv_s, ix_pi_s, zpn, ix_po_s, ix_po_n, ix_ph_s, ix_bk_v, ix_bk_n, zcv, zcv_ne, ↓reduceIte, Nat.reduceEqDiff, zn_m1, zd_lt_p, zd_lt_n, zd_le_p, zd_le_n, zd_eq_p, zd_eq_n, zd_0_p, zd_0_n, zd_0lt_p, zd_0lt_n, zd_le0_p, zd_le0_n, zn_lt0, zn_le0, zn_add, zn_mul, zn_sub, zm_lt, zm_le, zm_eq, zb_1, zb_0, not_true_eq_false, not_false_eq_true, mo_c, mo_g0, mo_s0, mo_g1, mo_g2, mo_g3, mo_s3, mo_g4, mo_s4, mo_g5, mo_s5, mo_g6, mo_s6, mo_g7, mo_s7, mo_g8, mo_s8, mo_g9, mo_g10, mo_g11, mo_g12, mo_g13, mo_s13, mo_g14, mo_s14, mo_g15, mo_s15, mo_g16, mo_g17, mo_s17, mo_g18, mo_s18, mo_g19, mo_g20, mo_s20, mo_g21, mo_s21, mo_g22, mo_s22, mo_g23, mo_s23, ra_25, wa_25, al_25, ra_68, wa_68, al_68, ra_69, wa_69, al_69, ra_70, wa_70, al_70, ra_71, wa_71, al_71, ra_72, wa_72, al_72, ra_73, wa_73, al_73, ra_74, wa_74, al_74, ra_75, wa_75, al_75, hm]
end Q8
