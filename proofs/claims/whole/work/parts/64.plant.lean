/-! ===== a tree is planted ===== -/
--need 63.undone
theorem hs_at {h : ix_H} {x : ix_C} {l : ix_H} : ix_at (h ++ x :: l) h.length = some x := by
  simp [ix_at]
theorem hs_up {h : ix_H} {x y : ix_C} {l : ix_H} : ix_up (h ++ x :: l) h.length y = h ++ y :: l := by
  unfold ix_up
  rw [List.set_append_right _ _ (Nat.le_refl _), Nat.sub_self, List.set_cons_zero]
theorem hs_s {h : ix_H} {c : Nat} {fs : List Value} {l : ix_H} {cs : List Nat} {k : Nat} {v : Value} (hc : ix_isin cs c = true) (hk : k < fs.length) : ix_s (h ++ .inr (c, fs) :: l) h.length cs k v = some (h ++ .inr (c, fs.set k v) :: l) := by
  unfold ix_s
  rw [hs_at]
  simp only
  rw [if_pos ⟨hc, hk⟩, hs_up]
theorem hs_cls {h : ix_H} {c : Nat} {fs : List Value} {l : ix_H} : ix_cls (h ++ .inr (c, fs) :: l) h.length = some c := by
  unfold ix_cls
  rw [hs_at]
theorem hs_some {h : ix_H} {c : Nat} {fs : List Value} {l : ix_H} : (ix_cls (h ++ .inr (c, fs) :: l) h.length).isSome = true := by
  rw [hs_cls]; rfl
theorem hs_s3 {h : ix_H} {c : Nat} {a b e f g v : Value} {l : ix_H} {cs : List Nat} (hc : ix_isin cs c = true) : ix_s (h ++ .inr (c, [a, b, e, f, g]) :: l) h.length cs 3 v = some (h ++ .inr (c, [a, b, e, v, g]) :: l) := hs_s hc (by simp)
theorem hs_s4 {h : ix_H} {c : Nat} {a b e f g v : Value} {l : ix_H} {cs : List Nat} (hc : ix_isin cs c = true) : ix_s (h ++ .inr (c, [a, b, e, f, g]) :: l) h.length cs 4 v = some (h ++ .inr (c, [a, b, e, f, v]) :: l) := hs_s hc (by simp)
section PL
variable {X : ix_X} {d : Nat} {τ : List fm_D} {μ : fm_M} {h : ix_H} {c s : Nat} {fs : List Value} {l : ix_H} {x : Int32}
theorem t_init (hc : ix_isin [0, 1, 2, 6, 7, 8, 9] c = true) (hk : 2 ≤ fs.length) : ix_call X d 48 [.ref h.length, .ref s, .int x] (h ++ .inr (c, fs) :: l) = some (none, h ++ .inr (c, (fs.set 0 (.ref s)).set 1 (.int x)) :: l) := by
  have h0 : 0 < fs.length := by omega
  have h1 : 1 < (fs.set 0 (.ref s)).length := by rw [List.length_set]; omega
  simp (disch := first | assumption | omega | decide) only [e48, i48_0, i48_1, i48_4, i48_5, i48_6, i48_9, i48_10, i48_11, i48_14, ix_pv_s, ix_pi_s, zpn, ix_po_s, ix_po_n, ix_ph_s, ix_bk_v, ix_bk_n, zcv, zcv_ne, ↓reduceIte, Nat.reduceEqDiff, hs_s]
theorem t_initA (hc : ix_isin [0, 1, 2, 6, 7, 8, 9] c = true) (hk : 2 ≤ fs.length) : (ix_call X (d + 1) 36 [.ref h.length, .ref s, .int x] (h ++ .inr (c, fs) :: l) = some (none, h ++ .inr (c, (fs.set 0 (.ref s)).set 1 (.int x)) :: l)) ∧ (ix_call X (d + 1) 39 [.ref h.length, .ref s, .int x] (h ++ .inr (c, fs) :: l) = some (none, h ++ .inr (c, (fs.set 0 (.ref s)).set 1 (.int x)) :: l)) ∧ ix_call X (d + 1) 6 [.ref h.length, .ref s, .int x] (h ++ .inr (c, fs) :: l) = some (none, h ++ .inr (c, (fs.set 0 (.ref s)).set 1 (.int x)) :: l) := by
  have k1 := t_init (X := X) (d := d) (h := h) (s := s) (l := l) (x := x) hc hk
  have k2 := hs_some (h := h) (c := c) (fs := fs) (l := l)
  refine ⟨?_, ?_, ?_⟩
  · simp (disch := first | assumption | omega | decide) only [e36, i36_0, i36_1, i36_2, i36_3, i36_6, ix_pv_s, ix_pi_s, zpn, ix_po_s, ix_po_n, ix_ph_s, ix_bk_v, ix_bk_n, zcv, zcv_ne, ↓reduceIte, Nat.reduceEqDiff, k1]
  · simp (disch := first | assumption | omega | decide) only [e39, i39_0, i39_1, i39_2, i39_3, i39_6, ix_pv_s, ix_pi_s, zpn, ix_po_s, ix_po_n, ix_ph_s, ix_bk_v, ix_bk_n, zcv, zcv_ne, ↓reduceIte, Nat.reduceEqDiff, k1]
  · simp (disch := first | assumption | omega | decide) only [e6, i6_0, i6_1, i6_2, i6_3, i6_6, ix_pv_s, ix_pi_s, zpn, ix_po_s, ix_po_n, ix_ph_s, ix_bk_v, ix_bk_n, zcv, zcv_ne, ↓reduceIte, Nat.reduceEqDiff, k1]
theorem t_initB (hc : ix_isin [0, 1, 2, 6, 7, 8, 9] c = true) (hk : 2 ≤ fs.length) : (ix_call X (d + 2) 3 [.ref h.length, .ref s, .int x] (h ++ .inr (c, fs) :: l) = some (none, h ++ .inr (c, (fs.set 0 (.ref s)).set 1 (.int x)) :: l)) ∧ ix_call X (d + 2) 0 [.ref h.length, .ref s, .int x] (h ++ .inr (c, fs) :: l) = some (none, h ++ .inr (c, (fs.set 0 (.ref s)).set 1 (.int x)) :: l) := by
  obtain ⟨k1, k3, k4⟩ := t_initA (X := X) (d := d) (h := h) (s := s) (l := l) (x := x) hc hk
  have k2 := hs_some (h := h) (c := c) (fs := fs) (l := l)
  refine ⟨?_, ?_⟩
  · simp (disch := first | assumption | omega | decide) only [e3, i3_0, i3_1, i3_2, i3_3, i3_6, ix_pv_s, ix_pi_s, zpn, ix_po_s, ix_po_n, ix_ph_s, ix_bk_v, ix_bk_n, zcv, zcv_ne, ↓reduceIte, Nat.reduceEqDiff, k1]
  · simp (disch := first | assumption | omega | decide) only [e0, i0_0, i0_1, i0_2, i0_3, i0_6, ix_pv_s, ix_pi_s, zpn, ix_po_s, ix_po_n, ix_ph_s, ix_bk_v, ix_bk_n, zcv, zcv_ne, ↓reduceIte, Nat.reduceEqDiff, k3]
theorem n4_ok : 0 ≤ nI 4 ∧ (nI 4).toNatClampNeg < 100000000 := ⟨by decide, by decide⟩
theorem n4_c : (nI 4).toNatClampNeg = 4 := nI_clamp (by decide)
theorem t_initT : ix_call X (d + 2) 42 [.ref h.length, .ref s, .int x] (h ++ [.inr (8, [.null, .int 0, .int 0, .null, .null])]) = some (none, h ++ [.inr (8, [.ref s, .int x, .int 0, .ref (h.length + 1), .ref (h.length + 2)]), .inl (0, 4, .inl (fun _ => 0)), .inl (0, 4, .inl (fun _ => 0))]) := by
  obtain ⟨_, _, k1⟩ := t_initA (X := X) (d := d) (h := h) (s := s) (l := []) (x := x) (c := 8) (fs := [.null, .int 0, .int 0, .null, .null]) rfl (by decide)
  have k2 := hs_some (h := h) (c := 8) (fs := [.null, .int 0, .int 0, .null, .null]) (l := [])
  have a8 : ix_isin [8] 8 = true := rfl
  have n4 := n4_ok
  simp only [List.set_cons_zero, List.set_cons_succ] at k1
  simp (disch := first | assumption | omega | decide) only [e42, i42_0, i42_1, i42_2, i42_3, i42_6, i42_7, i42_8, i42_10, i42_13, i42_14, i42_15, i42_17, i42_20, ix_pv_s, ix_pi_s, zpn, ix_po_s, ix_po_n, ix_ph_s, ix_bk_v, ix_bk_n, zcv, zcv_ne, ↓reduceIte, Nat.reduceEqDiff, k1, n4_c, List.append_assoc, List.cons_append, List.nil_append, List.length_append, List.length_cons, List.length_nil, hs_s3, hs_s4, Nat.zero_add, Nat.reduceAdd]
/-- the cells of a new tree -/
def tcl (k s n : Nat) (x : Int32) : ix_H := if k = 6 then [.inr (8, [.ref s, .int x, .int 0, .ref (n + 1), .ref (n + 2)]), .inl (0, 4, .inl (fun _ => 0)), .inl (0, 4, .inl (fun _ => 0))] else [.inr (kc k, [.ref s, .int x, .int 0])]
theorem t_plant {k : Nat} (hs : spO s) (hk : μ s 4 = nI k) (hk6 : k ≤ 6) : ix_call X (d + 4) 72 [.ref s, .int x] (fm_W μ τ) = some (some (.ref (fm_W μ τ).length), fm_W μ τ ++ tcl k s (fm_W μ τ).length x) := by
  have nul : ∀ c, (ix_cls (fm_W μ τ ++ [.inr (c, [.null, .int 0, .int 0])]) (fm_W μ τ).length).isSome = true := fun c => hs_some
  have nu8 : (ix_cls (fm_W μ τ ++ [.inr (8, [.null, .int 0, .int 0, .null, .null])]) (fm_W μ τ).length).isSome = true := hs_some
  have n9 := nul 9
  have n6 := nul 6
  have n7 := nul 7
  have n2 := nul 2
  have n1 := nul 1
  have n0 := nul 0
  have i9 := t_init (X := X) (d := d + 3) (h := fm_W μ τ) (s := s) (l := []) (x := x) (c := 9) (fs := [.null, .int 0, .int 0]) rfl (by decide)
  obtain ⟨i6, _, _⟩ := t_initA (X := X) (d := d + 2) (h := fm_W μ τ) (s := s) (l := []) (x := x) (c := 6) (fs := [.null, .int 0, .int 0]) rfl (by decide)
  obtain ⟨_, i7, _⟩ := t_initA (X := X) (d := d + 2) (h := fm_W μ τ) (s := s) (l := []) (x := x) (c := 7) (fs := [.null, .int 0, .int 0]) rfl (by decide)
  obtain ⟨_, _, i2⟩ := t_initA (X := X) (d := d + 2) (h := fm_W μ τ) (s := s) (l := []) (x := x) (c := 2) (fs := [.null, .int 0, .int 0]) rfl (by decide)
  obtain ⟨i1, _⟩ := t_initB (X := X) (d := d + 1) (h := fm_W μ τ) (s := s) (l := []) (x := x) (c := 1) (fs := [.null, .int 0, .int 0]) rfl (by decide)
  obtain ⟨_, i0⟩ := t_initB (X := X) (d := d + 1) (h := fm_W μ τ) (s := s) (l := []) (x := x) (c := 0) (fs := [.null, .int 0, .int 0]) rfl (by decide)
  have i8 := t_initT (X := X) (d := d + 1) (h := fm_W μ τ) (s := s) (x := x)
  simp only [List.set_cons_zero, List.set_cons_succ] at i9 i6 i7 i2 i1 i0
  rcases (by omega : k = 0 ∨ k = 1 ∨ k = 2 ∨ k = 3 ∨ k = 4 ∨ k = 5 ∨ k = 6) with rfl | rfl | rfl | rfl | rfl | rfl | rfl
  · simp (disch := first | assumption | omega | decide) only [e72, i72_0, i72_0n, i72_1, i72_4, i72_44, i72_47, i72_48, i72_48n, i72_49, i72_50, i72_53, i72_53n, i72_54, i72_57, i72_58, i72_58n, i72_59, i72_60, i72_63, i72_63n, i72_64, i72_67, i72_68, i72_68n, i72_69, i72_70, i72_73, i72_73n, i72_74, i72_77, i72_78, i72_78n, i72_79, i72_80, i72_83, i72_83n, i72_84, i72_87, i72_88, i72_88n, i72_89, i72_90, i72_93, i72_93n, i72_94, i72_97, i72_98, i72_98n, i72_99, i72_100, i72_103, i72_103n, i72_104, i72_107, i72_108, i72_108n, i72_109, i72_110, i72_113, i72_113n, ix_pv_s, ix_pi_s, zpn, ix_po_s, ix_po_n, ix_ph_s, ix_bk_v, ix_bk_n, zcv, zcv_ne, ↓reduceIte, Nat.reduceEqDiff, zn_m1, zd_lt_p, zd_lt_n, zd_le_p, zd_le_n, zd_eq_p, zd_eq_n, zd_0_p, zd_0_n, zd_0lt_p, zd_0lt_n, zd_le0_p, zd_le0_n, zn_lt0, zn_le0, zn_add, zn_mul, zn_sub, zm_lt, zm_le, zm_eq, zb_1, zb_0, not_true_eq_false, not_false_eq_true, sp_g4, hk, i9]
    rfl
  · simp (disch := first | assumption | omega | decide) only [e72, i72_0, i72_0n, i72_1, i72_4, i72_44, i72_47, i72_48, i72_48n, i72_49, i72_50, i72_53, i72_53n, i72_54, i72_57, i72_58, i72_58n, i72_59, i72_60, i72_63, i72_63n, i72_64, i72_67, i72_68, i72_68n, i72_69, i72_70, i72_73, i72_73n, i72_74, i72_77, i72_78, i72_78n, i72_79, i72_80, i72_83, i72_83n, i72_84, i72_87, i72_88, i72_88n, i72_89, i72_90, i72_93, i72_93n, i72_94, i72_97, i72_98, i72_98n, i72_99, i72_100, i72_103, i72_103n, i72_104, i72_107, i72_108, i72_108n, i72_109, i72_110, i72_113, i72_113n, ix_pv_s, ix_pi_s, zpn, ix_po_s, ix_po_n, ix_ph_s, ix_bk_v, ix_bk_n, zcv, zcv_ne, ↓reduceIte, Nat.reduceEqDiff, zn_m1, zd_lt_p, zd_lt_n, zd_le_p, zd_le_n, zd_eq_p, zd_eq_n, zd_0_p, zd_0_n, zd_0lt_p, zd_0lt_n, zd_le0_p, zd_le0_n, zn_lt0, zn_le0, zn_add, zn_mul, zn_sub, zm_lt, zm_le, zm_eq, zb_1, zb_0, not_true_eq_false, not_false_eq_true, sp_g4, hk, i6]
    rfl
  · simp (disch := first | assumption | omega | decide) only [e72, i72_0, i72_0n, i72_1, i72_4, i72_44, i72_47, i72_48, i72_48n, i72_49, i72_50, i72_53, i72_53n, i72_54, i72_57, i72_58, i72_58n, i72_59, i72_60, i72_63, i72_63n, i72_64, i72_67, i72_68, i72_68n, i72_69, i72_70, i72_73, i72_73n, i72_74, i72_77, i72_78, i72_78n, i72_79, i72_80, i72_83, i72_83n, i72_84, i72_87, i72_88, i72_88n, i72_89, i72_90, i72_93, i72_93n, i72_94, i72_97, i72_98, i72_98n, i72_99, i72_100, i72_103, i72_103n, i72_104, i72_107, i72_108, i72_108n, i72_109, i72_110, i72_113, i72_113n, ix_pv_s, ix_pi_s, zpn, ix_po_s, ix_po_n, ix_ph_s, ix_bk_v, ix_bk_n, zcv, zcv_ne, ↓reduceIte, Nat.reduceEqDiff, zn_m1, zd_lt_p, zd_lt_n, zd_le_p, zd_le_n, zd_eq_p, zd_eq_n, zd_0_p, zd_0_n, zd_0lt_p, zd_0lt_n, zd_le0_p, zd_le0_n, zn_lt0, zn_le0, zn_add, zn_mul, zn_sub, zm_lt, zm_le, zm_eq, zb_1, zb_0, not_true_eq_false, not_false_eq_true, sp_g4, hk, i7]
    rfl
  · simp (disch := first | assumption | omega | decide) only [e72, i72_0, i72_0n, i72_1, i72_4, i72_44, i72_47, i72_48, i72_48n, i72_49, i72_50, i72_53, i72_53n, i72_54, i72_57, i72_58, i72_58n, i72_59, i72_60, i72_63, i72_63n, i72_64, i72_67, i72_68, i72_68n, i72_69, i72_70, i72_73, i72_73n, i72_74, i72_77, i72_78, i72_78n, i72_79, i72_80, i72_83, i72_83n, i72_84, i72_87, i72_88, i72_88n, i72_89, i72_90, i72_93, i72_93n, i72_94, i72_97, i72_98, i72_98n, i72_99, i72_100, i72_103, i72_103n, i72_104, i72_107, i72_108, i72_108n, i72_109, i72_110, i72_113, i72_113n, ix_pv_s, ix_pi_s, zpn, ix_po_s, ix_po_n, ix_ph_s, ix_bk_v, ix_bk_n, zcv, zcv_ne, ↓reduceIte, Nat.reduceEqDiff, zn_m1, zd_lt_p, zd_lt_n, zd_le_p, zd_le_n, zd_eq_p, zd_eq_n, zd_0_p, zd_0_n, zd_0lt_p, zd_0lt_n, zd_le0_p, zd_le0_n, zn_lt0, zn_le0, zn_add, zn_mul, zn_sub, zm_lt, zm_le, zm_eq, zb_1, zb_0, not_true_eq_false, not_false_eq_true, sp_g4, hk, i2]
    rfl
  · simp (disch := first | assumption | omega | decide) only [e72, i72_0, i72_0n, i72_1, i72_4, i72_44, i72_47, i72_48, i72_48n, i72_49, i72_50, i72_53, i72_53n, i72_54, i72_57, i72_58, i72_58n, i72_59, i72_60, i72_63, i72_63n, i72_64, i72_67, i72_68, i72_68n, i72_69, i72_70, i72_73, i72_73n, i72_74, i72_77, i72_78, i72_78n, i72_79, i72_80, i72_83, i72_83n, i72_84, i72_87, i72_88, i72_88n, i72_89, i72_90, i72_93, i72_93n, i72_94, i72_97, i72_98, i72_98n, i72_99, i72_100, i72_103, i72_103n, i72_104, i72_107, i72_108, i72_108n, i72_109, i72_110, i72_113, i72_113n, ix_pv_s, ix_pi_s, zpn, ix_po_s, ix_po_n, ix_ph_s, ix_bk_v, ix_bk_n, zcv, zcv_ne, ↓reduceIte, Nat.reduceEqDiff, zn_m1, zd_lt_p, zd_lt_n, zd_le_p, zd_le_n, zd_eq_p, zd_eq_n, zd_0_p, zd_0_n, zd_0lt_p, zd_0lt_n, zd_le0_p, zd_le0_n, zn_lt0, zn_le0, zn_add, zn_mul, zn_sub, zm_lt, zm_le, zm_eq, zb_1, zb_0, not_true_eq_false, not_false_eq_true, sp_g4, hk, i1]
    rfl
  · simp (disch := first | assumption | omega | decide) only [e72, i72_0, i72_0n, i72_1, i72_4, i72_44, i72_47, i72_48, i72_48n, i72_49, i72_50, i72_53, i72_53n, i72_54, i72_57, i72_58, i72_58n, i72_59, i72_60, i72_63, i72_63n, i72_64, i72_67, i72_68, i72_68n, i72_69, i72_70, i72_73, i72_73n, i72_74, i72_77, i72_78, i72_78n, i72_79, i72_80, i72_83, i72_83n, i72_84, i72_87, i72_88, i72_88n, i72_89, i72_90, i72_93, i72_93n, i72_94, i72_97, i72_98, i72_98n, i72_99, i72_100, i72_103, i72_103n, i72_104, i72_107, i72_108, i72_108n, i72_109, i72_110, i72_113, i72_113n, ix_pv_s, ix_pi_s, zpn, ix_po_s, ix_po_n, ix_ph_s, ix_bk_v, ix_bk_n, zcv, zcv_ne, ↓reduceIte, Nat.reduceEqDiff, zn_m1, zd_lt_p, zd_lt_n, zd_le_p, zd_le_n, zd_eq_p, zd_eq_n, zd_0_p, zd_0_n, zd_0lt_p, zd_0lt_n, zd_le0_p, zd_le0_n, zn_lt0, zn_le0, zn_add, zn_mul, zn_sub, zm_lt, zm_le, zm_eq, zb_1, zb_0, not_true_eq_false, not_false_eq_true, sp_g4, hk, i0]
    rfl
  · simp (disch := first | assumption | omega | decide) only [e72, i72_0, i72_0n, i72_1, i72_4, i72_44, i72_47, i72_48, i72_48n, i72_49, i72_50, i72_53, i72_53n, i72_54, i72_57, i72_58, i72_58n, i72_59, i72_60, i72_63, i72_63n, i72_64, i72_67, i72_68, i72_68n, i72_69, i72_70, i72_73, i72_73n, i72_74, i72_77, i72_78, i72_78n, i72_79, i72_80, i72_83, i72_83n, i72_84, i72_87, i72_88, i72_88n, i72_89, i72_90, i72_93, i72_93n, i72_94, i72_97, i72_98, i72_98n, i72_99, i72_100, i72_103, i72_103n, i72_104, i72_107, i72_108, i72_108n, i72_109, i72_110, i72_113, i72_113n, ix_pv_s, ix_pi_s, zpn, ix_po_s, ix_po_n, ix_ph_s, ix_bk_v, ix_bk_n, zcv, zcv_ne, ↓reduceIte, Nat.reduceEqDiff, zn_m1, zd_lt_p, zd_lt_n, zd_le_p, zd_le_n, zd_eq_p, zd_eq_n, zd_0_p, zd_0_n, zd_0lt_p, zd_0lt_n, zd_le0_p, zd_le0_n, zn_lt0, zn_le0, zn_add, zn_mul, zn_sub, zm_lt, zm_le, zm_eq, zb_1, zb_0, not_true_eq_false, not_false_eq_true, sp_g4, hk, i8]
    rfl
/-- the descriptions of a new tree of t at n -/
def tde (k t n : Nat) : List fm_D := if k = 6 then [(0, 8, [54 + 2 * t, 0, 0, n + 3, n + 4]), (1, 0, [4]), (1, 0, [4])] else [(0, kc k, [54 + 2 * t, 0, 0])]
/-- memory with a new tree at n -/
def tme (μ : fm_M) (n : Nat) (x : Int32) : fm_M := fm_r (fm_r (fm_r μ n (fun k => if k = 1 then x else 0)) (n + 1) (fun _ => 0)) (n + 2) (fun _ => 0)
theorem fm_h_eq {T : List fm_D} {μ1 μ2 : fm_M} (h : ∀ r, r < T.length → μ1 r = μ2 r) : fm_h μ1 T = fm_h μ2 T := by
  apply List.ext_getElem?
  intro i
  unfold fm_h
  rw [List.getElem?_mapIdx, List.getElem?_mapIdx]
  by_cases hi : i < T.length
  · rw [h i hi]
  · rw [List.getElem?_eq_none (by omega), Option.map_none, Option.map_none]
theorem t_grow {k t : Nat} : fm_W μ τ ++ tcl k (52 + 2 * t) (76 + τ.length) x = fm_W (tme μ (76 + τ.length) x) (τ ++ tde k t (76 + τ.length)) := by
  have hl : (fm_T ++ τ).length = 76 + τ.length := by rw [List.length_append, fm_T_len]
  unfold fm_W tcl tde
  split
  · have e : fm_h μ (fm_T ++ τ) ++ [.inr (8, [.ref (52 + 2 * t), .int x, .int 0, .ref (76 + τ.length + 1), .ref (76 + τ.length + 2)]), .inl (0, 4, .inl (fun _ => 0)), .inl (0, 4, .inl (fun _ => 0))] = ((fm_h μ (fm_T ++ τ) ++ [.inr (8, [.ref (52 + 2 * t), .int x, .int 0, .ref (76 + τ.length + 1), .ref (76 + τ.length + 2)])]) ++ [.inl (0, 4, .inl (fun _ => 0))]) ++ [.inl (0, 4, .inl (fun _ => 0))] := by
      simp only [List.append_assoc, List.cons_append, List.nil_append]
    rw [e, fm_app (D := (0, 8, [54 + 2 * t, 0, 0, 76 + τ.length + 3, 76 + τ.length + 4])) (f := fun k => if k = 1 then x else 0) ?_, fm_app (c := .inl (0, 4, .inl (fun _ => 0))) (D := (1, 0, [4])) (f := fun _ => 0) rfl, fm_app (c := .inl (0, 4, .inl (fun _ => 0))) (D := (1, 0, [4])) (f := fun _ => 0) rfl]
    · have e2 : (fm_T ++ τ ++ [(0, 8, [54 + 2 * t, 0, 0, 76 + τ.length + 3, 76 + τ.length + 4])] ++ [(1, 0, [4])]).length = 76 + τ.length + 2 := by simp only [List.length_append, List.length_cons, List.length_nil, fm_T_len]
      have e3 : (fm_T ++ τ ++ [(0, 8, [54 + 2 * t, 0, 0, 76 + τ.length + 3, 76 + τ.length + 4])]).length = 76 + τ.length + 1 := by simp only [List.length_append, List.length_cons, List.length_nil, fm_T_len]
      rw [hl, e2, e3]
      simp only [List.append_assoc, List.cons_append, List.nil_append]
      rfl
    · simp only [fm_c, List.mapIdx_cons, List.mapIdx_nil, fm_v]
      rw [show 54 + 2 * t = 52 + 2 * t + 2 by omega]
      rfl
  · have hcc : (.inr (kc k, [.ref (52 + 2 * t), .int x, .int 0]) : ix_C) = fm_c (0, kc k, [54 + 2 * t, 0, 0]) (fun k => if k = 1 then x else 0) := by
      simp only [fm_c, List.mapIdx_cons, List.mapIdx_nil, fm_v]
      rw [show 54 + 2 * t = 52 + 2 * t + 2 by omega]
      rfl
    rw [fm_app (D := (0, kc k, [54 + 2 * t, 0, 0])) (f := fun k => if k = 1 then x else 0) hcc, hl, List.append_assoc]
    refine fm_h_eq (fun r hr => ?_)
    simp only [List.length_append, List.length_cons, List.length_nil, fm_T_len] at hr
    unfold tme
    rw [fm_rn (r := 76 + τ.length + 2) (by omega), fm_rn (r := 76 + τ.length + 1) (by omega)]
theorem t_planted {k t : Nat} (ht : t < 6) (hk : μ (52 + 2 * t) 4 = nI k) (hk6 : k ≤ 6) : ix_call X (d + 4) 72 [.ref (52 + 2 * t), .int x] (fm_W μ τ) = some (some (.ref (76 + τ.length)), fm_W (tme μ (76 + τ.length) x) (τ ++ tde k t (76 + τ.length))) := by
  have hO : spO (52 + 2 * t) := by
    have := sp_O (i := t + 1) (by omega)
    rwa [show 50 + 2 * (t + 1) = 52 + 2 * t by omega] at this
  rw [t_plant hO hk hk6, fm_W_len, t_grow]
theorem trO_ext {ext : List fm_D} {q c t : Nat} {rest : List Nat} (h : trO τ q c t rest) : trO (τ ++ ext) q c t rest := by
  refine ⟨?_, h.2⟩
  have h1 := h.1
  have hl := (List.getElem?_eq_some_iff.mp h1).1
  rw [← List.append_assoc, List.getElem?_append_left hl, h1]
theorem toO_ext {ext : List fm_D} {q t : Nat} (h : toO τ q t) : toO (τ ++ ext) q t := by
  obtain ⟨a, b, c⟩ := h
  refine ⟨trO_ext a, ?_, ?_⟩
  · have hl := (List.getElem?_eq_some_iff.mp b).1
    rw [← List.append_assoc, List.getElem?_append_left hl, b]
  · have hl := (List.getElem?_eq_some_iff.mp c).1
    rw [← List.append_assoc, List.getElem?_append_left hl, c]
theorem new_at {k t j : Nat} {D : fm_D} (h : (tde k t (76 + τ.length))[j]? = some D) : (fm_T ++ (τ ++ tde k t (76 + τ.length)))[76 + τ.length + j]? = some D := by
  have hl : (fm_T ++ τ).length = 76 + τ.length := by rw [List.length_append, fm_T_len]
  rw [← List.append_assoc, List.getElem?_append_right (by omega), hl, show 76 + τ.length + j - (76 + τ.length) = j by omega]
  exact h
/-- a new tree stands -/
theorem new_tr {k t : Nat} (hk6 : k ≤ 6) : (∃ rest, trO (τ ++ tde k t (76 + τ.length)) (76 + τ.length) (kc k) t rest) ∧ (k = 6 → toO (τ ++ tde k t (76 + τ.length)) (76 + τ.length) t) := by
  have hcc : ix_isin [0, 1, 2, 6, 7, 8, 9] (kc k) = true := by
    rcases (by omega : k = 0 ∨ k = 1 ∨ k = 2 ∨ k = 3 ∨ k = 4 ∨ k = 5 ∨ k = 6) with rfl | rfl | rfl | rfl | rfl | rfl | rfl <;> rfl
  by_cases h6 : k = 6
  · subst h6
    have hO : trO (τ ++ tde 6 t (76 + τ.length)) (76 + τ.length) 8 t [76 + τ.length + 3, 76 + τ.length + 4] := ⟨new_at (j := 0) rfl, by omega, rfl⟩
    exact ⟨⟨_, hO⟩, fun _ => ⟨hO, new_at (j := 1) rfl, new_at (j := 2) rfl⟩⟩
  · refine ⟨⟨[], new_at (j := 0) ?_, by omega, hcc⟩, fun e => absurd e h6⟩
    unfold tde
    rw [if_neg h6]
    rfl
end PL
