/-! ===== Trips ===== -/
--need 29.wets
/-- minutes of a walk -/
def wkM (pace pl to : Nat) : Nat := ((if pl ≤ to then to - pl else pl - to) + pace - 1) / pace
/-- a trip: pace, place, minute, got -/
def tri (μ : fm_M) (r pace pl mn : Nat) (gt : Int32) : Prop := μ r 1 = nI pace ∧ μ r 2 = nI pl ∧ μ r 3 = nI mn ∧ μ r 4 = gt
/-- only the trip at r and what the class knows of the rain have changed -/
def tf (r : Nat) (μ μ' : fm_M) : Prop := (∀ q, q ≠ r → (q < 26 ∨ 64 ≤ q ∨ (q < 50 ∧ q % 4 ≠ 0)) → μ' q = μ q) ∧ cs2 μ μ'
section TP
variable {X : ix_X} {d : Nat} {τ : List fm_D} {μ : fm_M} {r : Nat} {S : Nat → Int32} {ps : List Nat} {p n : Nat}
theorem tf_cf {μ' : fm_M} (h : cf μ μ') : tf r μ μ' := ⟨fun q _ a => h.1 q a, h.2⟩
theorem tf_refl : tf r μ μ := tf_cf cf_refl
theorem tf_trans {μ1 μ2 μ3 : fm_M} (h : tf r μ1 μ2) (h' : tf r μ2 μ3) : tf r μ1 μ3 := ⟨fun q e a => (h'.1 q e a).trans (h.1 q e a), cs2_trans h.2 h'.2⟩
theorem tf_u {k : Nat} {x : Int32} (hr : tpO r) : tf r μ (fm_u μ r k x) := by
  have := tp_cases hr
  exact ⟨fun q e _ => fm_un e, cs2_rows (fun q a b => fm_un (by omega))⟩
theorem tp_row {μ' : fm_M} (hr : tpO r) (h : cf μ μ') : μ' r = μ r := h.1 r (by have := tp_cases hr; omega)
/-- the rain known stays known when a row of no spot and no park changes -/
theorem ck_row {μ' : fm_M} {q : Nat} (h : ck μ S ps p n) (hq : q < 26 ∨ 64 ≤ q) (he : ∀ x, x ≠ q → μ' x = μ x) : ck μ' S ps p n := by
  obtain ⟨hn, hp, hs⟩ := h
  have hp' := pk_cases hp.1
  refine ⟨hn, pr_cs_of hp (he p (by omega)) (he (p + 1) (by omega)), fun v hv => ?_⟩
  have h1 : μ' (spp v) = μ (spp v) := he _ (by unfold spp; split <;> omega)
  have h2 : μ' (spp v + 1) = μ (spp v + 1) := he _ (by unfold spp; split <;> omega)
  have := hs v hv
  unfold spK at this ⊢
  rw [h1, h2]
  exact this
theorem wk_abs {a b : Nat} (ha : a < 2147483648) (hb : b < 2147483648) : (if 0 ≤ nI a - nI b then nI a - nI b else 0 - (nI a - nI b)) = nI (if b ≤ a then a - b else b - a) := by
  by_cases h : b ≤ a
  · rw [if_pos h, zn_sub h, if_pos (nI_pos' (show a - b < 2147483648 by omega))]
  · have e : nI a - nI b = 0 - nI (b - a) := by
      rw [← zn_sub (show a ≤ b by omega)]
      simp only [Int32.sub_eq_add_neg, Int32.neg_add, Int32.neg_neg, Int32.zero_add]
      exact Int32.add_comm _ _
    have e2 : 0 - (0 - nI (b - a)) = nI (b - a) := by
      simp only [Int32.sub_eq_add_neg, Int32.neg_add, Int32.neg_neg, Int32.zero_add]
    rw [if_neg h, e, e2]
    have hneg : ¬ (0 : Int32) ≤ 0 - nI (b - a) := by
      intro hh
      have : (0 - nI (b - a)).toInt = - ((b - a : Nat) : Int) := by
        rw [Int32.toInt_sub]
        have q : (nI (b - a)).toInt = ((b - a : Nat) : Int) := nI_toInt (show b - a < 2 ^ 31 by omega)
        rw [q]
        have z : (0 : Int32).toInt = 0 := by decide
        rw [z]
        have : (0 : Int) - ((b - a : Nat) : Int) = - ((b - a : Nat) : Int) := by omega
        rw [this]
        apply Int.bmod_eq_of_le <;> omega
      have h0 := Int32.le_iff_toInt_le.mp hh
      rw [this] at h0
      have z : (0 : Int32).toInt = 0 := by decide
      rw [z] at h0
      omega
    rw [if_neg hneg]
theorem tp_walk {pace pl mn to : Nat} {gt : Int32} (hr : tpO r) (hk : ck μ S ps p n) (ht : tri μ r pace pl mn gt) (hp1 : 1 ≤ pace) (hp2 : pace ≤ 100) (hpl : pl ≤ 99) (hto : to ≤ 99) (ha : mn + wkM pace pl to ≤ 1600) : ∃ μ' : fm_M, ix_call X (d + 2) 59 [.ref r, .int (nI to)] (fm_W μ τ) = some (none, fm_W μ' τ) ∧ ck μ' S ps p n ∧ tri μ' r pace to (mn + wkM pace pl to) (gt + (sS (rn S ps 6) (mn + wkM pace pl to) - sS (rn S ps 6) mn)) ∧ tf r μ μ' := by
  obtain ⟨t1, t2, t3, t4⟩ := ht
  obtain ⟨μ1, a1, b1, c1⟩ := ck_ahead (X := X) (d := d) (τ := τ) (u := 6) (m := mn + wkM pace pl to) hk (Or.inr rfl) ha
  obtain ⟨μ2, a2, b2, c2⟩ := ck_ahead (X := X) (d := d) (τ := τ) (u := 6) (m := mn) b1 (Or.inr rfl) (by omega)
  have r1 := tp_row hr c1
  have r2 := tp_row hr c2
  have hr64 := tp_cases hr
  refine ⟨fm_u (fm_u (fm_u μ2 r 4 (gt + (sS (rn S ps 6) (mn + wkM pace pl to) - sS (rn S ps 6) mn))) r 3 (nI (mn + wkM pace pl to))) r 2 (nI to), ?_, ?_, ?_, ?_⟩
  · have hO := sp_O (i := 0) (by decide)
    have e6 : spp 6 = 50 := rfl
    rw [e6] at a1 a2
    have hy : ¬ nI pace = 0 := by rw [zn_eq0 (by omega)]; omega
    have hw : ((if pl ≤ to then to - pl else pl - to) + pace - 1) / pace = wkM pace pl to := rfl
    have hl : (if pl ≤ to then to - pl else pl - to) ≤ 99 := by split <;> omega
    have hab := wk_abs (a := to) (b := pl) (by omega) (by omega)
    generalize (if pl ≤ to then to - pl else pl - to) = yd at *
    simp (disch := first | assumption | omega | decide) only [e59, i59_0, i59_1, i59_4, i59_5, i59_8, i59_9, i59_10, i59_13, i59_14, i59_15, i59_18, i59_19, i59_22, i59_23, i59_26, i59_27, i59_28, i59_29, i59_30, i59_33, i59_34, i59_35, i59_36, i59_37, i59_38, i59_41, i59_42, i59_45, i59_46, i59_49, i59_50, i59_53, i59_54, i59_57, i59_60, i59_61, i59_62, i59_65, i59_66, i59_67, i59_70, i59_71, i59_72, i59_75, ix_pv_s, ix_pi_s, zpn, ix_po_s, ix_po_n, ix_ph_s, ix_bk_v, ix_bk_n, zcv, zcv_ne, ↓reduceIte, Nat.reduceEqDiff, zn_m1, zd_lt_p, zd_lt_n, zd_le_p, zd_le_n, zd_eq_p, zd_eq_n, zd_0_p, zd_0_n, zd_0lt_p, zd_0lt_n, zd_le0_p, zd_le0_n, zn_lt0, zn_le0, zn_add, zn_mul, zn_sub, zm_lt, zm_le, zm_eq, zb_1, zb_0, not_true_eq_false, not_false_eq_true, tp_c, tp_g0, tp_g1, tp_s1, tp_g2, tp_s2, tp_g3, tp_s3, tp_g4, tp_s4, t1, t2, t3, t4, hab, zn_div, hw, sp_c, a1, a2, r1, r2, fm_uk, fm_us, fm_un]
  · refine ck_row (q := r) b2 (by omega) (fun x hx => by simp only [fm_un hx])
  · exact ⟨by rw [fm_uk (by decide), fm_uk (by decide), fm_uk (by decide), r2, r1]; exact t1, fm_us, by rw [fm_uk (by decide), fm_us], by rw [fm_uk (by decide), fm_uk (by decide), fm_us]⟩
  · exact tf_trans (tf_trans (tf_trans (tf_trans (tf_cf c1) (tf_cf c2)) (tf_u hr)) (tf_u hr)) (tf_u hr)
end TP
