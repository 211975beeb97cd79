/-! ===== straight ===== -/
--need 38.args
section ST9
variable {X : ix_X} {d : Nat} {τ : List fm_D} {μ : fm_M} {S : Nat → Int32} {N : Nat → Nat} {C : Nat → List Nat} {Q : Nat → Nat}
theorem QI_S (h : QI μ τ S N C Q) {k : Nat} (hk : k < 11) (h7 : k ≠ 7) : S k = nI (N k) := h.1.1 k hk h7
theorem QI_nb (h : QI μ τ S N C Q) : nbS μ := ⟨h.2.1.1.1.1.2.1, h.2.1.1.1.1.2.2⟩
theorem QI_now (h : QI μ τ S N C Q) : μ 2 0 = nI (N 8) := h.2.1.1.1.2.1.trans (QI_S h (by decide) (by decide))
theorem QI_home (h : QI μ τ S N C Q) : μ 2 1 = nI (N 9) := h.2.1.1.1.2.2.1.trans (QI_S h (by decide) (by decide))
theorem QI_seen (h : QI μ τ S N C Q) : μ 2 2 = nI (N 10) := h.2.1.1.1.2.2.2.1.trans (QI_S h (by decide) (by decide))
theorem QI_n (h : QI μ τ S N C Q) : μ 2 4 = nI (N 0) := h.2.1.1.1.2.2.2.2.2.trans (QI_S h (by decide) (by decide))
theorem QI_wa (h : QI μ τ S N C Q) : waS μ S (N 1) := by
  obtain ⟨⟨a, b, c⟩, e⟩ := h.2.1.1.2.2.1
  exact ⟨a, b, c.trans (QI_S h (by decide) (by decide)), h.1.2.1.2.1, e⟩
theorem QI_he (h : QI μ τ S N C Q) : heS μ S (26 + 4 * N 2) := by
  obtain ⟨_, b, c, e, f, g⟩ := h.2.1.2.2.2.1
  have h7 := h.1.2.2.1
  have h5 := h.1.2.1.2.2.1
  unfold heS skS wtS
  rcases Nat.eq_zero_or_pos (N 2) with h0 | h0
  · rw [if_pos h0] at h7
    rw [h0] at b ⊢
    rw [if_pos h7, if_pos h7]
    exact ⟨pk_O (by decide), b, e, f⟩
  · rw [if_neg (by omega)] at h7
    have hn : ¬ S 7 = -1 := by rw [h7, zm_eq (by omega)]; exact id
    obtain ⟨_, g2, g3⟩ := g (N 2 - 1) (by omega)
    rw [show 30 + 4 * (N 2 - 1) = 26 + 4 * N 2 by omega] at g2 g3
    rw [if_neg hn, if_neg hn, h7, nI_clamp (show N 2 - 1 < 2 ^ 31 by omega)]
    exact ⟨pk_O (by omega), b, g2, g3⟩
theorem QI_pace (h : QI μ τ S N C Q) {i : Nat} (hi : i < N 1) : ∃ m, 1 ≤ m ∧ m ≤ 20 ∧ S (59 + i) = nI m := (h.1.2.2.2.2.1 i hi).1
theorem QI_b (h : QI μ τ S N C Q) : N 0 ≤ 6 ∧ N 1 ≤ 5 ∧ N 2 ≤ 5 ∧ N 3 ≤ 4 ∧ N 4 ≤ 4 ∧ N 5 ≤ 8 ∧ N 6 ≤ 100 ∧ N 8 ≤ 999 ∧ N 9 ≤ 99 ∧ N 10 ≤ 99 := h.1.2.1
theorem QI_68 (h : QI μ τ S N C Q) : μ 68 = S := h.2.2.2.2
theorem wkM_le {pace pl to : Nat} (h1 : 1 ≤ pace) (hp : pl ≤ 99) (ht : to ≤ 99) : wkM pace pl to ≤ 99 := by
  unfold wkM
  have hy : (if pl ≤ to then to - pl else pl - to) ≤ 99 := by split <;> omega
  generalize (if pl ≤ to then to - pl else pl - to) = y at *
  have : (y + pace - 1) / pace < 100 := by
    rw [Nat.div_lt_iff_lt_mul (by omega)]
    have : 100 * 1 ≤ 100 * pace := Nat.mul_le_mul_left 100 h1
    have h2 : 100 * pace = 99 * pace + pace := by omega
    have h3 : 99 * 1 ≤ 99 * pace := Nat.mul_le_mul_left 99 h1
    omega
  omega
theorem cl_setOut {r i pace : Nat} (hr : tpO r) (h : QI μ τ S N C Q) (hi : i < N 1) (hp : S (59 + i) = nI pace) (h1 : 1 ≤ pace) (h2 : pace ≤ 20) : ∃ μ' : fm_M, ix_call X (d + 2) 88 [.ref 0, .ref r, .int (nI i)] (fm_W μ τ) = some (none, fm_W μ' τ) ∧ tri μ' r pace 0 (N 8) (nI 0) ∧ QI μ' τ S N C Q ∧ tf r μ μ' := by
  have k1 := cl_pace (X := X) (d := d) (τ := τ) (QI_wa h) hi
  have k2 := cl_now (X := X) (d := d) (τ := τ) (QI_nb h)
  rw [hp] at k1
  rw [QI_now h] at k2
  obtain ⟨μ', a, b, c⟩ := tp_setOut (X := X) (d := d + 1) (τ := τ) (μ := μ) (mn := N 8) hr h1 (by omega)
  have hf := tf_row hr c
  have hr6 := tp_cases hr
  refine ⟨μ', ?_, b, QI_tf hr h hf (ck_row h.2.2.1 (q := r) (by omega) c), hf⟩
  simp (disch := first | assumption | omega | decide) only [e88, i88_0, i88_0n, i88_1, i88_2, i88_3, i88_6, i88_7, i88_10, i88_13, ix_pv_s, ix_pi_s, zpn, ix_po_s, ix_po_n, ix_ph_s, ix_bk_v, ix_bk_n, zcv, zcv_ne, ↓reduceIte, Nat.reduceEqDiff, zn_m1, zd_lt_p, zd_lt_n, zd_le_p, zd_le_n, zd_eq_p, zd_eq_n, zd_0_p, zd_0_n, zd_0lt_p, zd_0lt_n, zd_le0_p, zd_le0_n, zn_lt0, zn_le0, zn_add, zn_mul, zn_sub, zm_lt, zm_le, zm_eq, zb_1, zb_0, not_true_eq_false, not_false_eq_true, t0_c, tp_c, k1, k2, a]
/-- the walk home of walker i from the start: what is asked of it -/
def stS (S : Nat → Int32) (N : Nat → Nat) (cs : List Nat) (pace i what : Nat) : Int32 := tlS S (S (64 + i)) what (N 8 + wkM pace 0 (N 9) - N 8) (nI 0 + (sS (rn S cs 6) (N 8 + wkM pace 0 (N 9)) - sS (rn S cs 6) (N 8)))
theorem cl_straight {i what pace : Nat} (h : QI μ τ S N C Q) (hi : i < N 1) (hp : S (59 + i) = nI pace) (h1 : 1 ≤ pace) (h2 : pace ≤ 20) (hwh : what ≤ 2) : ∃ μ' : fm_M, ix_call X (d + 4) 87 [.ref 0, .int (nI i), .int (nI what)] (fm_W μ τ) = some (some (.int (stS S N (csN N C) pace i what)), fm_W μ' τ) ∧ QI μ' τ S N C Q := by
  obtain ⟨b0, b1, b2, b3, b4, b5, b6, b8, b9, b10⟩ := QI_b h
  obtain ⟨μ1, a1, t1, q1, f1⟩ := cl_setOut (X := X) (d := d + 1) (r := 64) rfl h hi hp h1 h2
  have hm := wkM_le (pl := 0) (to := N 9) h1 (by omega) b9
  obtain ⟨μ2, a2, c2, t2, f2⟩ := tp_walk (X := X) (d := d + 1) (τ := τ) (r := 64) (to := N 9) rfl q1.2.2.1 t1 h1 (by omega) (by omega) b9 (by omega)
  have q2 := QI_tf (r := 64) rfl q1 f2 c2
  have k1 := cl_number (X := X) (d := d + 2) (τ := τ) (k := 1) (QI_nb q1) (by decide)
  rw [QI_home q1] at k1
  have k2 := cl_outcome (X := X) (d := d + 1) (τ := τ) (what := what) (r := 64) rfl t2 (QI_nb q2) (QI_now q2) (by omega) (QI_wa q2) hi (QI_he q2) hwh
  have hh := cl_has (X := X) (d := d + 3) (τ := τ) (μ := μ) wa_A (QI_wa h).2.2.1 (by omega) hi
  have hin : nI 0 ≤ nI what ∧ nI what ≤ nI 2 := in_p (by omega) hwh (by omega)
  have hO : rwO 7 := rfl
  have hT : tpO 64 := rfl
  refine ⟨μ2, ?_, q2⟩
  simp (disch := first | assumption | omega | decide) only [e87, i87_0, i87_1, i87_4, i87_5, i87_8, i87_11, i87_12, i87_13, i87_14, i87_17, i87_20, i87_21, i87_22, i87_23, i87_24, i87_27, i87_28, i87_31, i87_32, i87_35, i87_36, i87_37, i87_40, i87_43, i87_44, i87_45, i87_48, i87_49, i87_50, i87_53, ix_pv_s, ix_pi_s, zpn, ix_po_s, ix_po_n, ix_ph_s, ix_bk_v, ix_bk_n, zcv, zcv_ne, ↓reduceIte, Nat.reduceEqDiff, zn_m1, zd_lt_p, zd_lt_n, zd_le_p, zd_le_n, zd_eq_p, zd_eq_n, zd_0_p, zd_0_n, zd_0lt_p, zd_0lt_n, zd_le0_p, zd_le0_n, zn_lt0, zn_le0, zn_add, zn_mul, zn_sub, zm_lt, zm_le, zm_eq, zb_1, zb_0, not_true_eq_false, not_false_eq_true, t0_c, t0_g0, t0_g1, t0_g2, t0_g3, t0_g4, t0_g5, t0_g6, t0_g7, t0_g8, t0_g9, t0_g10, t0_s11, t0_g12, t0_s12, t0_g13, t0_g14, t0_g15, t0_g16, t0_c, rw_c, tp_c, hh, cl_within, hin, and_self, a1, k1, a2, k2, stS]
end ST9
