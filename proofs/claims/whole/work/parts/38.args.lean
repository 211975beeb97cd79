/-! ===== arguments ===== -/
--need 37.inv
/-- a names one of n -/
def inS (a : Int32) (n : Nat) : Prop := ∃ i, i < n ∧ a = nI i
theorem inS_p {i n : Nat} (h : i < n) : inS (nI i) n := ⟨i, h, rfl⟩
theorem inS_n {a : Int32} {n : Nat} (h : ¬ inS a n) : a < 0 ∨ ∃ k, n ≤ k ∧ k < 2147483648 ∧ a = nI k := by
  rcases zn_of a with h0 | ⟨k, hk, rfl⟩
  · exact Or.inl h0
  · refine Or.inr ⟨k, ?_, hk, rfl⟩
    rcases Nat.lt_or_ge k n with h1 | h1
    · exact absurd (inS_p h1) h
    · exact h1
theorem in_nat {a : Int32} {lo hi : Nat} (h : nI lo ≤ a ∧ a ≤ nI hi) (h31 : hi < 2147483648) (hlo : lo < 2147483648) : ∃ k, lo ≤ k ∧ k ≤ hi ∧ a = nI k := by
  rcases zn_of a with h0 | ⟨k, hk, rfl⟩
  · have := h.1
    rw [zx_le h0 hlo] at this
    exact absurd this id
  · have h1 := h.1
    have h2 := h.2
    rw [zn_le hlo hk] at h1
    rw [zn_le hk h31] at h2
    exact ⟨k, h1, h2, rfl⟩
theorem in_p {k lo hi : Nat} (h1 : lo ≤ k) (h2 : k ≤ hi) (h31 : hi < 2147483648) : nI lo ≤ nI k ∧ nI k ≤ nI hi := by
  rw [zn_le (by omega) (by omega), zn_le (by omega) h31]
  exact ⟨h1, h2⟩
section AR
variable {X : ix_X} {d : Nat} {τ : List fm_D} {μ : fm_M} {S : Nat → Int32} {N : Nat → Nat} {C : Nat → List Nat} {Q : Nat → Nat} {n w : Nat}
theorem in_no {a : Int32} (h : ¬ inS a n) (hn : n < 2147483648) : ¬ (0 ≤ a ∧ a < nI n) := by
  rintro ⟨h1, h2⟩
  rcases inS_n h with h0 | ⟨k, hk, hk31, rfl⟩
  · exact Int32.lt_irrefl (Int32.lt_of_lt_of_le h0 h1)
  · rw [zn_lt hk31 hn] at h2
    omega
theorem cl_has {i sz r m : Nat} (hA : rwA r m) (hz : μ r 4 = nI sz) (hsz : sz < 10000) (hi : i < sz) : ix_call X d 28 [.ref r, .int (nI i)] (fm_W μ τ) = some (some (.int (nI 1)), fm_W μ τ) := by
  rw [rw_has hA hz hsz, if_pos ⟨nI_pos' (by omega), by rw [zn_lt (by omega) (by omega)]; exact hi⟩]
theorem cl_hasN {a : Int32} {sz r m : Nat} (hA : rwA r m) (hz : μ r 4 = nI sz) (hsz : sz < 10000) (hi : ¬ inS a sz) : ix_call X d 28 [.ref r, .int a] (fm_W μ τ) = some (some (.int (nI 0)), fm_W μ τ) := by
  rw [rw_has hA hz hsz, if_neg (in_no hi (by omega))]
theorem mo_is {a : Int32} {k n : Nat} (hn : n ≤ 6) (h : inS a n) : (nI 0 ≤ a ∧ a ≤ nI n - nI 1) := by
  obtain ⟨i, hi, rfl⟩ := h
  rw [zn_sub (by omega)]
  exact in_p (by omega) (by omega) (by omega)
theorem mo_isN {a : Int32} {n : Nat} (hn : n ≤ 6) (h : ¬ inS a n) : ¬ (nI 0 ≤ a ∧ a ≤ nI n - nI 1) := by
  rintro ⟨h1, h2⟩
  rcases Nat.eq_zero_or_pos n with h0 | h0
  · subst h0
    have e : nI 0 - nI 1 = (-1 : Int32) := by decide
    rw [e] at h2
    have := Int32.le_trans h1 h2
    exact absurd this (by decide)
  · rw [zn_sub h0] at h2
    obtain ⟨k, _, hk, rfl⟩ := in_nat ⟨h1, h2⟩ (by omega) (by decide)
    exact h (inS_p (by omega))
theorem mo_isTree {a : Int32} (h : μ 68 0 = nI n) (hn : n ≤ 6) (hi : inS a n) : ix_call X (d + 1) 151 [.ref 67, .int a] (fm_W μ τ) = some (some (.int (nI 1)), fm_W μ τ) := by
  have := mo_is (k := 0) hn hi
  simp (disch := first | assumption | omega | decide) only [e151, i151_0, i151_1, i151_2, i151_3, i151_6, i151_7, i151_8, i151_9, i151_10, i151_13, ix_pv_s, ix_pi_s, zpn, ix_po_s, ix_po_n, ix_ph_s, ix_bk_v, ix_bk_n, zcv, zcv_ne, ↓reduceIte, Nat.reduceEqDiff, mo_c, mo_g0, mo_s0, mo_g1, mo_g2, mo_g3, mo_s3, mo_g4, mo_s4, mo_g5, mo_s5, mo_g6, mo_s6, mo_g7, mo_s7, mo_g8, mo_s8, mo_g9, mo_g10, mo_g11, mo_g12, mo_g13, mo_s13, mo_g14, mo_s14, mo_g15, mo_s15, mo_g16, mo_g17, mo_s17, mo_g18, mo_s18, mo_g19, mo_g20, mo_s20, mo_g21, mo_s21, mo_g22, mo_s22, mo_g23, mo_s23, ra_25, wa_25, al_25, ra_68, wa_68, al_68, ra_69, wa_69, al_69, ra_70, wa_70, al_70, ra_71, wa_71, al_71, ra_72, wa_72, al_72, ra_73, wa_73, al_73, ra_74, wa_74, al_74, ra_75, wa_75, al_75, h, mo_in, this, and_self]
theorem mo_isTreeN {a : Int32} (h : μ 68 0 = nI n) (hn : n ≤ 6) (hi : ¬ inS a n) : ix_call X (d + 1) 151 [.ref 67, .int a] (fm_W μ τ) = some (some (.int (nI 0)), fm_W μ τ) := by
  have := mo_isN hn hi
  simp (disch := first | assumption | omega | decide) only [e151, i151_0, i151_1, i151_2, i151_3, i151_6, i151_7, i151_8, i151_9, i151_10, i151_13, ix_pv_s, ix_pi_s, zpn, ix_po_s, ix_po_n, ix_ph_s, ix_bk_v, ix_bk_n, zcv, zcv_ne, ↓reduceIte, Nat.reduceEqDiff, mo_c, mo_g0, mo_s0, mo_g1, mo_g2, mo_g3, mo_s3, mo_g4, mo_s4, mo_g5, mo_s5, mo_g6, mo_s6, mo_g7, mo_s7, mo_g8, mo_s8, mo_g9, mo_g10, mo_g11, mo_g12, mo_g13, mo_s13, mo_g14, mo_s14, mo_g15, mo_s15, mo_g16, mo_g17, mo_s17, mo_g18, mo_s18, mo_g19, mo_g20, mo_s20, mo_g21, mo_s21, mo_g22, mo_s22, mo_g23, mo_s23, ra_25, wa_25, al_25, ra_68, wa_68, al_68, ra_69, wa_69, al_69, ra_70, wa_70, al_70, ra_71, wa_71, al_71, ra_72, wa_72, al_72, ra_73, wa_73, al_73, ra_74, wa_74, al_74, ra_75, wa_75, al_75, h, mo_in, this]
theorem mo_isWalker {a : Int32} (h : μ 68 1 = nI n) (hn : n ≤ 6) (hi : inS a n) : ix_call X (d + 1) 165 [.ref 67, .int a] (fm_W μ τ) = some (some (.int (nI 1)), fm_W μ τ) := by
  have := mo_is (k := 0) hn hi
  simp (disch := first | assumption | omega | decide) only [e165, i165_0, i165_1, i165_2, i165_3, i165_6, i165_7, i165_8, i165_9, i165_10, i165_13, ix_pv_s, ix_pi_s, zpn, ix_po_s, ix_po_n, ix_ph_s, ix_bk_v, ix_bk_n, zcv, zcv_ne, ↓reduceIte, Nat.reduceEqDiff, mo_c, mo_g0, mo_s0, mo_g1, mo_g2, mo_g3, mo_s3, mo_g4, mo_s4, mo_g5, mo_s5, mo_g6, mo_s6, mo_g7, mo_s7, mo_g8, mo_s8, mo_g9, mo_g10, mo_g11, mo_g12, mo_g13, mo_s13, mo_g14, mo_s14, mo_g15, mo_s15, mo_g16, mo_g17, mo_s17, mo_g18, mo_s18, mo_g19, mo_g20, mo_s20, mo_g21, mo_s21, mo_g22, mo_s22, mo_g23, mo_s23, ra_25, wa_25, al_25, ra_68, wa_68, al_68, ra_69, wa_69, al_69, ra_70, wa_70, al_70, ra_71, wa_71, al_71, ra_72, wa_72, al_72, ra_73, wa_73, al_73, ra_74, wa_74, al_74, ra_75, wa_75, al_75, h, mo_in, this, and_self]
theorem mo_isWalkerN {a : Int32} (h : μ 68 1 = nI n) (hn : n ≤ 6) (hi : ¬ inS a n) : ix_call X (d + 1) 165 [.ref 67, .int a] (fm_W μ τ) = some (some (.int (nI 0)), fm_W μ τ) := by
  have := mo_isN hn hi
  simp (disch := first | assumption | omega | decide) only [e165, i165_0, i165_1, i165_2, i165_3, i165_6, i165_7, i165_8, i165_9, i165_10, i165_13, ix_pv_s, ix_pi_s, zpn, ix_po_s, ix_po_n, ix_ph_s, ix_bk_v, ix_bk_n, zcv, zcv_ne, ↓reduceIte, Nat.reduceEqDiff, mo_c, mo_g0, mo_s0, mo_g1, mo_g2, mo_g3, mo_s3, mo_g4, mo_s4, mo_g5, mo_s5, mo_g6, mo_s6, mo_g7, mo_s7, mo_g8, mo_s8, mo_g9, mo_g10, mo_g11, mo_g12, mo_g13, mo_s13, mo_g14, mo_s14, mo_g15, mo_s15, mo_g16, mo_g17, mo_s17, mo_g18, mo_s18, mo_g19, mo_g20, mo_s20, mo_g21, mo_s21, mo_g22, mo_s22, mo_g23, mo_s23, ra_25, wa_25, al_25, ra_68, wa_68, al_68, ra_69, wa_69, al_69, ra_70, wa_70, al_70, ra_71, wa_71, al_71, ra_72, wa_72, al_72, ra_73, wa_73, al_73, ra_74, wa_74, al_74, ra_75, wa_75, al_75, h, mo_in, this]
end AR
