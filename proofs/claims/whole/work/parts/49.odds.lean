/-! ===== fractions in lowest terms ===== -/
--need 48.stay
theorem lg_0 {x : Nat} (hx : x < 2147483648) : (lg_cmp (lN x) 0 = 0) = (x = 0) := by
  have e : (0 : Int64) = lN 0 := rfl
  unfold lg_cmp
  rw [e]
  apply propext
  by_cases h : x = 0
  · subst h
    simp
  · have h1 : lN x > lN 0 := (pk_lLT (show 0 < 2 ^ 63 by decide) (show x < 2 ^ 63 by omega)).mpr (by omega)
    rw [if_pos h1]
    constructor
    · intro hh
      exact absurd hh (by decide)
    · intro hh
      exact absurd hh h
section LO
variable {X : ix_X} {d : Nat} {H : ix_H}
theorem cl_lowL {A B ask g : Nat} {x2 : Option Value} (hA : A < 2147483648) (hB : B ≤ 60) (hB1 : 1 ≤ B) (hk : ask < 2147483648) (hg : g = Nat.gcd A B) : ∀ e : Nat, 1 ≤ e → g ≤ e → e ≤ B → ix_sem X d 118 13 [some (.int (nI A)), some (.int (nI B)), x2, some (.int (nI ask)), some (.int (nI e))] [] H = some (some (.long (lN (ask / g))), H)
  | 0, h1, _, _ => absurd h1 (by decide)
  | e + 1, h1, h2, h3 => by
    have hg1 : 0 < g := by rw [hg]; exact Nat.gcd_pos_of_pos_right A (by omega)
    rcases Nat.eq_zero_or_pos e with h0 | h0
    · subst h0
      have hg0 : g = 1 := by omega
      rw [hg0, Nat.div_one]
      simp (disch := first | assumption | omega | decide) only [i118_0, i118_1, i118_4, i118_5, i118_8, i118_9, i118_10, i118_11, i118_13, i118_15, i118_16, i118_19, i118_20, i118_22, i118_23, i118_26, i118_27, i118_29, i118_30, i118_33, i118_34, i118_36, i118_37, i118_38, i118_39, i118_42, i118_45, i118_46, i118_47, ix_pv_s, ix_pi_s, zpn, ix_po_s, ix_po_n, ix_ph_s, ix_bk_v, ix_bk_n, zcv, zcv_ne, ↓reduceIte, Nat.reduceEqDiff, zn_m1, zd_lt_p, zd_lt_n, zd_le_p, zd_le_n, zd_eq_p, zd_eq_n, zd_0_p, zd_0_n, zd_0lt_p, zd_0lt_n, zd_le0_p, zd_le0_n, zn_lt0, zn_le0, zn_add, zn_mul, zn_sub, zm_lt, zm_le, zm_eq, zb_1, zb_0, not_true_eq_false, not_false_eq_true, nI_l]
    · have d1 := Nat.div_mul_le_self A (e + 1)
      have d2 := Nat.div_mul_le_self B (e + 1)
      have m1 : A % (e + 1) < 2147483648 := Nat.lt_of_lt_of_le (Nat.mod_lt A (by omega)) (by omega)
      have m2 : B % (e + 1) < 2147483648 := Nat.lt_of_lt_of_le (Nat.mod_lt B (by omega)) (by omega)
      have hy : ¬ nI (e + 1) = 0 := by rw [zn_eq0 (by omega)]; omega
      have ih := cl_lowL (x2 := x2) hA hB hB1 hk hg e h0
      have hs : nI (e + 1) + (-1) = nI e := pk_m1 e
      by_cases q1 : A % (e + 1) = 0
      · by_cases q2 : B % (e + 1) = 0
        · have hd : e + 1 ∣ g := by rw [hg]; exact Nat.dvd_gcd (Nat.dvd_of_mod_eq_zero q1) (Nat.dvd_of_mod_eq_zero q2)
          have hge : g = e + 1 := Nat.le_antisymm h2 (Nat.le_of_dvd hg1 hd)
          have hl : ask / g < 2147483648 := Nat.lt_of_le_of_lt (Nat.div_le_self _ _) hk
          rw [hge] at hl ⊢
          simp (disch := first | assumption | omega | decide) only [i118_0, i118_1, i118_4, i118_5, i118_8, i118_9, i118_10, i118_11, i118_13, i118_15, i118_16, i118_19, i118_20, i118_22, i118_23, i118_26, i118_27, i118_29, i118_30, i118_33, i118_34, i118_36, i118_37, i118_38, i118_39, i118_42, i118_45, i118_46, i118_47, ix_pv_s, ix_pi_s, zpn, ix_po_s, ix_po_n, ix_ph_s, ix_bk_v, ix_bk_n, zcv, zcv_ne, ↓reduceIte, Nat.reduceEqDiff, zn_m1, zd_lt_p, zd_lt_n, zd_le_p, zd_le_n, zd_eq_p, zd_eq_n, zd_0_p, zd_0_n, zd_0lt_p, zd_0lt_n, zd_le0_p, zd_le0_n, zn_lt0, zn_le0, zn_add, zn_mul, zn_sub, zm_lt, zm_le, zm_eq, zb_1, zb_0, not_true_eq_false, not_false_eq_true, zn_div, zr_mod, q1, q2, not_true_eq_false, nI_l]
        · have hne : g ≠ e + 1 := fun hh => q2 (by rw [← hh, hg]; exact Nat.mod_eq_zero_of_dvd (Nat.gcd_dvd_right A B))
          have q2' : 0 < B % (e + 1) := Nat.pos_of_ne_zero q2
          rw [← ih (by omega) (by omega), i118_13]
          simp (disch := first | assumption | omega | decide) only [i118_0, i118_1, i118_4, i118_5, i118_8, i118_9, i118_10, i118_11, i118_15, i118_16, i118_19, i118_20, i118_22, i118_23, i118_26, i118_27, i118_29, i118_30, i118_33, i118_34, i118_36, i118_37, i118_38, i118_39, i118_42, i118_45, i118_46, i118_47, ix_pv_s, ix_pi_s, zpn, ix_po_s, ix_po_n, ix_ph_s, ix_bk_v, ix_bk_n, zcv, zcv_ne, ↓reduceIte, Nat.reduceEqDiff, hs, zn_m1, zd_lt_p, zd_lt_n, zd_le_p, zd_le_n, zd_eq_p, zd_eq_n, zd_0_p, zd_0_n, zd_0lt_p, zd_0lt_n, zd_le0_p, zd_le0_n, zn_lt0, zn_le0, zn_add, zn_mul, zn_sub, zm_lt, zm_le, zm_eq, zb_1, zb_0, not_true_eq_false, not_false_eq_true, zn_div, zr_mod, q1, not_true_eq_false]
      · have hne : g ≠ e + 1 := fun hh => q1 (by rw [← hh, hg]; exact Nat.mod_eq_zero_of_dvd (Nat.gcd_dvd_left A B))
        have q1' : 0 < A % (e + 1) := Nat.pos_of_ne_zero q1
        rw [← ih (by omega) (by omega), i118_13]
        simp (disch := first | assumption | omega | decide) only [i118_0, i118_1, i118_4, i118_5, i118_8, i118_9, i118_10, i118_11, i118_15, i118_16, i118_19, i118_20, i118_22, i118_23, i118_26, i118_27, i118_29, i118_30, i118_33, i118_34, i118_36, i118_37, i118_38, i118_39, i118_42, i118_45, i118_46, i118_47, ix_pv_s, ix_pi_s, zpn, ix_po_s, ix_po_n, ix_ph_s, ix_bk_v, ix_bk_n, zcv, zcv_ne, ↓reduceIte, Nat.reduceEqDiff, hs, zn_m1, zd_lt_p, zd_lt_n, zd_le_p, zd_le_n, zd_eq_p, zd_eq_n, zd_0_p, zd_0_n, zd_0lt_p, zd_0lt_n, zd_le0_p, zd_le0_n, zn_lt0, zn_le0, zn_add, zn_mul, zn_sub, zm_lt, zm_le, zm_eq, zb_1, zb_0, not_true_eq_false, not_false_eq_true, zn_div, zr_mod]
theorem cl_lowest {A B p : Nat} (hA : A < 2147483648) (hB : B ≤ 60) (hB1 : 1 ≤ B) (hp : p ≤ 1) : ix_call X d 118 [.int (nI A), .int (nI B), .int (nI p)] H = some (some (.long (lN ((if p = 0 then A else B) / Nat.gcd A B))), H) := by
  have hg : Nat.gcd A B ≤ B := Nat.le_of_dvd (by omega) (Nat.gcd_dvd_right A B)
  rcases (by omega : p = 0 ∨ p = 1) with rfl | rfl
  · have := cl_lowL (X := X) (d := d) (H := H) (x2 := some (.int (nI 0))) hA hB hB1 hA rfl B hB1 hg (Nat.le_refl _)
    rw [if_pos rfl, ← this]
    simp (disch := first | assumption | omega | decide) only [e118, i118_0, i118_1, i118_4, i118_5, i118_8, i118_9, i118_10, i118_11, i118_15, i118_16, i118_19, i118_20, i118_22, i118_23, i118_26, i118_27, i118_29, i118_30, i118_33, i118_34, i118_36, i118_37, i118_38, i118_39, i118_42, i118_45, i118_46, i118_47, ix_pv_s, ix_pi_s, zpn, ix_po_s, ix_po_n, ix_ph_s, ix_bk_v, ix_bk_n, zcv, zcv_ne, ↓reduceIte, Nat.reduceEqDiff, zn_m1, zd_lt_p, zd_lt_n, zd_le_p, zd_le_n, zd_eq_p, zd_eq_n, zd_0_p, zd_0_n, zd_0lt_p, zd_0lt_n, zd_le0_p, zd_le0_n, zn_lt0, zn_le0, zn_add, zn_mul, zn_sub, zm_lt, zm_le, zm_eq, zb_1, zb_0, not_true_eq_false, not_false_eq_true]
  · have := cl_lowL (X := X) (d := d) (H := H) (x2 := some (.int (nI 1))) (ask := B) hA hB hB1 (by omega) rfl B hB1 hg (Nat.le_refl _)
    rw [if_neg (by decide), ← this]
    simp (disch := first | assumption | omega | decide) only [e118, i118_0, i118_1, i118_4, i118_5, i118_8, i118_9, i118_10, i118_11, i118_15, i118_16, i118_19, i118_20, i118_22, i118_23, i118_26, i118_27, i118_29, i118_30, i118_33, i118_34, i118_36, i118_37, i118_38, i118_39, i118_42, i118_45, i118_46, i118_47, ix_pv_s, ix_pi_s, zpn, ix_po_s, ix_po_n, ix_ph_s, ix_bk_v, ix_bk_n, zcv, zcv_ne, ↓reduceIte, Nat.reduceEqDiff, zn_m1, zd_lt_p, zd_lt_n, zd_le_p, zd_le_n, zd_eq_p, zd_eq_n, zd_0_p, zd_0_n, zd_0lt_p, zd_0lt_n, zd_le0_p, zd_le0_n, zn_lt0, zn_le0, zn_add, zn_mul, zn_sub, zm_lt, zm_le, zm_eq, zb_1, zb_0, not_true_eq_false, not_false_eq_true]
theorem mo_lowL {A B p : Nat} (hA : A < 2147483648) (hB : B < 2147483648) (hp : p ≤ 1) : ∀ (f x y : Nat) (x9 x10 : Option Value), y ≤ f → x < 2147483648 → y < 2147483648 → 0 < Nat.gcd x y → ix_sem X d 204 6 [some (.long (lN A)), none, some (.long (lN B)), none, some (.int (nI p)), some (.long (lN x)), none, some (.long (lN y)), none, x9, x10] [] H = some (some (.long (lN ((if p = 0 then A else B) / Nat.gcd x y))), H)
  | 0, x, y, x9, x10, hf, hx, hy, hg => by
    have y0 : y = 0 := by omega
    subst y0
    rw [Nat.gcd_zero_right] at hg ⊢
    have hn : ¬ lN x = 0 := fun e => by
      have := (pk_lEQ (show x < 2 ^ 63 by omega) (show 0 < 2 ^ 63 by decide)).mp e
      omega
    have e0 : (lg_cmp (lN 0) 0 = 0) = True := by rw [lg_0 (by decide)]; exact eq_true rfl
    rcases (by omega : p = 0 ∨ p = 1) with rfl | rfl
    · rw [if_pos rfl]
      simp (disch := first | assumption | omega | decide) only [i204_0, i204_1, i204_3, i204_4, i204_6, i204_8, i204_9, i204_10, i204_13, i204_15, i204_17, i204_18, i204_20, i204_22, i204_24, i204_26, i204_28, i204_31, i204_33, i204_36, i204_37, i204_40, i204_41, i204_43, i204_44, ix_pv_s, ix_pi_s, zpn, ix_po_s, ix_po_n, ix_ph_s, ix_bk_v, ix_bk_n, zcv, zcv_ne, ↓reduceIte, Nat.reduceEqDiff, zn_m1, zd_lt_p, zd_lt_n, zd_le_p, zd_le_n, zd_eq_p, zd_eq_n, zd_0_p, zd_0_n, zd_0lt_p, zd_0lt_n, zd_le0_p, zd_le0_n, zn_lt0, zn_le0, zn_add, zn_mul, zn_sub, zm_lt, zm_le, zm_eq, zb_1, zb_0, not_true_eq_false, not_false_eq_true, e0, pk_lDiv]
    · rw [if_neg (by decide)]
      simp (disch := first | assumption | omega | decide) only [i204_0, i204_1, i204_3, i204_4, i204_6, i204_8, i204_9, i204_10, i204_13, i204_15, i204_17, i204_18, i204_20, i204_22, i204_24, i204_26, i204_28, i204_31, i204_33, i204_36, i204_37, i204_40, i204_41, i204_43, i204_44, ix_pv_s, ix_pi_s, zpn, ix_po_s, ix_po_n, ix_ph_s, ix_bk_v, ix_bk_n, zcv, zcv_ne, ↓reduceIte, Nat.reduceEqDiff, zn_m1, zd_lt_p, zd_lt_n, zd_le_p, zd_le_n, zd_eq_p, zd_eq_n, zd_0_p, zd_0_n, zd_0lt_p, zd_0lt_n, zd_le0_p, zd_le0_n, zn_lt0, zn_le0, zn_add, zn_mul, zn_sub, zm_lt, zm_le, zm_eq, zb_1, zb_0, not_true_eq_false, not_false_eq_true, e0, pk_lDiv]
  | f + 1, x, y, x9, x10, hf, hx, hy, hg => by
    by_cases h0 : y = 0
    · subst h0
      rw [Nat.gcd_zero_right] at hg ⊢
      have hn : ¬ lN x = 0 := fun e => by
        have := (pk_lEQ (show x < 2 ^ 63 by omega) (show 0 < 2 ^ 63 by decide)).mp e
        omega
      have e0 : (lg_cmp (lN 0) 0 = 0) = True := by rw [lg_0 (by decide)]; exact eq_true rfl
      rcases (by omega : p = 0 ∨ p = 1) with rfl | rfl
      · rw [if_pos rfl]
        simp (disch := first | assumption | omega | decide) only [i204_0, i204_1, i204_3, i204_4, i204_6, i204_8, i204_9, i204_10, i204_13, i204_15, i204_17, i204_18, i204_20, i204_22, i204_24, i204_26, i204_28, i204_31, i204_33, i204_36, i204_37, i204_40, i204_41, i204_43, i204_44, ix_pv_s, ix_pi_s, zpn, ix_po_s, ix_po_n, ix_ph_s, ix_bk_v, ix_bk_n, zcv, zcv_ne, ↓reduceIte, Nat.reduceEqDiff, zn_m1, zd_lt_p, zd_lt_n, zd_le_p, zd_le_n, zd_eq_p, zd_eq_n, zd_0_p, zd_0_n, zd_0lt_p, zd_0lt_n, zd_le0_p, zd_le0_n, zn_lt0, zn_le0, zn_add, zn_mul, zn_sub, zm_lt, zm_le, zm_eq, zb_1, zb_0, not_true_eq_false, not_false_eq_true, e0, pk_lDiv]
      · rw [if_neg (by decide)]
        simp (disch := first | assumption | omega | decide) only [i204_0, i204_1, i204_3, i204_4, i204_6, i204_8, i204_9, i204_10, i204_13, i204_15, i204_17, i204_18, i204_20, i204_22, i204_24, i204_26, i204_28, i204_31, i204_33, i204_36, i204_37, i204_40, i204_41, i204_43, i204_44, ix_pv_s, ix_pi_s, zpn, ix_po_s, ix_po_n, ix_ph_s, ix_bk_v, ix_bk_n, zcv, zcv_ne, ↓reduceIte, Nat.reduceEqDiff, zn_m1, zd_lt_p, zd_lt_n, zd_le_p, zd_le_n, zd_eq_p, zd_eq_n, zd_0_p, zd_0_n, zd_0lt_p, zd_0lt_n, zd_le0_p, zd_le0_n, zn_lt0, zn_le0, zn_add, zn_mul, zn_sub, zm_lt, zm_le, zm_eq, zb_1, zb_0, not_true_eq_false, not_false_eq_true, e0, pk_lDiv]
    · have hn : ¬ lN y = 0 := fun e => h0 ((pk_lEQ (show y < 2 ^ 63 by omega) (show 0 < 2 ^ 63 by decide)).mp e)
      have e0 : (lg_cmp (lN y) 0 = 0) = False := by rw [lg_0 hy]; exact eq_false h0
      have hm : x % y < y := Nat.mod_lt x (by omega)
      have hge : Nat.gcd y (x % y) = Nat.gcd x y := by rw [Nat.gcd_comm x y, Nat.gcd_rec y x, Nat.gcd_comm]
      have hr : lN x - lN x / lN y * lN y = lN (x % y) := pk_lRem (by omega) (by omega) (by omega)
      have ih := mo_lowL (A := A) (B := B) hA hB hp f y (x % y) (some (.long (lN (x % y)))) none (by omega) hy (by omega) (by rw [hge]; exact hg)
      rw [← hge, ← ih, i204_6]
      simp (disch := first | assumption | omega | decide) only [i204_0, i204_1, i204_3, i204_4, i204_8, i204_9, i204_10, i204_13, i204_15, i204_17, i204_18, i204_20, i204_22, i204_24, i204_26, i204_28, i204_31, i204_33, i204_36, i204_37, i204_40, i204_41, i204_43, i204_44, ix_pv_s, ix_pi_s, zpn, ix_po_s, ix_po_n, ix_ph_s, ix_bk_v, ix_bk_n, zcv, zcv_ne, ↓reduceIte, Nat.reduceEqDiff, e0, hr]
theorem mo_lowest {A B p : Nat} (hA : A < 2147483648) (hB : B < 2147483648) (hB1 : 1 ≤ B) (hp : p ≤ 1) : ix_call X d 204 [.long (lN A), .long (lN B), .int (nI p)] H = some (some (.long (lN ((if p = 0 then A else B) / Nat.gcd A B))), H) := by
  have := mo_lowL (X := X) (d := d) (H := H) hA hB hp B A B none none (Nat.le_refl _) hA hB (Nat.gcd_pos_of_pos_right A (by omega))
  rw [← this]
  simp (disch := first | assumption | omega | decide) only [e204, i204_0, i204_1, i204_3, i204_4, i204_8, i204_9, i204_10, i204_13, i204_15, i204_17, i204_18, i204_20, i204_22, i204_24, i204_26, i204_28, i204_31, i204_33, i204_36, i204_37, i204_40, i204_41, i204_43, i204_44, ix_pv_s, ix_pi_s, zpn, ix_po_s, ix_po_n, ix_ph_s, ix_bk_v, ix_bk_n, zcv, zcv_ne, ↓reduceIte, Nat.reduceEqDiff]
end LO
