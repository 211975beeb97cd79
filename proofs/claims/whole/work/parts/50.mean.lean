/-! ===== odds, mean ===== -/
--need 49.odds
theorem add_tI {r x : Int32} (h1 : -100000000 ≤ r.toInt) (h2 : r.toInt ≤ 100000000) (h3 : -100000000 ≤ x.toInt) (h4 : x.toInt ≤ 100000000) : (r + x).toInt = r.toInt + x.toInt := by
  rw [Int32.toInt_add]
  apply Int.bmod_eq_of_le <;> omega
theorem sub_tI {r x : Int32} (h1 : -100000000 ≤ r.toInt) (h2 : r.toInt ≤ 100000000) (h3 : -100000000 ≤ x.toInt) (h4 : x.toInt ≤ 100000000) : (r - x).toInt = r.toInt - x.toInt := by
  rw [Int32.toInt_sub]
  apply Int.bmod_eq_of_le <;> omega
theorem ev_bd {F : Nat → Int32} : ∀ (cs : List Nat) (st : List Bool) (r : Int32) (b : Nat), b + 100 * cs.length ≤ 1000000 → -(b : Int) ≤ r.toInt → r.toInt ≤ b → -((b + 100 * cs.length : Nat) : Int) ≤ (ev F cs st r).toInt ∧ (ev F cs st r).toInt ≤ ((b + 100 * cs.length : Nat) : Int)
  | [], st, r, b, hb, h1, h2 => by
    simp only [ev, List.length_nil, Nat.mul_zero, Nat.add_zero]
    exact ⟨h1, h2⟩
  | c :: cs, st, r, b, hb, h1, h2 => by
    rw [List.length_cons] at hb ⊢
    have ih := fun st r g1 g2 => ev_bd (F := F) cs st r (b + 100) (by omega) g1 g2
    rw [show b + 100 * (cs.length + 1) = b + 100 + 100 * cs.length by omega]
    have k1 : -((b + 100 : Nat) : Int) ≤ r.toInt := by omega
    have k2 : r.toInt ≤ ((b + 100 : Nat) : Int) := by omega
    have hx : ∀ q : Bool, ∃ x : Nat, x < 100 ∧ (if q = true then nI (c % 100) else nI 0) = nI x := by
      intro q
      cases q
      · exact ⟨0, by decide, rfl⟩
      · exact ⟨c % 100, by omega, rfl⟩
    unfold ev
    split
    · exact ih _ _ k1 k2
    · split
      · exact ih _ _ k1 k2
      · split
        · exact ih _ _ k1 k2
        · split
          · obtain ⟨x, x1, x2⟩ := hx (st.headD false)
            rw [x2]
            have xt : (nI x).toInt = (x : Int) := nI_toInt (by omega)
            have e : (r + nI x).toInt = r.toInt + x := by rw [add_tI (by omega) (by omega) (by omega) (by omega), xt]
            exact ih _ _ (by omega) (by omega)
          · split
            · obtain ⟨x, x1, x2⟩ := hx (st.headD false)
              rw [x2]
              have xt : (nI x).toInt = (x : Int) := nI_toInt (by omega)
              have e : (r - nI x).toInt = r.toInt - x := by rw [sub_tI (by omega) (by omega) (by omega) (by omega), xt]
              exact ih _ _ (by omega) (by omega)
            · exact ih _ _ k1 k2
def rnN (S : Nat → Int32) (cs : List Nat) (u m : Nat) : Nat := (rn S cs u m).toNatClampNeg
theorem rn_nat {S : Nat → Int32} {cs : List Nat} {u : Nat} (hc : cs.length ≤ 100) (m : Nat) : rn S cs u m = nI (rnN S cs u m) ∧ rnN S cs u m ≤ 10004 := by
  have key : ∀ (F : Nat → Int32), ∃ k, k ≤ 10004 ∧ ev_a (ev F cs [] (nI 4)) = nI k := by
    intro F
    have e4 : (nI 4).toInt = 4 := nI_toInt (by decide)
    obtain ⟨h1, h2⟩ := ev_bd (F := F) cs [] (nI 4) 4 (by omega) (by omega) (by omega)
    rcases zn_of (ev F cs [] (nI 4)) with h | ⟨k, hk, e⟩
    · exact ⟨0, by decide, by unfold ev_a; rw [if_pos h]⟩
    · rw [e] at h1 h2 ⊢
      have et : (nI k).toInt = (k : Int) := nI_toInt (by omega)
      exact ⟨k, by omega, by unfold ev_a; rw [if_neg (nI_pos hk)]⟩
  obtain ⟨k, hk, e⟩ := key (ev_f m (if u = 6 then nI 9 else nI u) (if u = 6 then nI 9 else S (11 + u)) (if u = 6 then nI 9 else S (17 + u)))
  have e' : rn S cs u m = nI k := e
  have ek : rnN S cs u m = k := by
    unfold rnN
    rw [e']
    exact nI_clamp (show k < 2 ^ 31 by omega)
  rw [ek]
  exact ⟨e', hk⟩
def sN (g : Nat → Nat) : Nat → Nat
  | 0 => 0
  | n + 1 => sN g n + g n
theorem sN_S {f : Nat → Int32} {g : Nat → Nat} (hf : ∀ m, f m = nI (g m)) : ∀ m, sS f m = nI (sN g m)
  | 0 => rfl
  | m + 1 => by rw [sS, sN, sN_S hf m, hf m, zn_add]
theorem sN_le {g : Nat → Nat} (hg : ∀ m, g m ≤ 10004) : ∀ m, sN g m ≤ 10004 * m
  | 0 => by simp [sN]
  | m + 1 => by
    have := sN_le hg m
    have := hg m
    simp only [sN]
    omega
theorem ev_aN {F h : Nat} (hF : F < 2 ^ 30) (hh : h < 2 ^ 30) : ev_a (nI F - nI h) = nI (F - h) := by
  unfold ev_a
  rcases Nat.lt_or_ge F h with hl | hl
  · rw [if_pos (pk_sneg hh hl), show F - h = 0 by omega]
  · rw [zn_sub hl, if_neg (nI_pos (show F - h < 2147483648 by omega))]
section WN
variable {f : Nat → Int32} {g : Nat → Nat} {h v m kind : Nat} {row : Nat → Int32}
theorem wT_nat (hf : ∀ m, f m = nI (g m)) (hg : ∀ m, g m ≤ 10004) (hh : h ≤ 99) (hm : m < 1600) : ∃ w, w ≤ 10004 ∧ wT f (nI h) m = nI w := by
  have l1 := sN_le hg m
  have l2 := hg m
  have l3 : sN g (m + 1) = sN g m + g m := rfl
  unfold wT
  rw [sN_S hf, sN_S hf, ev_aN (by omega) (by omega), ev_aN (by omega) (by omega), zn_sub (by omega)]
  exact ⟨_, by omega, rfl⟩
theorem wThin_nat (hf : ∀ m, f m = nI (g m)) (hg : ∀ m, g m ≤ 10004) (hv : v ≤ 9) (hm : m < 1600) {hI : Int32} : ∃ w, w ≤ 10004 ∧ wThin f hI (nI v) m = nI w := by
  have l1 := sN_le hg m
  have l2 := hg m
  have l3 : sN g (m + 1) = sN g m + g m := rfl
  unfold wThin
  rw [sN_S hf, sN_S hf, zn_sub (by omega), ev_aN (by omega) (by omega)]
  split
  · exact ⟨_, by omega, rfl⟩
  · exact ⟨_, by omega, rfl⟩
theorem wLate_nat (hf : ∀ m, f m = nI (g m)) (hg : ∀ m, g m ≤ 10004) (hh : h ≤ 99) (hm : m < 1600) : ∃ w, w ≤ 10004 ∧ wLate f (nI h) v m = nI w := by
  have key : ∃ w, w ≤ 10004 ∧ (if m < v then nI 0 else wT f (nI h) (m - v)) = nI w := by
    split
    · exact ⟨0, by decide, rfl⟩
    · exact wT_nat hf hg hh (by omega)
  obtain ⟨w, hw, e⟩ := key
  unfold wLate
  rw [e]
  split
  · exact ⟨1, by decide, rfl⟩
  · exact ⟨w, hw, rfl⟩
theorem wet_nat (hf : ∀ m, f m = nI (g m)) (hg : ∀ m, g m ≤ 10004) (hh : h ≤ 99) (hv : v ≤ 9) (hr : ∀ k, k < 4 → ∃ r, r ≤ 9 ∧ row k = nI r) (hm : m < 1600) : ∃ w, w ≤ 20000 ∧ wet f (nI h) kind v row m = nI w := by
  obtain ⟨a, a1, a2⟩ := wT_nat hf hg hh hm
  obtain ⟨b, b1, b2⟩ := wThin_nat hf hg hv hm (hI := nI h)
  obtain ⟨c, c1, c2⟩ := wLate_nat (v := v) hf hg hh hm
  unfold wet
  rw [a2, b2, c2]
  have hd : nI a / nI 2 = nI (a / 2) := zn_div (by omega) (by decide) (by decide)
  split
  · exact ⟨a / 2, by omega, hd⟩
  · split
    · exact ⟨b, by omega, rfl⟩
    · split
      · exact ⟨c, by omega, rfl⟩
      · split
        · split
          · exact ⟨0, by decide, rfl⟩
          · exact ⟨a / 2, by omega, hd⟩
        · split
          · exact ⟨b - 1, by omega, ev_aN (by omega) (by decide)⟩
          · split
            · obtain ⟨r, r1, r2⟩ := hr (m % 4) (Nat.mod_lt m (by decide))
              split
              · exact ⟨c + r, by omega, by rw [r2, zn_add]⟩
              · exact ⟨c, by omega, by rw [zn_add, Nat.add_zero]⟩
            · exact ⟨a, by omega, rfl⟩
end WN
theorem waitS_nat {w : Nat → Int32} : ∀ (k mn s : Nat), (∀ m, mn ≤ m → m < mn + k → ∃ x, x ≤ 20000 ∧ w m = nI x) → ∃ x, x ≤ s + 20000 * k ∧ waitS w mn k (nI s) = nI x
  | 0, mn, s, _ => ⟨s, by omega, rfl⟩
  | k + 1, mn, s, h => by
    obtain ⟨x, x1, x2⟩ := h mn (by omega) (by omega)
    obtain ⟨y, y1, y2⟩ := waitS_nat k (mn + 1) (s + x) (fun m m1 m2 => h m (by omega) (by omega))
    refine ⟨y, by omega, ?_⟩
    rw [waitS, x2, zn_add]
    exact y2
def oddV (f : Nat → Int32) (q : Int32) : Nat → Nat → Nat → Nat
  | 0, _, c => c
  | k + 1, j, c => oddV f q k (j + 1) (if f j ≤ q then c + 1 else c)
theorem oddV_le {f : Nat → Int32} {q : Int32} : ∀ (k j c : Nat), oddV f q k j c ≤ c + k
  | 0, j, c => by simp [oddV]
  | k + 1, j, c => by
    simp only [oddV]
    split
    · have := oddV_le (f := f) (q := q) k (j + 1) (c + 1); omega
    · have := oddV_le (f := f) (q := q) k (j + 1) c; omega
/-- asked the same, both answer the same long -/
def agrL (X : ix_X) (d : Nat) (τ : List fm_D) (S : Nat → Int32) (N : Nat → Nat) (C : Nat → List Nat) (Q : Nat → Nat) (j1 j2 : Nat) (as : List Value) : Prop := ∀ μ, QI μ τ S N C Q → ∃ (v : Int64) (μ1 μ2 : fm_M), ix_call X d j1 (.ref 0 :: as) (fm_W μ τ) = some (some (.long v), fm_W μ1 τ) ∧ ix_call X d j2 (.ref 67 :: as) (fm_W μ1 τ) = some (some (.long v), fm_W μ2 τ) ∧ QI μ2 τ S N C Q
section Q7
variable {X : ix_X} {d : Nat} {τ : List fm_D} {μ : fm_M} {S : Nat → Int32} {N : Nat → Nat} {C : Nat → List Nat} {Q : Nat → Nat} {t m : Nat}
theorem QI_cl (h : QI μ τ S N C Q) : (csN N C).length ≤ 100 := by
  have hb := QI_b h
  unfold csN
  split
  · simp
  · exact (h.1.2.2.2.2.2.2.2.2.1 (N 2 - 1) (by omega)).2.1
theorem QI_un (h : QI μ τ S N C Q) (ht : t < N 0) (hm : m < 1600) : ∃ w, w ≤ 20000 ∧ uS S (csN N C) t m = nI w := by
  obtain ⟨_, ⟨v, v1, v2⟩, ⟨hh, h1, h2⟩, _⟩ := QI_v h ht
  have hr := h.1.2.2.2.2.2.2.2.2.2 t ht
  unfold uS
  rw [h2, v2, nI_clamp (show v < 2 ^ 31 by omega)]
  exact wet_nat (fun m => (rn_nat (QI_cl h) m).1) (fun m => (rn_nat (QI_cl h) m).2) h1 v1 hr hm
theorem cl_oddL {i q p : Nat} (hi : i < N 1) (hp : p ≤ 1) : ∀ (k j c : Nat) (μ : fm_M), QI μ τ S N C Q → j + k = 10 → c ≤ j → ∃ μ' : fm_M, ix_sem X (d + 5) 117 40 [some (.ref 0), some (.int (nI i)), some (.int (nI q)), some (.int (nI p)), some (.int (nI c)), some (.int (nI j))] [] (fm_W μ τ) = some (some (.long (lN ((if p = 0 then oddV (fun j => wbS S (stW S N (csN N C) (nS S (59 + i)) j).2.2 (S (64 + i))) (nI q) k j c else 10) / Nat.gcd (oddV (fun j => wbS S (stW S N (csN N C) (nS S (59 + i)) j).2.2 (S (64 + i))) (nI q) k j c) 10))), fm_W μ' τ) ∧ QI μ' τ S N C Q
  | 0, j, c, μ, h, e, hc => by
    have kl := cl_lowest (X := X) (d := d + 4) (H := fm_W μ τ) (A := c) (B := 10) (p := p) (by omega) (by decide) (by decide) hp
    refine ⟨μ, ?_, h⟩
    simp (disch := first | assumption | omega | decide) only [i117_0, i117_1, i117_4, i117_5, i117_8, i117_11, i117_12, i117_13, i117_15, i117_18, i117_21, i117_22, i117_23, i117_24, i117_27, i117_30, i117_33, i117_34, i117_35, i117_37, i117_38, i117_40, i117_42, i117_44, i117_47, i117_48, i117_49, i117_50, i117_53, i117_54, i117_55, i117_58, i117_60, i117_63, i117_64, i117_67, i117_70, i117_73, i117_76, i117_78, i117_80, i117_81, i117_84, ix_pv_s, ix_pi_s, zpn, ix_po_s, ix_po_n, ix_ph_s, ix_bk_v, ix_bk_n, zcv, zcv_ne, ↓reduceIte, Nat.reduceEqDiff, zn_m1, zd_lt_p, zd_lt_n, zd_le_p, zd_le_n, zd_eq_p, zd_eq_n, zd_0_p, zd_0_n, zd_0lt_p, zd_0lt_n, zd_le0_p, zd_le0_n, zn_lt0, zn_le0, zn_add, zn_mul, zn_sub, zm_lt, zm_le, zm_eq, zb_1, zb_0, not_true_eq_false, not_false_eq_true, t0_c, t0_g0, t0_g1, t0_g2, t0_g3, t0_g4, t0_g5, t0_g6, t0_g7, t0_g8, t0_g9, t0_g10, t0_s11, t0_g12, t0_s12, t0_g13, t0_g14, t0_g15, t0_g16, t0_c, rw_c, kl, oddV]
  | k + 1, j, c, μ, h, e, hc => by
    obtain ⟨p0, p1, p2⟩ := QI_pc h hi
    have hpc := cl_paceQ (X := X) (d := d + 3) h hi
    have hct := cl_coatQ (X := X) (d := d + 3) h hi
    obtain ⟨μ1, a1, q1⟩ := cl_wetStr (X := X) (d := d + 1) (l := j) (coat := S (64 + i)) h p1 p2 (by omega)
    by_cases hq : wbS S (stW S N (csN N C) (nS S (59 + i)) j).2.2 (S (64 + i)) ≤ nI q
    · have hq' : ¬ nI q < wbS S (stW S N (csN N C) (nS S (59 + i)) j).2.2 (S (64 + i)) := Int32.not_lt.mpr hq
      obtain ⟨μ3, a3, q3⟩ := cl_oddL (q := q) hi hp k (j + 1) (c + 1) μ1 q1 (by omega) (by omega)
      refine ⟨μ3, ?_, q3⟩
      rw [oddV, if_pos hq, ← a3, i117_40]
      simp (disch := first | assumption | omega | decide) only [i117_0, i117_1, i117_4, i117_5, i117_8, i117_11, i117_12, i117_13, i117_15, i117_18, i117_21, i117_22, i117_23, i117_24, i117_27, i117_30, i117_33, i117_34, i117_35, i117_37, i117_38, i117_42, i117_44, i117_47, i117_48, i117_49, i117_50, i117_53, i117_54, i117_55, i117_58, i117_60, i117_63, i117_64, i117_67, i117_70, i117_73, i117_76, i117_78, i117_80, i117_81, i117_84, ix_pv_s, ix_pi_s, zpn, ix_po_s, ix_po_n, ix_ph_s, ix_bk_v, ix_bk_n, zcv, zcv_ne, ↓reduceIte, Nat.reduceEqDiff, zn_m1, zd_lt_p, zd_lt_n, zd_le_p, zd_le_n, zd_eq_p, zd_eq_n, zd_0_p, zd_0_n, zd_0lt_p, zd_0lt_n, zd_le0_p, zd_le0_n, zn_lt0, zn_le0, zn_add, zn_mul, zn_sub, zm_lt, zm_le, zm_eq, zb_1, zb_0, not_true_eq_false, not_false_eq_true, t0_c, t0_g0, t0_g1, t0_g2, t0_g3, t0_g4, t0_g5, t0_g6, t0_g7, t0_g8, t0_g9, t0_g10, t0_s11, t0_g12, t0_s12, t0_g13, t0_g14, t0_g15, t0_g16, t0_c, rw_c, hpc, hct, a1, hq']
    · have hq' : nI q < wbS S (stW S N (csN N C) (nS S (59 + i)) j).2.2 (S (64 + i)) := Int32.not_le.mp hq
      obtain ⟨μ3, a3, q3⟩ := cl_oddL (q := q) hi hp k (j + 1) c μ1 q1 (by omega) (by omega)
      refine ⟨μ3, ?_, q3⟩
      rw [oddV, if_neg hq, ← a3, i117_40]
      simp (disch := first | assumption | omega | decide) only [i117_0, i117_1, i117_4, i117_5, i117_8, i117_11, i117_12, i117_13, i117_15, i117_18, i117_21, i117_22, i117_23, i117_24, i117_27, i117_30, i117_33, i117_34, i117_35, i117_37, i117_38, i117_42, i117_44, i117_47, i117_48, i117_49, i117_50, i117_53, i117_54, i117_55, i117_58, i117_60, i117_63, i117_64, i117_67, i117_70, i117_73, i117_76, i117_78, i117_80, i117_81, i117_84, ix_pv_s, ix_pi_s, zpn, ix_po_s, ix_po_n, ix_ph_s, ix_bk_v, ix_bk_n, zcv, zcv_ne, ↓reduceIte, Nat.reduceEqDiff, zn_m1, zd_lt_p, zd_lt_n, zd_le_p, zd_le_n, zd_eq_p, zd_eq_n, zd_0_p, zd_0_n, zd_0lt_p, zd_0lt_n, zd_le0_p, zd_le0_n, zn_lt0, zn_le0, zn_add, zn_mul, zn_sub, zm_lt, zm_le, zm_eq, zb_1, zb_0, not_true_eq_false, not_false_eq_true, t0_c, t0_g0, t0_g1, t0_g2, t0_g3, t0_g4, t0_g5, t0_g6, t0_g7, t0_g8, t0_g9, t0_g10, t0_s11, t0_g12, t0_s12, t0_g13, t0_g14, t0_g15, t0_g16, t0_c, rw_c, hpc, hct, a1, hq']
theorem l64_0 (x : Int64) : x + 0 = x := Int64.add_zero x
theorem l64_10 : (10 : Int64) = lN 10 := rfl
theorem mo_oddL {i q p : Nat} (hi : i < N 1) (hp : p ≤ 1) : ∀ (k j c : Nat) (μ : fm_M), QI μ τ S N C Q → j + k = 10 → c ≤ j → ∃ μ' : fm_M, ix_sem X (d + 6) 203 37 [some (.ref 67), some (.int (nI i)), some (.int (nI q)), some (.int (nI p)), some (.long (lN c)), none, some (.int (nI j))] [] (fm_W μ τ) = some (some (.long (lN ((if p = 0 then oddV (fun j => wbS S (stW S N (csN N C) (nS S (59 + i)) j).2.2 (S (64 + i))) (nI q) k j c else 10) / Nat.gcd (oddV (fun j => wbS S (stW S N (csN N C) (nS S (59 + i)) j).2.2 (S (64 + i))) (nI q) k j c) 10))), fm_W μ' τ) ∧ QI μ' τ S N C Q
  | 0, j, c, μ, h, e, hc => by
    have kl := mo_lowest (X := X) (d := d + 5) (H := fm_W μ τ) (A := c) (B := 10) (p := p) (by omega) (by decide) (by decide) hp
    refine ⟨μ, ?_, h⟩
    simp (disch := first | assumption | omega | decide) only [i203_0, i203_1, i203_2, i203_5, i203_8, i203_9, i203_10, i203_12, i203_15, i203_18, i203_19, i203_20, i203_21, i203_24, i203_27, i203_30, i203_31, i203_32, i203_34, i203_35, i203_37, i203_39, i203_41, i203_44, i203_45, i203_46, i203_49, i203_51, i203_52, i203_53, i203_54, i203_56, i203_59, i203_61, i203_62, i203_63, i203_64, i203_67, i203_68, i203_71, i203_72, i203_75, i203_76, i203_77, i203_79, i203_82, i203_85, i203_87, i203_90, i203_91, i203_94, ix_pv_s, ix_pi_s, zpn, ix_po_s, ix_po_n, ix_ph_s, ix_bk_v, ix_bk_n, zcv, zcv_ne, ↓reduceIte, Nat.reduceEqDiff, zn_m1, zd_lt_p, zd_lt_n, zd_le_p, zd_le_n, zd_eq_p, zd_eq_n, zd_0_p, zd_0_n, zd_0lt_p, zd_0lt_n, zd_le0_p, zd_le0_n, zn_lt0, zn_le0, zn_add, zn_mul, zn_sub, zm_lt, zm_le, zm_eq, zb_1, zb_0, not_true_eq_false, not_false_eq_true, mo_c, mo_g0, mo_s0, mo_g1, mo_g2, mo_g3, mo_s3, mo_g4, mo_s4, mo_g5, mo_s5, mo_g6, mo_s6, mo_g7, mo_s7, mo_g8, mo_s8, mo_g9, mo_g10, mo_g11, mo_g12, mo_g13, mo_s13, mo_g14, mo_s14, mo_g15, mo_s15, mo_g16, mo_g17, mo_s17, mo_g18, mo_s18, mo_g19, mo_g20, mo_s20, mo_g21, mo_s21, mo_g22, mo_s22, mo_g23, mo_s23, ra_25, wa_25, al_25, ra_68, wa_68, al_68, ra_69, wa_69, al_69, ra_70, wa_70, al_70, ra_71, wa_71, al_71, ra_72, wa_72, al_72, ra_73, wa_73, al_73, ra_74, wa_74, al_74, ra_75, wa_75, al_75, l64_10, kl, oddV]
  | k + 1, j, c, μ, h, e, hc => by
    have hb := QI_b h
    have f68 := QI_68 h
    obtain ⟨p0, p1, p2⟩ := QI_pc h hi
    obtain ⟨μ1, a1, q1, t1⟩ := mo_goSQ (X := X) (d := d + 1) (l := j) h p1 p2 (by omega)
    have k1 : ix_call X (d + 5) 176 [.ref 67, .int (nI i), .int (nI 0)] (fm_W μ1 τ) = some (some (.int (wbS S (stW S N (csN N C) (nS S (59 + i)) j).2.2 (S (64 + i)))), fm_W μ1 τ) := mo_tellQ (X := X) (d := d + 3) (what := 0) q1 t1 (stW_le p1 hb.2.2.2.2.2.2.2.2.1).1 hi (by omega)
    by_cases hq : wbS S (stW S N (csN N C) (nS S (59 + i)) j).2.2 (S (64 + i)) ≤ nI q
    · have hq' : ¬ nI q < wbS S (stW S N (csN N C) (nS S (59 + i)) j).2.2 (S (64 + i)) := Int32.not_lt.mpr hq
      obtain ⟨μ3, a3, q3⟩ := mo_oddL (q := q) hi hp k (j + 1) (c + 1) μ1 q1 (by omega) (by omega)
      refine ⟨μ3, ?_, q3⟩
      rw [oddV, if_pos hq, ← a3, i203_37]
      simp (disch := first | assumption | omega | decide) only [i203_0, i203_1, i203_2, i203_5, i203_8, i203_9, i203_10, i203_12, i203_15, i203_18, i203_19, i203_20, i203_21, i203_24, i203_27, i203_30, i203_31, i203_32, i203_34, i203_35, i203_39, i203_41, i203_44, i203_45, i203_46, i203_49, i203_51, i203_52, i203_53, i203_54, i203_56, i203_59, i203_61, i203_62, i203_63, i203_64, i203_67, i203_68, i203_71, i203_72, i203_75, i203_76, i203_77, i203_79, i203_82, i203_85, i203_87, i203_90, i203_91, i203_94, ix_pv_s, ix_pi_s, zpn, ix_po_s, ix_po_n, ix_ph_s, ix_bk_v, ix_bk_n, zcv, zcv_ne, ↓reduceIte, Nat.reduceEqDiff, zn_m1, zd_lt_p, zd_lt_n, zd_le_p, zd_le_n, zd_eq_p, zd_eq_n, zd_0_p, zd_0_n, zd_0lt_p, zd_0lt_n, zd_le0_p, zd_le0_n, zn_lt0, zn_le0, zn_add, zn_mul, zn_sub, zm_lt, zm_le, zm_eq, zb_1, zb_0, not_true_eq_false, not_false_eq_true, mo_c, mo_g0, mo_s0, mo_g1, mo_g2, mo_g3, mo_s3, mo_g4, mo_s4, mo_g5, mo_s5, mo_g6, mo_s6, mo_g7, mo_s7, mo_g8, mo_s8, mo_g9, mo_g10, mo_g11, mo_g12, mo_g13, mo_s13, mo_g14, mo_s14, mo_g15, mo_s15, mo_g16, mo_g17, mo_s17, mo_g18, mo_s18, mo_g19, mo_g20, mo_s20, mo_g21, mo_s21, mo_g22, mo_s22, mo_g23, mo_s23, ra_25, wa_25, al_25, ra_68, wa_68, al_68, ra_69, wa_69, al_69, ra_70, wa_70, al_70, ra_71, wa_71, al_71, ra_72, wa_72, al_72, ra_73, wa_73, al_73, ra_74, wa_74, al_74, ra_75, wa_75, al_75, f68, p0, a1, k1, hq', lN_1]
    · have hq' : nI q < wbS S (stW S N (csN N C) (nS S (59 + i)) j).2.2 (S (64 + i)) := Int32.not_le.mp hq
      obtain ⟨μ3, a3, q3⟩ := mo_oddL (q := q) hi hp k (j + 1) c μ1 q1 (by omega) (by omega)
      refine ⟨μ3, ?_, q3⟩
      rw [oddV, if_neg hq, ← a3, i203_37]
      simp (disch := first | assumption | omega | decide) only [i203_0, i203_1, i203_2, i203_5, i203_8, i203_9, i203_10, i203_12, i203_15, i203_18, i203_19, i203_20, i203_21, i203_24, i203_27, i203_30, i203_31, i203_32, i203_34, i203_35, i203_39, i203_41, i203_44, i203_45, i203_46, i203_49, i203_51, i203_52, i203_53, i203_54, i203_56, i203_59, i203_61, i203_62, i203_63, i203_64, i203_67, i203_68, i203_71, i203_72, i203_75, i203_76, i203_77, i203_79, i203_82, i203_85, i203_87, i203_90, i203_91, i203_94, ix_pv_s, ix_pi_s, zpn, ix_po_s, ix_po_n, ix_ph_s, ix_bk_v, ix_bk_n, zcv, zcv_ne, ↓reduceIte, Nat.reduceEqDiff, zn_m1, zd_lt_p, zd_lt_n, zd_le_p, zd_le_n, zd_eq_p, zd_eq_n, zd_0_p, zd_0_n, zd_0lt_p, zd_0lt_n, zd_le0_p, zd_le0_n, zn_lt0, zn_le0, zn_add, zn_mul, zn_sub, zm_lt, zm_le, zm_eq, zb_1, zb_0, not_true_eq_false, not_false_eq_true, mo_c, mo_g0, mo_s0, mo_g1, mo_g2, mo_g3, mo_s3, mo_g4, mo_s4, mo_g5, mo_s5, mo_g6, mo_s6, mo_g7, mo_s7, mo_g8, mo_s8, mo_g9, mo_g10, mo_g11, mo_g12, mo_g13, mo_s13, mo_g14, mo_s14, mo_g15, mo_s15, mo_g16, mo_g17, mo_s17, mo_g18, mo_s18, mo_g19, mo_g20, mo_s20, mo_g21, mo_s21, mo_g22, mo_s22, mo_g23, mo_s23, ra_25, wa_25, al_25, ra_68, wa_68, al_68, ra_69, wa_69, al_69, ra_70, wa_70, al_70, ra_71, wa_71, al_71, ra_72, wa_72, al_72, ra_73, wa_73, al_73, ra_74, wa_74, al_74, ra_75, wa_75, al_75, f68, p0, a1, k1, hq', l64_0]
theorem l64_z : (0 : Int64) = lN 0 := rfl
theorem agr_odds {a b c : Int32} : agrL X (d + 6) τ S N C Q 117 203 [.int a, .int b, .int c] := by
  intro μ h
  have hO7 : rwO 7 := rfl
  have hb := QI_b h
  by_cases ha : inS a (N 1)
  · have hm := mo_walker (X := X) (d := d + 4) h ha
    obtain ⟨i, hi, rfl⟩ := ha
    have hc := cl_walker (X := X) (d := d + 5) h hi
    by_cases hin : nI 0 ≤ b ∧ b ≤ nI 99
    · by_cases hin2 : nI 0 ≤ c ∧ c ≤ nI 1
      · obtain ⟨q, _, hq, rfl⟩ := in_nat hin (by decide) (by decide)
        obtain ⟨p, _, hp, rfl⟩ := in_nat hin2 (by decide) (by decide)
        obtain ⟨μ1, a1, q1⟩ := cl_oddL (X := X) (d := d + 1) (τ := τ) (q := q) hi hp 10 0 0 μ h rfl (Nat.le_refl _)
        have hm := mo_walker (X := X) (d := d + 4) q1 (inS_p hi)
        obtain ⟨μ2, a2, q2⟩ := mo_oddL (X := X) (d := d) (τ := τ) (q := q) hi hp 10 0 0 μ1 q1 rfl (Nat.le_refl _)
        refine ⟨_, μ1, μ2, Eq.trans ?_ a1, Eq.trans ?_ a2, q2⟩
        · simp (disch := first | assumption | omega | decide) only [e117, i117_0, i117_1, i117_4, i117_5, i117_8, i117_11, i117_12, i117_13, i117_15, i117_18, i117_21, i117_22, i117_23, i117_24, i117_27, i117_30, i117_33, i117_34, i117_35, i117_37, i117_38, i117_42, i117_44, i117_47, i117_48, i117_49, i117_50, i117_53, i117_54, i117_55, i117_58, i117_60, i117_63, i117_64, i117_67, i117_70, i117_73, i117_76, i117_78, i117_80, i117_81, i117_84, ix_pv_s, ix_pi_s, zpn, ix_po_s, ix_po_n, ix_ph_s, ix_bk_v, ix_bk_n, zcv, zcv_ne, ↓reduceIte, Nat.reduceEqDiff, zn_m1, zd_lt_p, zd_lt_n, zd_le_p, zd_le_n, zd_eq_p, zd_eq_n, zd_0_p, zd_0_n, zd_0lt_p, zd_0lt_n, zd_le0_p, zd_le0_n, zn_lt0, zn_le0, zn_add, zn_mul, zn_sub, zm_lt, zm_le, zm_eq, zb_1, zb_0, not_true_eq_false, not_false_eq_true, t0_c, t0_g0, t0_g1, t0_g2, t0_g3, t0_g4, t0_g5, t0_g6, t0_g7, t0_g8, t0_g9, t0_g10, t0_s11, t0_g12, t0_s12, t0_g13, t0_g14, t0_g15, t0_g16, t0_c, rw_c, hc, cl_within, hin, hin2, and_self]
        · simp (disch := first | assumption | omega | decide) only [e203, i203_0, i203_1, i203_2, i203_5, i203_8, i203_9, i203_10, i203_12, i203_15, i203_18, i203_19, i203_20, i203_21, i203_24, i203_27, i203_30, i203_31, i203_32, i203_34, i203_35, i203_39, i203_41, i203_44, i203_45, i203_46, i203_49, i203_51, i203_52, i203_53, i203_54, i203_56, i203_59, i203_61, i203_62, i203_63, i203_64, i203_67, i203_68, i203_71, i203_72, i203_75, i203_76, i203_77, i203_79, i203_82, i203_85, i203_87, i203_90, i203_91, i203_94, ix_pv_s, ix_pi_s, zpn, ix_po_s, ix_po_n, ix_ph_s, ix_bk_v, ix_bk_n, zcv, zcv_ne, ↓reduceIte, Nat.reduceEqDiff, zn_m1, zd_lt_p, zd_lt_n, zd_le_p, zd_le_n, zd_eq_p, zd_eq_n, zd_0_p, zd_0_n, zd_0lt_p, zd_0lt_n, zd_le0_p, zd_le0_n, zn_lt0, zn_le0, zn_add, zn_mul, zn_sub, zm_lt, zm_le, zm_eq, zb_1, zb_0, not_true_eq_false, not_false_eq_true, mo_c, mo_g0, mo_s0, mo_g1, mo_g2, mo_g3, mo_s3, mo_g4, mo_s4, mo_g5, mo_s5, mo_g6, mo_s6, mo_g7, mo_s7, mo_g8, mo_s8, mo_g9, mo_g10, mo_g11, mo_g12, mo_g13, mo_s13, mo_g14, mo_s14, mo_g15, mo_s15, mo_g16, mo_g17, mo_s17, mo_g18, mo_s18, mo_g19, mo_g20, mo_s20, mo_g21, mo_s21, mo_g22, mo_s22, mo_g23, mo_s23, ra_25, wa_25, al_25, ra_68, wa_68, al_68, ra_69, wa_69, al_69, ra_70, wa_70, al_70, ra_71, wa_71, al_71, ra_72, wa_72, al_72, ra_73, wa_73, al_73, ra_74, wa_74, al_74, ra_75, wa_75, al_75, hm, mo_in, hin, hin2, and_self, l64_z]
      · refine ⟨-9223372036854775808, μ, μ, ?_, ?_, h⟩
        · simp (disch := first | assumption | omega | decide) only [e117, i117_0, i117_1, i117_4, i117_5, i117_8, i117_11, i117_12, i117_13, i117_15, i117_18, i117_21, i117_22, i117_23, i117_24, i117_27, i117_30, i117_33, i117_34, i117_35, i117_37, i117_38, i117_42, i117_44, i117_47, i117_48, i117_49, i117_50, i117_53, i117_54, i117_55, i117_58, i117_60, i117_63, i117_64, i117_67, i117_70, i117_73, i117_76, i117_78, i117_80, i117_81, i117_84, ix_pv_s, ix_pi_s, zpn, ix_po_s, ix_po_n, ix_ph_s, ix_bk_v, ix_bk_n, zcv, zcv_ne, ↓reduceIte, Nat.reduceEqDiff, zn_m1, zd_lt_p, zd_lt_n, zd_le_p, zd_le_n, zd_eq_p, zd_eq_n, zd_0_p, zd_0_n, zd_0lt_p, zd_0lt_n, zd_le0_p, zd_le0_n, zn_lt0, zn_le0, zn_add, zn_mul, zn_sub, zm_lt, zm_le, zm_eq, zb_1, zb_0, not_true_eq_false, not_false_eq_true, t0_c, t0_g0, t0_g1, t0_g2, t0_g3, t0_g4, t0_g5, t0_g6, t0_g7, t0_g8, t0_g9, t0_g10, t0_s11, t0_g12, t0_s12, t0_g13, t0_g14, t0_g15, t0_g16, t0_c, rw_c, hc, cl_within, hin, hin2, and_self]
        · simp (disch := first | assumption | omega | decide) only [e203, i203_0, i203_1, i203_2, i203_5, i203_8, i203_9, i203_10, i203_12, i203_15, i203_18, i203_19, i203_20, i203_21, i203_24, i203_27, i203_30, i203_31, i203_32, i203_34, i203_35, i203_39, i203_41, i203_44, i203_45, i203_46, i203_49, i203_51, i203_52, i203_53, i203_54, i203_56, i203_59, i203_61, i203_62, i203_63, i203_64, i203_67, i203_68, i203_71, i203_72, i203_75, i203_76, i203_77, i203_79, i203_82, i203_85, i203_87, i203_90, i203_91, i203_94, ix_pv_s, ix_pi_s, zpn, ix_po_s, ix_po_n, ix_ph_s, ix_bk_v, ix_bk_n, zcv, zcv_ne, ↓reduceIte, Nat.reduceEqDiff, zn_m1, zd_lt_p, zd_lt_n, zd_le_p, zd_le_n, zd_eq_p, zd_eq_n, zd_0_p, zd_0_n, zd_0lt_p, zd_0lt_n, zd_le0_p, zd_le0_n, zn_lt0, zn_le0, zn_add, zn_mul, zn_sub, zm_lt, zm_le, zm_eq, zb_1, zb_0, not_true_eq_false, not_false_eq_true, mo_c, mo_g0, mo_s0, mo_g1, mo_g2, mo_g3, mo_s3, mo_g4, mo_s4, mo_g5, mo_s5, mo_g6, mo_s6, mo_g7, mo_s7, mo_g8, mo_s8, mo_g9, mo_g10, mo_g11, mo_g12, mo_g13, mo_s13, mo_g14, mo_s14, mo_g15, mo_s15, mo_g16, mo_g17, mo_s17, mo_g18, mo_s18, mo_g19, mo_g20, mo_s20, mo_g21, mo_s21, mo_g22, mo_s22, mo_g23, mo_s23, ra_25, wa_25, al_25, ra_68, wa_68, al_68, ra_69, wa_69, al_69, ra_70, wa_70, al_70, ra_71, wa_71, al_71, ra_72, wa_72, al_72, ra_73, wa_73, al_73, ra_74, wa_74, al_74, ra_75, wa_75, al_75, hm, mo_in, hin, hin2, and_self]
    · refine ⟨-9223372036854775808, μ, μ, ?_, ?_, h⟩
      · simp (disch := first | assumption | omega | decide) only [e117, i117_0, i117_1, i117_4, i117_5, i117_8, i117_11, i117_12, i117_13, i117_15, i117_18, i117_21, i117_22, i117_23, i117_24, i117_27, i117_30, i117_33, i117_34, i117_35, i117_37, i117_38, i117_42, i117_44, i117_47, i117_48, i117_49, i117_50, i117_53, i117_54, i117_55, i117_58, i117_60, i117_63, i117_64, i117_67, i117_70, i117_73, i117_76, i117_78, i117_80, i117_81, i117_84, ix_pv_s, ix_pi_s, zpn, ix_po_s, ix_po_n, ix_ph_s, ix_bk_v, ix_bk_n, zcv, zcv_ne, ↓reduceIte, Nat.reduceEqDiff, zn_m1, zd_lt_p, zd_lt_n, zd_le_p, zd_le_n, zd_eq_p, zd_eq_n, zd_0_p, zd_0_n, zd_0lt_p, zd_0lt_n, zd_le0_p, zd_le0_n, zn_lt0, zn_le0, zn_add, zn_mul, zn_sub, zm_lt, zm_le, zm_eq, zb_1, zb_0, not_true_eq_false, not_false_eq_true, t0_c, t0_g0, t0_g1, t0_g2, t0_g3, t0_g4, t0_g5, t0_g6, t0_g7, t0_g8, t0_g9, t0_g10, t0_s11, t0_g12, t0_s12, t0_g13, t0_g14, t0_g15, t0_g16, t0_c, rw_c, hc, cl_within, hin]
      · simp (disch := first | assumption | omega | decide) only [e203, i203_0, i203_1, i203_2, i203_5, i203_8, i203_9, i203_10, i203_12, i203_15, i203_18, i203_19, i203_20, i203_21, i203_24, i203_27, i203_30, i203_31, i203_32, i203_34, i203_35, i203_39, i203_41, i203_44, i203_45, i203_46, i203_49, i203_51, i203_52, i203_53, i203_54, i203_56, i203_59, i203_61, i203_62, i203_63, i203_64, i203_67, i203_68, i203_71, i203_72, i203_75, i203_76, i203_77, i203_79, i203_82, i203_85, i203_87, i203_90, i203_91, i203_94, ix_pv_s, ix_pi_s, zpn, ix_po_s, ix_po_n, ix_ph_s, ix_bk_v, ix_bk_n, zcv, zcv_ne, ↓reduceIte, Nat.reduceEqDiff, zn_m1, zd_lt_p, zd_lt_n, zd_le_p, zd_le_n, zd_eq_p, zd_eq_n, zd_0_p, zd_0_n, zd_0lt_p, zd_0lt_n, zd_le0_p, zd_le0_n, zn_lt0, zn_le0, zn_add, zn_mul, zn_sub, zm_lt, zm_le, zm_eq, zb_1, zb_0, not_true_eq_false, not_false_eq_true, mo_c, mo_g0, mo_s0, mo_g1, mo_g2, mo_g3, mo_s3, mo_g4, mo_s4, mo_g5, mo_s5, mo_g6, mo_s6, mo_g7, mo_s7, mo_g8, mo_s8, mo_g9, mo_g10, mo_g11, mo_g12, mo_g13, mo_s13, mo_g14, mo_s14, mo_g15, mo_s15, mo_g16, mo_g17, mo_s17, mo_g18, mo_s18, mo_g19, mo_g20, mo_s20, mo_g21, mo_s21, mo_g22, mo_s22, mo_g23, mo_s23, ra_25, wa_25, al_25, ra_68, wa_68, al_68, ra_69, wa_69, al_69, ra_70, wa_70, al_70, ra_71, wa_71, al_71, ra_72, wa_72, al_72, ra_73, wa_73, al_73, ra_74, wa_74, al_74, ra_75, wa_75, al_75, hm, mo_in, hin]
  · have hc := cl_walkerN (X := X) (d := d + 5) h ha
    have hm := mo_walkerN (X := X) (d := d + 4) h ha
    refine ⟨-9223372036854775808, μ, μ, ?_, ?_, h⟩
    · simp (disch := first | assumption | omega | decide) only [e117, i117_0, i117_1, i117_4, i117_5, i117_8, i117_11, i117_12, i117_13, i117_15, i117_18, i117_21, i117_22, i117_23, i117_24, i117_27, i117_30, i117_33, i117_34, i117_35, i117_37, i117_38, i117_42, i117_44, i117_47, i117_48, i117_49, i117_50, i117_53, i117_54, i117_55, i117_58, i117_60, i117_63, i117_64, i117_67, i117_70, i117_73, i117_76, i117_78, i117_80, i117_81, i117_84, ix_pv_s, ix_pi_s, zpn, ix_po_s, ix_po_n, ix_ph_s, ix_bk_v, ix_bk_n, zcv, zcv_ne, ↓reduceIte, Nat.reduceEqDiff, zn_m1, zd_lt_p, zd_lt_n, zd_le_p, zd_le_n, zd_eq_p, zd_eq_n, zd_0_p, zd_0_n, zd_0lt_p, zd_0lt_n, zd_le0_p, zd_le0_n, zn_lt0, zn_le0, zn_add, zn_mul, zn_sub, zm_lt, zm_le, zm_eq, zb_1, zb_0, not_true_eq_false, not_false_eq_true, t0_c, t0_g0, t0_g1, t0_g2, t0_g3, t0_g4, t0_g5, t0_g6, t0_g7, t0_g8, t0_g9, t0_g10, t0_s11, t0_g12, t0_s12, t0_g13, t0_g14, t0_g15, t0_g16, t0_c, rw_c, hc]
    · simp (disch := first | assumption | omega | decide) only [e203, i203_0, i203_1, i203_2, i203_5, i203_8, i203_9, i203_10, i203_12, i203_15, i203_18, i203_19, i203_20, i203_21, i203_24, i203_27, i203_30, i203_31, i203_32, i203_34, i203_35, i203_39, i203_41, i203_44, i203_45, i203_46, i203_49, i203_51, i203_52, i203_53, i203_54, i203_56, i203_59, i203_61, i203_62, i203_63, i203_64, i203_67, i203_68, i203_71, i203_72, i203_75, i203_76, i203_77, i203_79, i203_82, i203_85, i203_87, i203_90, i203_91, i203_94, ix_pv_s, ix_pi_s, zpn, ix_po_s, ix_po_n, ix_ph_s, ix_bk_v, ix_bk_n, zcv, zcv_ne, ↓reduceIte, Nat.reduceEqDiff, zn_m1, zd_lt_p, zd_lt_n, zd_le_p, zd_le_n, zd_eq_p, zd_eq_n, zd_0_p, zd_0_n, zd_0lt_p, zd_0lt_n, zd_le0_p, zd_le0_n, zn_lt0, zn_le0, zn_add, zn_mul, zn_sub, zm_lt, zm_le, zm_eq, zb_1, zb_0, not_true_eq_false, not_false_eq_true, mo_c, mo_g0, mo_s0, mo_g1, mo_g2, mo_g3, mo_s3, mo_g4, mo_s4, mo_g5, mo_s5, mo_g6, mo_s6, mo_g7, mo_s7, mo_g8, mo_s8, mo_g9, mo_g10, mo_g11, mo_g12, mo_g13, mo_s13, mo_g14, mo_s14, mo_g15, mo_s15, mo_g16, mo_g17, mo_s17, mo_g18, mo_s18, mo_g19, mo_g20, mo_s20, mo_g21, mo_s21, mo_g22, mo_s22, mo_g23, mo_s23, ra_25, wa_25, al_25, ra_68, wa_68, al_68, ra_69, wa_69, al_69, ra_70, wa_70, al_70, ra_71, wa_71, al_71, ra_72, wa_72, al_72, ra_73, wa_73, al_73, ra_74, wa_74, al_74, ra_75, wa_75, al_75, hm]
theorem cl_meanL {x1 : Option Value} {n p : Nat} (ht : t < N 0) (hn1 : 1 ≤ n) (hn : n ≤ 60) (hp : p ≤ 1) : ∀ (k j s : Nat) (μ : fm_M), QI μ τ S N C Q → j + k = n → s ≤ 20000 * j → ∃ (A : Nat) (μ' : fm_M), waitS (uS S (csN N C) t) (N 8 + j) k (nI s) = nI A ∧ A < 2147483648 ∧ ix_sem X (d + 5) 119 41 [some (.ref 0), x1, some (.int (nI n)), some (.int (nI p)), some (.ref (Q t)), some (.int (nI s)), some (.int (nI j))] [] (fm_W μ τ) = some (some (.long (lN ((if p = 0 then A else n) / Nat.gcd A n))), fm_W μ' τ) ∧ QI μ' τ S N C Q
  | 0, j, s, μ, h, e, hs => by
    have kl := cl_lowest (X := X) (d := d + 4) (H := fm_W μ τ) (A := s) (B := n) (p := p) (by omega) hn hn1 hp
    refine ⟨s, μ, rfl, by omega, ?_, h⟩
    simp (disch := first | assumption | omega | decide) only [i119_0, i119_1, i119_2, i119_5, i119_5n, i119_7, i119_7n, i119_9n, i119_9, i119_12, i119_13, i119_14, i119_16, i119_19, i119_22, i119_23, i119_24, i119_25, i119_28, i119_31, i119_34, i119_35, i119_36, i119_38, i119_39, i119_41, i119_43, i119_44, i119_47, i119_49, i119_49n, i119_51, i119_52, i119_55, i119_57, i119_58, i119_61, i119_62, i119_64, i119_67, i119_70, i119_72, i119_73, i119_74, i119_77, ix_pv_s, ix_pi_s, zpn, ix_po_s, ix_po_n, ix_ph_s, ix_bk_v, ix_bk_n, zcv, zcv_ne, ↓reduceIte, Nat.reduceEqDiff, zn_m1, zd_lt_p, zd_lt_n, zd_le_p, zd_le_n, zd_eq_p, zd_eq_n, zd_0_p, zd_0_n, zd_0lt_p, zd_0lt_n, zd_le0_p, zd_le0_n, zn_lt0, zn_le0, zn_add, zn_mul, zn_sub, zm_lt, zm_le, zm_eq, zb_1, zb_0, not_true_eq_false, not_false_eq_true, t0_c, t0_g0, t0_g1, t0_g2, t0_g3, t0_g4, t0_g5, t0_g6, t0_g7, t0_g8, t0_g9, t0_g10, t0_s11, t0_g12, t0_s12, t0_g13, t0_g14, t0_g15, t0_g16, t0_c, rw_c, kl]
  | k + 1, j, s, μ, h, e, hs => by
    have hb := QI_b h
    have hnw := cl_nowQ (X := X) (d := d + 3) h
    obtain ⟨μ1, a1, q1, _⟩ := cl_under (X := X) (d := d) (m := N 8 + j) h ht (by omega)
    obtain ⟨w, w1, w2⟩ := QI_un (m := N 8 + j) h ht (by omega)
    rw [w2] at a1
    obtain ⟨A, μ3, g1, g2, a3, q3⟩ := cl_meanL (x1 := x1) ht hn1 hn hp k (j + 1) (s + w) μ1 q1 (by omega) (by omega)
    refine ⟨A, μ3, by rw [waitS, w2, zn_add]; exact g1, g2, ?_, q3⟩
    rw [← a3, i119_41]
    simp (disch := first | assumption | omega | decide) only [i119_0, i119_1, i119_2, i119_5, i119_5n, i119_7, i119_7n, i119_9n, i119_9, i119_12, i119_13, i119_14, i119_16, i119_19, i119_22, i119_23, i119_24, i119_25, i119_28, i119_31, i119_34, i119_35, i119_36, i119_38, i119_39, i119_43, i119_44, i119_47, i119_49, i119_49n, i119_51, i119_52, i119_55, i119_57, i119_58, i119_61, i119_62, i119_64, i119_67, i119_70, i119_72, i119_73, i119_74, i119_77, ix_pv_s, ix_pi_s, zpn, ix_po_s, ix_po_n, ix_ph_s, ix_bk_v, ix_bk_n, zcv, zcv_ne, ↓reduceIte, Nat.reduceEqDiff, zn_m1, zd_lt_p, zd_lt_n, zd_le_p, zd_le_n, zd_eq_p, zd_eq_n, zd_0_p, zd_0_n, zd_0lt_p, zd_0lt_n, zd_le0_p, zd_le0_n, zn_lt0, zn_le0, zn_add, zn_mul, zn_sub, zm_lt, zm_le, zm_eq, zb_1, zb_0, not_true_eq_false, not_false_eq_true, t0_c, t0_g0, t0_g1, t0_g2, t0_g3, t0_g4, t0_g5, t0_g6, t0_g7, t0_g8, t0_g9, t0_g10, t0_s11, t0_g12, t0_s12, t0_g13, t0_g14, t0_g15, t0_g16, t0_c, rw_c, hnw, a1]
theorem agr_mean {a b c : Int32} : agrL X (d + 8) τ S N C Q 119 205 [.int a, .int b, .int c] := by
  intro μ h
  have hb := QI_b h
  by_cases ha : inS a (N 0)
  · have hm := mo_tree (X := X) (d := d + 6) h ha
    obtain ⟨t, ht, rfl⟩ := ha
    have hc := cl_tree (X := X) (d := d + 5) h ht
    by_cases hin : nI 1 ≤ b ∧ b ≤ nI 60
    · by_cases hin2 : nI 0 ≤ c ∧ c ≤ nI 1
      · obtain ⟨n, hn1, hn, rfl⟩ := in_nat hin (by decide) (by decide)
        obtain ⟨p, _, hp, rfl⟩ := in_nat hin2 (by decide) (by decide)
        obtain ⟨A, μ1, g1, g2, a1, q1⟩ := cl_meanL (X := X) (d := d + 3) (τ := τ) (x1 := some (.int (nI t))) ht hn1 hn hp n 0 0 μ h (by omega) (by omega)
        have hm := mo_tree (X := X) (d := d + 6) q1 (inS_p ht)
        obtain ⟨μ2, a2, q2, t2, _⟩ := mo_startQ (X := X) (d := d + 7) (l := 0) q1
        obtain ⟨μ3, a3, q3, t3, _⟩ := mo_waitQ (X := X) (d := d + 1) (k := n) q2 ht t2 hn (by simp only; omega)
        obtain ⟨t31, t32, t33⟩ := t3
        have t33' : μ3 67 15 = nI A := t33.trans g1
        have kl := mo_lowest (X := X) (d := d + 7) (H := fm_W μ3 τ) (A := A) (B := n) (p := p) g2 (by omega) hn1 hp
        refine ⟨_, μ1, μ3, Eq.trans ?_ a1, ?_, q3⟩
        · simp (disch := first | assumption | omega | decide) only [e119, i119_0, i119_1, i119_2, i119_5, i119_5n, i119_7, i119_7n, i119_9n, i119_9, i119_12, i119_13, i119_14, i119_16, i119_19, i119_22, i119_23, i119_24, i119_25, i119_28, i119_31, i119_34, i119_35, i119_36, i119_38, i119_39, i119_43, i119_44, i119_47, i119_49, i119_49n, i119_51, i119_52, i119_55, i119_57, i119_58, i119_61, i119_62, i119_64, i119_67, i119_70, i119_72, i119_73, i119_74, i119_77, ix_pv_s, ix_pi_s, zpn, ix_po_s, ix_po_n, ix_ph_s, ix_bk_v, ix_bk_n, zcv, zcv_ne, ↓reduceIte, Nat.reduceEqDiff, zn_m1, zd_lt_p, zd_lt_n, zd_le_p, zd_le_n, zd_eq_p, zd_eq_n, zd_0_p, zd_0_n, zd_0lt_p, zd_0lt_n, zd_le0_p, zd_le0_n, zn_lt0, zn_le0, zn_add, zn_mul, zn_sub, zm_lt, zm_le, zm_eq, zb_1, zb_0, not_true_eq_false, not_false_eq_true, t0_c, t0_g0, t0_g1, t0_g2, t0_g3, t0_g4, t0_g5, t0_g6, t0_g7, t0_g8, t0_g9, t0_g10, t0_s11, t0_g12, t0_s12, t0_g13, t0_g14, t0_g15, t0_g16, t0_c, rw_c, hc, cl_within, hin, hin2, and_self]
        · simp (disch := first | assumption | omega | decide) only [e205, i205_0, i205_1, i205_2, i205_5, i205_8, i205_9, i205_10, i205_12, i205_15, i205_18, i205_19, i205_20, i205_21, i205_24, i205_27, i205_30, i205_31, i205_32, i205_33, i205_36, i205_37, i205_38, i205_39, i205_42, i205_43, i205_46, i205_47, i205_48, i205_49, i205_50, i205_53, ix_pv_s, ix_pi_s, zpn, ix_po_s, ix_po_n, ix_ph_s, ix_bk_v, ix_bk_n, zcv, zcv_ne, ↓reduceIte, Nat.reduceEqDiff, zn_m1, zd_lt_p, zd_lt_n, zd_le_p, zd_le_n, zd_eq_p, zd_eq_n, zd_0_p, zd_0_n, zd_0lt_p, zd_0lt_n, zd_le0_p, zd_le0_n, zn_lt0, zn_le0, zn_add, zn_mul, zn_sub, zm_lt, zm_le, zm_eq, zb_1, zb_0, not_true_eq_false, not_false_eq_true, mo_c, mo_g0, mo_s0, mo_g1, mo_g2, mo_g3, mo_s3, mo_g4, mo_s4, mo_g5, mo_s5, mo_g6, mo_s6, mo_g7, mo_s7, mo_g8, mo_s8, mo_g9, mo_g10, mo_g11, mo_g12, mo_g13, mo_s13, mo_g14, mo_s14, mo_g15, mo_s15, mo_g16, mo_g17, mo_s17, mo_g18, mo_s18, mo_g19, mo_g20, mo_s20, mo_g21, mo_s21, mo_g22, mo_s22, mo_g23, mo_s23, ra_25, wa_25, al_25, ra_68, wa_68, al_68, ra_69, wa_69, al_69, ra_70, wa_70, al_70, ra_71, wa_71, al_71, ra_72, wa_72, al_72, ra_73, wa_73, al_73, ra_74, wa_74, al_74, ra_75, wa_75, al_75, hm, mo_in, hin, hin2, and_self, a2, a3, t33', nI_l, kl]
      · refine ⟨-9223372036854775808, μ, μ, ?_, ?_, h⟩
        · simp (disch := first | assumption | omega | decide) only [e119, i119_0, i119_1, i119_2, i119_5, i119_5n, i119_7, i119_7n, i119_9n, i119_9, i119_12, i119_13, i119_14, i119_16, i119_19, i119_22, i119_23, i119_24, i119_25, i119_28, i119_31, i119_34, i119_35, i119_36, i119_38, i119_39, i119_43, i119_44, i119_47, i119_49, i119_49n, i119_51, i119_52, i119_55, i119_57, i119_58, i119_61, i119_62, i119_64, i119_67, i119_70, i119_72, i119_73, i119_74, i119_77, ix_pv_s, ix_pi_s, zpn, ix_po_s, ix_po_n, ix_ph_s, ix_bk_v, ix_bk_n, zcv, zcv_ne, ↓reduceIte, Nat.reduceEqDiff, zn_m1, zd_lt_p, zd_lt_n, zd_le_p, zd_le_n, zd_eq_p, zd_eq_n, zd_0_p, zd_0_n, zd_0lt_p, zd_0lt_n, zd_le0_p, zd_le0_n, zn_lt0, zn_le0, zn_add, zn_mul, zn_sub, zm_lt, zm_le, zm_eq, zb_1, zb_0, not_true_eq_false, not_false_eq_true, t0_c, t0_g0, t0_g1, t0_g2, t0_g3, t0_g4, t0_g5, t0_g6, t0_g7, t0_g8, t0_g9, t0_g10, t0_s11, t0_g12, t0_s12, t0_g13, t0_g14, t0_g15, t0_g16, t0_c, rw_c, hc, cl_within, hin, hin2, and_self]
        · simp (disch := first | assumption | omega | decide) only [e205, i205_0, i205_1, i205_2, i205_5, i205_8, i205_9, i205_10, i205_12, i205_15, i205_18, i205_19, i205_20, i205_21, i205_24, i205_27, i205_30, i205_31, i205_32, i205_33, i205_36, i205_37, i205_38, i205_39, i205_42, i205_43, i205_46, i205_47, i205_48, i205_49, i205_50, i205_53, ix_pv_s, ix_pi_s, zpn, ix_po_s, ix_po_n, ix_ph_s, ix_bk_v, ix_bk_n, zcv, zcv_ne, ↓reduceIte, Nat.reduceEqDiff, zn_m1, zd_lt_p, zd_lt_n, zd_le_p, zd_le_n, zd_eq_p, zd_eq_n, zd_0_p, zd_0_n, zd_0lt_p, zd_0lt_n, zd_le0_p, zd_le0_n, zn_lt0, zn_le0, zn_add, zn_mul, zn_sub, zm_lt, zm_le, zm_eq, zb_1, zb_0, not_true_eq_false, not_false_eq_true, mo_c, mo_g0, mo_s0, mo_g1, mo_g2, mo_g3, mo_s3, mo_g4, mo_s4, mo_g5, mo_s5, mo_g6, mo_s6, mo_g7, mo_s7, mo_g8, mo_s8, mo_g9, mo_g10, mo_g11, mo_g12, mo_g13, mo_s13, mo_g14, mo_s14, mo_g15, mo_s15, mo_g16, mo_g17, mo_s17, mo_g18, mo_s18, mo_g19, mo_g20, mo_s20, mo_g21, mo_s21, mo_g22, mo_s22, mo_g23, mo_s23, ra_25, wa_25, al_25, ra_68, wa_68, al_68, ra_69, wa_69, al_69, ra_70, wa_70, al_70, ra_71, wa_71, al_71, ra_72, wa_72, al_72, ra_73, wa_73, al_73, ra_74, wa_74, al_74, ra_75, wa_75, al_75, hm, mo_in, hin, hin2, and_self]
    · refine ⟨-9223372036854775808, μ, μ, ?_, ?_, h⟩
      · simp (disch := first | assumption | omega | decide) only [e119, i119_0, i119_1, i119_2, i119_5, i119_5n, i119_7, i119_7n, i119_9n, i119_9, i119_12, i119_13, i119_14, i119_16, i119_19, i119_22, i119_23, i119_24, i119_25, i119_28, i119_31, i119_34, i119_35, i119_36, i119_38, i119_39, i119_43, i119_44, i119_47, i119_49, i119_49n, i119_51, i119_52, i119_55, i119_57, i119_58, i119_61, i119_62, i119_64, i119_67, i119_70, i119_72, i119_73, i119_74, i119_77, ix_pv_s, ix_pi_s, zpn, ix_po_s, ix_po_n, ix_ph_s, ix_bk_v, ix_bk_n, zcv, zcv_ne, ↓reduceIte, Nat.reduceEqDiff, zn_m1, zd_lt_p, zd_lt_n, zd_le_p, zd_le_n, zd_eq_p, zd_eq_n, zd_0_p, zd_0_n, zd_0lt_p, zd_0lt_n, zd_le0_p, zd_le0_n, zn_lt0, zn_le0, zn_add, zn_mul, zn_sub, zm_lt, zm_le, zm_eq, zb_1, zb_0, not_true_eq_false, not_false_eq_true, t0_c, t0_g0, t0_g1, t0_g2, t0_g3, t0_g4, t0_g5, t0_g6, t0_g7, t0_g8, t0_g9, t0_g10, t0_s11, t0_g12, t0_s12, t0_g13, t0_g14, t0_g15, t0_g16, t0_c, rw_c, hc, cl_within, hin]
      · simp (disch := first | assumption | omega | decide) only [e205, i205_0, i205_1, i205_2, i205_5, i205_8, i205_9, i205_10, i205_12, i205_15, i205_18, i205_19, i205_20, i205_21, i205_24, i205_27, i205_30, i205_31, i205_32, i205_33, i205_36, i205_37, i205_38, i205_39, i205_42, i205_43, i205_46, i205_47, i205_48, i205_49, i205_50, i205_53, ix_pv_s, ix_pi_s, zpn, ix_po_s, ix_po_n, ix_ph_s, ix_bk_v, ix_bk_n, zcv, zcv_ne, ↓reduceIte, Nat.reduceEqDiff, zn_m1, zd_lt_p, zd_lt_n, zd_le_p, zd_le_n, zd_eq_p, zd_eq_n, zd_0_p, zd_0_n, zd_0lt_p, zd_0lt_n, zd_le0_p, zd_le0_n, zn_lt0, zn_le0, zn_add, zn_mul, zn_sub, zm_lt, zm_le, zm_eq, zb_1, zb_0, not_true_eq_false, not_false_eq_true, mo_c, mo_g0, mo_s0, mo_g1, mo_g2, mo_g3, mo_s3, mo_g4, mo_s4, mo_g5, mo_s5, mo_g6, mo_s6, mo_g7, mo_s7, mo_g8, mo_s8, mo_g9, mo_g10, mo_g11, mo_g12, mo_g13, mo_s13, mo_g14, mo_s14, mo_g15, mo_s15, mo_g16, mo_g17, mo_s17, mo_g18, mo_s18, mo_g19, mo_g20, mo_s20, mo_g21, mo_s21, mo_g22, mo_s22, mo_g23, mo_s23, ra_25, wa_25, al_25, ra_68, wa_68, al_68, ra_69, wa_69, al_69, ra_70, wa_70, al_70, ra_71, wa_71, al_71, ra_72, wa_72, al_72, ra_73, wa_73, al_73, ra_74, wa_74, al_74, ra_75, wa_75, al_75, hm, mo_in, hin]
  · have hc := cl_treeN (X := X) (d := d + 5) h ha
    have hm := mo_treeN (X := X) (d := d + 6) h ha
    refine ⟨-9223372036854775808, μ, μ, ?_, ?_, h⟩
    · simp (disch := first | assumption | omega | decide) only [e119, i119_0, i119_1, i119_2, i119_5, i119_5n, i119_7, i119_7n, i119_9n, i119_9, i119_12, i119_13, i119_14, i119_16, i119_19, i119_22, i119_23, i119_24, i119_25, i119_28, i119_31, i119_34, i119_35, i119_36, i119_38, i119_39, i119_43, i119_44, i119_47, i119_49, i119_49n, i119_51, i119_52, i119_55, i119_57, i119_58, i119_61, i119_62, i119_64, i119_67, i119_70, i119_72, i119_73, i119_74, i119_77, ix_pv_s, ix_pi_s, zpn, ix_po_s, ix_po_n, ix_ph_s, ix_bk_v, ix_bk_n, zcv, zcv_ne, ↓reduceIte, Nat.reduceEqDiff, zn_m1, zd_lt_p, zd_lt_n, zd_le_p, zd_le_n, zd_eq_p, zd_eq_n, zd_0_p, zd_0_n, zd_0lt_p, zd_0lt_n, zd_le0_p, zd_le0_n, zn_lt0, zn_le0, zn_add, zn_mul, zn_sub, zm_lt, zm_le, zm_eq, zb_1, zb_0, not_true_eq_false, not_false_eq_true, t0_c, t0_g0, t0_g1, t0_g2, t0_g3, t0_g4, t0_g5, t0_g6, t0_g7, t0_g8, t0_g9, t0_g10, t0_s11, t0_g12, t0_s12, t0_g13, t0_g14, t0_g15, t0_g16, t0_c, rw_c, hc]
    · simp (disch := first | assumption | omega | decide) only [e205, i205_0, i205_1, i205_2, i205_5, i205_8, i205_9, i205_10, i205_12, i205_15, i205_18, i205_19, i205_20, i205_21, i205_24, i205_27, i205_30, i205_31, i205_32, i205_33, i205_36, i205_37, i205_38, i205_39, i205_42, i205_43, i205_46, i205_47, i205_48, i205_49, i205_50, i205_53, ix_pv_s, ix_pi_s, zpn, ix_po_s, ix_po_n, ix_ph_s, ix_bk_v, ix_bk_n, zcv, zcv_ne, ↓reduceIte, Nat.reduceEqDiff, zn_m1, zd_lt_p, zd_lt_n, zd_le_p, zd_le_n, zd_eq_p, zd_eq_n, zd_0_p, zd_0_n, zd_0lt_p, zd_0lt_n, zd_le0_p, zd_le0_n, zn_lt0, zn_le0, zn_add, zn_mul, zn_sub, zm_lt, zm_le, zm_eq, zb_1, zb_0, not_true_eq_false, not_false_eq_true, mo_c, mo_g0, mo_s0, mo_g1, mo_g2, mo_g3, mo_s3, mo_g4, mo_s4, mo_g5, mo_s5, mo_g6, mo_s6, mo_g7, mo_s7, mo_g8, mo_s8, mo_g9, mo_g10, mo_g11, mo_g12, mo_g13, mo_s13, mo_g14, mo_s14, mo_g15, mo_s15, mo_g16, mo_g17, mo_s17, mo_g18, mo_s18, mo_g19, mo_g20, mo_s20, mo_g21, mo_s21, mo_g22, mo_s22, mo_g23, mo_s23, ra_25, wa_25, al_25, ra_68, wa_68, al_68, ra_69, wa_69, al_69, ra_70, wa_70, al_70, ra_71, wa_71, al_71, ra_72, wa_72, al_72, ra_73, wa_73, al_73, ra_74, wa_74, al_74, ra_75, wa_75, al_75, hm]
end Q7
