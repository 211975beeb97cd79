/-! ===== the law: its loop, and what it takes ===== -/
--need 80.law
def lw_pc (y : Int32) : Nat := if y = nI 0 then 228 else if y = nI 1 then 251 else if y = nI 2 then 264 else if y = nI 3 then 317 else if y = nI 4 then 350 else if y = nI 5 then 383 else if y = nI 6 then 426 else if y = nI 7 then 459 else if y = nI 8 then 492 else if y = nI 9 then 535 else if y = nI 10 then 558 else if y = nI 11 then 581 else if y = nI 12 then 604 else if y = nI 13 then 637 else if y = nI 14 then 670 else if y = nI 15 then 703 else if y = nI 16 then 736 else if y = nI 17 then 769 else if y = nI 18 then 802 else if y = nI 19 then 835 else if y = nI 20 then 878 else if y = nI 21 then 901 else if y = nI 22 then 924 else if y = nI 23 then 947 else if y = nI 24 then 970 else if y = nI 25 then 1003 else if y = nI 26 then 1026 else if y = nI 27 then 1059 else if y = nI 28 then 1082 else if y = nI 29 then 1105 else if y = nI 30 then 1118 else if y = nI 31 then 1141 else if y = nI 32 then 1184 else if y = nI 33 then 1197 else if y = nI 34 then 1241 else if y = nI 35 then 1285 else if y = nI 36 then 1318 else if y = nI 37 then 1351 else if y = nI 38 then 1394 else if y = nI 39 then 1407 else if y = nI 40 then 1450 else if y = nI 41 then 1473 else if y = nI 42 then 1506 else if y = nI 43 then 1519 else if y = nI 44 then 1532 else 1555
section LZ
variable {X : ix_X} {d e i : Nat} {τ : List fm_D} {μ : fm_M} {S : Nat → Int32} {N : Nat → Nat} {C : Nat → List Nat} {Q : Nat → Nat}
theorem lw_sw {y : Int32} {L : ix_L} {st : List Value} {h : ix_H} : ix_sem X d 236 32 L (.int y :: st) h = ix_sem X d 236 (lw_pc y) L st h := by
  rw [i236_32, lw_pc]
  by_cases c0 : y = nI 0
  · rw [if_pos c0, if_pos c0]
  rw [if_neg c0, if_neg c0]
  by_cases c1 : y = nI 1
  · rw [if_pos c1, if_pos c1]
  rw [if_neg c1, if_neg c1]
  by_cases c2 : y = nI 2
  · rw [if_pos c2, if_pos c2]
  rw [if_neg c2, if_neg c2]
  by_cases c3 : y = nI 3
  · rw [if_pos c3, if_pos c3]
  rw [if_neg c3, if_neg c3]
  by_cases c4 : y = nI 4
  · rw [if_pos c4, if_pos c4]
  rw [if_neg c4, if_neg c4]
  by_cases c5 : y = nI 5
  · rw [if_pos c5, if_pos c5]
  rw [if_neg c5, if_neg c5]
  by_cases c6 : y = nI 6
  · rw [if_pos c6, if_pos c6]
  rw [if_neg c6, if_neg c6]
  by_cases c7 : y = nI 7
  · rw [if_pos c7, if_pos c7]
  rw [if_neg c7, if_neg c7]
  by_cases c8 : y = nI 8
  · rw [if_pos c8, if_pos c8]
  rw [if_neg c8, if_neg c8]
  by_cases c9 : y = nI 9
  · rw [if_pos c9, if_pos c9]
  rw [if_neg c9, if_neg c9]
  by_cases c10 : y = nI 10
  · rw [if_pos c10, if_pos c10]
  rw [if_neg c10, if_neg c10]
  by_cases c11 : y = nI 11
  · rw [if_pos c11, if_pos c11]
  rw [if_neg c11, if_neg c11]
  by_cases c12 : y = nI 12
  · rw [if_pos c12, if_pos c12]
  rw [if_neg c12, if_neg c12]
  by_cases c13 : y = nI 13
  · rw [if_pos c13, if_pos c13]
  rw [if_neg c13, if_neg c13]
  by_cases c14 : y = nI 14
  · rw [if_pos c14, if_pos c14]
  rw [if_neg c14, if_neg c14]
  by_cases c15 : y = nI 15
  · rw [if_pos c15, if_pos c15]
  rw [if_neg c15, if_neg c15]
  by_cases c16 : y = nI 16
  · rw [if_pos c16, if_pos c16]
  rw [if_neg c16, if_neg c16]
  by_cases c17 : y = nI 17
  · rw [if_pos c17, if_pos c17]
  rw [if_neg c17, if_neg c17]
  by_cases c18 : y = nI 18
  · rw [if_pos c18, if_pos c18]
  rw [if_neg c18, if_neg c18]
  by_cases c19 : y = nI 19
  · rw [if_pos c19, if_pos c19]
  rw [if_neg c19, if_neg c19]
  by_cases c20 : y = nI 20
  · rw [if_pos c20, if_pos c20]
  rw [if_neg c20, if_neg c20]
  by_cases c21 : y = nI 21
  · rw [if_pos c21, if_pos c21]
  rw [if_neg c21, if_neg c21]
  by_cases c22 : y = nI 22
  · rw [if_pos c22, if_pos c22]
  rw [if_neg c22, if_neg c22]
  by_cases c23 : y = nI 23
  · rw [if_pos c23, if_pos c23]
  rw [if_neg c23, if_neg c23]
  by_cases c24 : y = nI 24
  · rw [if_pos c24, if_pos c24]
  rw [if_neg c24, if_neg c24]
  by_cases c25 : y = nI 25
  · rw [if_pos c25, if_pos c25]
  rw [if_neg c25, if_neg c25]
  by_cases c26 : y = nI 26
  · rw [if_pos c26, if_pos c26]
  rw [if_neg c26, if_neg c26]
  by_cases c27 : y = nI 27
  · rw [if_pos c27, if_pos c27]
  rw [if_neg c27, if_neg c27]
  by_cases c28 : y = nI 28
  · rw [if_pos c28, if_pos c28]
  rw [if_neg c28, if_neg c28]
  by_cases c29 : y = nI 29
  · rw [if_pos c29, if_pos c29]
  rw [if_neg c29, if_neg c29]
  by_cases c30 : y = nI 30
  · rw [if_pos c30, if_pos c30]
  rw [if_neg c30, if_neg c30]
  by_cases c31 : y = nI 31
  · rw [if_pos c31, if_pos c31]
  rw [if_neg c31, if_neg c31]
  by_cases c32 : y = nI 32
  · rw [if_pos c32, if_pos c32]
  rw [if_neg c32, if_neg c32]
  by_cases c33 : y = nI 33
  · rw [if_pos c33, if_pos c33]
  rw [if_neg c33, if_neg c33]
  by_cases c34 : y = nI 34
  · rw [if_pos c34, if_pos c34]
  rw [if_neg c34, if_neg c34]
  by_cases c35 : y = nI 35
  · rw [if_pos c35, if_pos c35]
  rw [if_neg c35, if_neg c35]
  by_cases c36 : y = nI 36
  · rw [if_pos c36, if_pos c36]
  rw [if_neg c36, if_neg c36]
  by_cases c37 : y = nI 37
  · rw [if_pos c37, if_pos c37]
  rw [if_neg c37, if_neg c37]
  by_cases c38 : y = nI 38
  · rw [if_pos c38, if_pos c38]
  rw [if_neg c38, if_neg c38]
  by_cases c39 : y = nI 39
  · rw [if_pos c39, if_pos c39]
  rw [if_neg c39, if_neg c39]
  by_cases c40 : y = nI 40
  · rw [if_pos c40, if_pos c40]
  rw [if_neg c40, if_neg c40]
  by_cases c41 : y = nI 41
  · rw [if_pos c41, if_pos c41]
  rw [if_neg c41, if_neg c41]
  by_cases c42 : y = nI 42
  · rw [if_pos c42, if_pos c42]
  rw [if_neg c42, if_neg c42]
  by_cases c43 : y = nI 43
  · rw [if_pos c43, if_pos c43]
  rw [if_neg c43, if_neg c43]
  by_cases c44 : y = nI 44
  · rw [if_pos c44, if_pos c44]
  rw [if_neg c44, if_neg c44]
theorem lw_all {y : Int32} (hX : X.1 ≤ 2560) (hi : i + 5 ≤ X.1) (hτ : τ.length ≤ 100000) (h : QI μ τ S N C Q) : lw_out X e (lw_pc y) i μ τ := by
  rw [lw_pc]
  by_cases c0 : y = nI 0
  · rw [if_pos c0]
    exact lw_k0 hX hi h
  rw [if_neg c0]
  by_cases c1 : y = nI 1
  · rw [if_pos c1]
    exact lw_k1 hX hi h
  rw [if_neg c1]
  by_cases c2 : y = nI 2
  · rw [if_pos c2]
    exact lw_k2 hX hi hτ h
  rw [if_neg c2]
  by_cases c3 : y = nI 3
  · rw [if_pos c3]
    exact lw_k3 hX hi h
  rw [if_neg c3]
  by_cases c4 : y = nI 4
  · rw [if_pos c4]
    exact lw_k4 hX hi h
  rw [if_neg c4]
  by_cases c5 : y = nI 5
  · rw [if_pos c5]
    exact lw_k5 hX hi h
  rw [if_neg c5]
  by_cases c6 : y = nI 6
  · rw [if_pos c6]
    exact lw_k6 hX hi h
  rw [if_neg c6]
  by_cases c7 : y = nI 7
  · rw [if_pos c7]
    exact lw_k7 hX hi h
  rw [if_neg c7]
  by_cases c8 : y = nI 8
  · rw [if_pos c8]
    exact lw_k8 hX hi h
  rw [if_neg c8]
  by_cases c9 : y = nI 9
  · rw [if_pos c9]
    exact lw_k9 hX hi h
  rw [if_neg c9]
  by_cases c10 : y = nI 10
  · rw [if_pos c10]
    exact lw_k10 hX hi h
  rw [if_neg c10]
  by_cases c11 : y = nI 11
  · rw [if_pos c11]
    exact lw_k11 hX hi h
  rw [if_neg c11]
  by_cases c12 : y = nI 12
  · rw [if_pos c12]
    exact lw_k12 hX hi h
  rw [if_neg c12]
  by_cases c13 : y = nI 13
  · rw [if_pos c13]
    exact lw_k13 hX hi h
  rw [if_neg c13]
  by_cases c14 : y = nI 14
  · rw [if_pos c14]
    exact lw_k14 hX hi h
  rw [if_neg c14]
  by_cases c15 : y = nI 15
  · rw [if_pos c15]
    exact lw_k15 hX hi h
  rw [if_neg c15]
  by_cases c16 : y = nI 16
  · rw [if_pos c16]
    exact lw_k16 hX hi h
  rw [if_neg c16]
  by_cases c17 : y = nI 17
  · rw [if_pos c17]
    exact lw_k17 hX hi h
  rw [if_neg c17]
  by_cases c18 : y = nI 18
  · rw [if_pos c18]
    exact lw_k18 hX hi h
  rw [if_neg c18]
  by_cases c19 : y = nI 19
  · rw [if_pos c19]
    exact lw_k19 hX hi h
  rw [if_neg c19]
  by_cases c20 : y = nI 20
  · rw [if_pos c20]
    exact lw_k20 hX hi h
  rw [if_neg c20]
  by_cases c21 : y = nI 21
  · rw [if_pos c21]
    exact lw_k21 hX hi h
  rw [if_neg c21]
  by_cases c22 : y = nI 22
  · rw [if_pos c22]
    exact lw_k22 hX hi h
  rw [if_neg c22]
  by_cases c23 : y = nI 23
  · rw [if_pos c23]
    exact lw_k23 hX hi h
  rw [if_neg c23]
  by_cases c24 : y = nI 24
  · rw [if_pos c24]
    exact lw_k24 hX hi h
  rw [if_neg c24]
  by_cases c25 : y = nI 25
  · rw [if_pos c25]
    exact lw_k25 hX hi h
  rw [if_neg c25]
  by_cases c26 : y = nI 26
  · rw [if_pos c26]
    exact lw_k26 hX hi h
  rw [if_neg c26]
  by_cases c27 : y = nI 27
  · rw [if_pos c27]
    exact lw_k27 hX hi h
  rw [if_neg c27]
  by_cases c28 : y = nI 28
  · rw [if_pos c28]
    exact lw_k28 hX hi h
  rw [if_neg c28]
  by_cases c29 : y = nI 29
  · rw [if_pos c29]
    exact lw_k29 hX hi h
  rw [if_neg c29]
  by_cases c30 : y = nI 30
  · rw [if_pos c30]
    exact lw_k30 hX hi h
  rw [if_neg c30]
  by_cases c31 : y = nI 31
  · rw [if_pos c31]
    exact lw_k31 hX hi h
  rw [if_neg c31]
  by_cases c32 : y = nI 32
  · rw [if_pos c32]
    exact lw_k32 hX hi h
  rw [if_neg c32]
  by_cases c33 : y = nI 33
  · rw [if_pos c33]
    exact lw_k33 hX hi h
  rw [if_neg c33]
  by_cases c34 : y = nI 34
  · rw [if_pos c34]
    exact lw_k34 hX hi h
  rw [if_neg c34]
  by_cases c35 : y = nI 35
  · rw [if_pos c35]
    exact lw_k35 hX hi h
  rw [if_neg c35]
  by_cases c36 : y = nI 36
  · rw [if_pos c36]
    exact lw_k36 hX hi h
  rw [if_neg c36]
  by_cases c37 : y = nI 37
  · rw [if_pos c37]
    exact lw_k37 hX hi h
  rw [if_neg c37]
  by_cases c38 : y = nI 38
  · rw [if_pos c38]
    exact lw_k38 hX hi h
  rw [if_neg c38]
  by_cases c39 : y = nI 39
  · rw [if_pos c39]
    exact lw_k39 hX hi h
  rw [if_neg c39]
  by_cases c40 : y = nI 40
  · rw [if_pos c40]
    exact lw_k40 hX hi h
  rw [if_neg c40]
  by_cases c41 : y = nI 41
  · rw [if_pos c41]
    exact lw_k41 hX hi h
  rw [if_neg c41]
  by_cases c42 : y = nI 42
  · rw [if_pos c42]
    exact lw_k42 hX hi h
  rw [if_neg c42]
  by_cases c43 : y = nI 43
  · rw [if_pos c43]
    exact lw_k43 hX hi h
  rw [if_neg c43]
  by_cases c44 : y = nI 44
  · rw [if_pos c44]
    exact lw_k44 hX hi h
  rw [if_neg c44]
  exact ⟨μ, τ, S, N, C, Q, rfl, h, Or.inl rfl⟩
/-- slots of a description -/
def dzD (D : fm_D) : Nat := match D with
  | (0, _, ds) => ds.length
  | (_, _, ds) => ds.headD 0
def dz (T : List fm_D) : Nat := (T.map dzD).sum
theorem dz_c (D : fm_D) (f : Nat → Int32) : ix_cz (fm_c D f) = dzD D := by
  obtain ⟨a, b, ds⟩ := D
  match a with
  | 0 => simp [fm_c, ix_cz, dzD]
  | 1 => simp [fm_c, ix_cz, dzD]
  | n + 2 => simp [fm_c, ix_cz, dzD]
theorem dz_h (T : List fm_D) : ix_hz (fm_h μ T) = dz T := by
  unfold ix_hz dz
  refine congrArg List.sum ?_
  apply List.ext_getElem?
  intro k
  unfold fm_h
  rw [List.getElem?_map, List.getElem?_mapIdx, List.getElem?_map]
  cases hk : T[k]? with
  | none => rfl
  | some D =>
    simp only [Option.map_some]
    rw [dz_c]
theorem dz_app (T T' : List fm_D) : dz (T ++ T') = dz T + dz T' := by
  unfold dz
  rw [List.map_append, List.sum_append]
theorem dz_T : dz fm_T ≤ 100000 := by decide +kernel
theorem dz_W : ix_hz (fm_W μ τ) = dz fm_T + dz τ := by
  unfold fm_W
  rw [dz_h, dz_app]
theorem tde_l {k t n : Nat} : (tde k t n).length ≤ 3 ∧ dz (tde k t n) ≤ 13 := by
  unfold tde
  split <;> simp [dz, dzD]
theorem i32_neg {x : Int32} {n : Nat} (hx : x < 0) (hn : n < 2147483648) : x < nI n := Int32.lt_of_lt_of_le hx (nI_pos' hn)
theorem lw_out5 {n : Nat} (hn : n < 5) (hi : i < 2147483648) : nI n - nI 5 < nI i := by
  refine i32_neg ?_ hi
  rcases (by omega : n = 0 ∨ n = 1 ∨ n = 2 ∨ n = 3 ∨ n = 4) with rfl | rfl | rfl | rfl | rfl <;> decide
theorem lw_loop (hX : X.1 ≤ 2560) : ∀ (k m : Nat) (μ : fm_M) (τ : List fm_D) (S : Nat → Int32) (N : Nat → Nat) (C : Nat → List Nat) (Q : Nat → Nat), m + k = 513 → τ.length ≤ 3 * m → dz τ ≤ 13 * m → QI μ τ S N C Q → ∃ hF : ix_H, ix_sem X (e + 41) 236 18 [some (.retAddr 0), some (.ref 0), some (.ref 67), some (.int (nI (5 * m)))] [] (fm_W μ τ) = some (some (.int 1), hF) ∧ hF.length ≤ 600000 ∧ ix_hz hF ≤ 7302250
  | k, m, μ, τ, S, N, C, Q, hm, hl, hz, h => by
    have hXn : Int32.ofNat X.1 = nI X.1 := rfl
    by_cases hi : 5 * m + 5 ≤ X.1
    · match k with
      | 0 => omega
      | k + 1 =>
        obtain ⟨p0, n0⟩ := lw_at' (X := X) (k := 0) hX hi (by decide)
        simp only [Nat.add_zero] at p0 n0
        have h1 : ix_sem X (e + 41) 236 18 [some (.retAddr 0), some (.ref 0), some (.ref 67), some (.int (nI (5 * m)))] [] (fm_W μ τ) = ix_sem X (e + 41) 236 32 [some (.retAddr 0), some (.ref 0), some (.ref 67), some (.int (nI (5 * m)))] [.int (X.2 (5 * m) &&& nI 63)] (fm_W μ τ) := by
          simp (disch := first | assumption | omega | decide) only [i236_18, i236_19, i236_20, i236_21, i236_22, i236_23, i236_26, i236_27, i236_28, i236_29, i236_31, ix_pv_s, ix_pi_s, zpn, ix_po_s, ix_po_n, ix_ph_s, ix_bk_v, ix_bk_n, zcv, zcv_ne, ↓reduceIte, Nat.reduceEqDiff, zn_m1, zd_lt_p, zd_lt_n, zd_le_p, zd_le_n, zd_eq_p, zd_eq_n, zd_0_p, zd_0_n, zd_0lt_p, zd_0lt_n, zd_le0_p, zd_le0_n, zn_lt0, zn_le0, zn_add, zn_mul, zn_sub, zm_lt, zm_le, zm_eq, zb_1, zb_0, not_true_eq_false, not_false_eq_true, hXn, n0]
        obtain ⟨μ', τ', S', N', C', Q', a1, q, r⟩ := lw_all (X := X) (e := e) (y := X.2 (5 * m) &&& nI 63) hX hi (by omega) h
        have hl' : τ'.length ≤ 3 * (m + 1) ∧ dz τ' ≤ 13 * (m + 1) := by
          rcases r with rfl | ⟨kk, t, _, rfl⟩
          · omega
          · have := tde_l (k := kk) (t := t) (n := 76 + τ.length)
            rw [List.length_append, dz_app]
            omega
        obtain ⟨hF, f1, f2, f3⟩ := lw_loop hX k (m + 1) μ' τ' S' N' C' Q' (by omega) hl'.1 hl'.2 q
        refine ⟨hF, ?_, f2, f3⟩
        rw [h1, lw_sw, a1, ← f1, i236_1555, i236_1558, zn_add, show 5 * m + 5 = 5 * (m + 1) by omega]
    · have hlt : nI X.1 - nI 5 < nI (5 * m) := by
        by_cases h5 : X.1 < 5
        · exact lw_out5 h5 (by omega)
        · rw [zn_sub (by omega), zn_lt (by omega) (by omega)]
          omega
      refine ⟨fm_W μ τ, ?_, ?_, ?_⟩
      · rw [show (1 : Int32) = nI 1 from rfl]
        simp (disch := first | assumption | omega | decide) only [i236_18, i236_19, i236_20, i236_21, i236_22, i236_23, i236_1561, i236_1562, ix_pv_s, ix_pi_s, zpn, ix_po_s, ix_po_n, ix_ph_s, ix_bk_v, ix_bk_n, zcv, zcv_ne, ↓reduceIte, Nat.reduceEqDiff, hXn, hlt]
      · rw [fm_W_len]
        omega
      · have := dz_T
        rw [dz_W]
        omega
/-- what the constructors must give -/
def lw_start : Prop := ∀ X : ix_X, ∃ (μ : fm_M) (S : Nat → Int32) (N : Nat → Nat) (C : Nat → List Nat) (Q : Nat → Nat), ix_call X 100 236 [.retAddr 0] [] = ix_sem X 100 236 18 [some (.retAddr 0), some (.ref 0), some (.ref 67), some (.int (nI 0))] [] (fm_W μ []) ∧ QI μ [] S N C Q
theorem pure_of (hs : lw_start) : ix_pure := by
  intro L xs hL
  obtain ⟨μ, S, N, C, Q, a, q⟩ := hs (L, xs)
  obtain ⟨hF, f1, f2, f3⟩ := lw_loop (X := (L, xs)) (e := 59) hL 513 0 μ [] S N C Q rfl (Nat.le_refl _) (Nat.le_refl _) q
  exact ⟨hF, a.trans f1, f2, f3⟩
end LZ
