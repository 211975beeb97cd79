/-! ===== hold, row ===== -/
--need 57.tells
section TRE
variable {X : ix_X} {d : Nat} {τ : List fm_D} {μ μ' : fm_M} {S S' : Nat → Int32} {N : Nat → Nat} {C : Nat → List Nat} {Q : Nat → Nat}
theorem rn_eq {cs : List Nat} {u : Nat} (h : ∀ k, 11 ≤ k → k < 23 → S' k = S k) (hu : u ≤ 6) : rn S' cs u = rn S cs u := by
  funext m
  unfold rn
  split
  · rfl
  · rw [h (11 + u) (by omega) (by omega), h (17 + u) (by omega) (by omega)]
theorem QI_tr (h : QI μ τ S N C Q) (hS : ∀ k, (k < 23 ∨ (29 ≤ k ∧ k < 35) ∨ 59 ≤ k) → S' k = S k) (ho : ∀ t, t < N 0 → okN S' (23 + t) 99 ∧ ∀ k, k < 4 → okN S' (35 + 4 * t + k) 9) (hM : ∀ r, r < 76 → r ≠ 68 → μ' r = μ r) (h68 : μ' 68 = S')
    (hT : ∀ t, t < N 0 → μ' (Q t) 1 = S' (23 + t) ∧ μ' (Q t) 2 = μ (Q t) 2 ∧ (S (11 + t) = nI 6 → (∀ k, k < 4 → μ' (Q t + 1) k = S' (35 + 4 * t + k)) ∧ ∀ k, k < 4 → μ' (Q t + 2) k = μ (Q t + 2) k)) : QI μ' τ S' N C Q := by
  obtain ⟨⟨i1, i2, i3, i4, i5, i6, i7, i8, i9, i10⟩, ⟨j1, j2, j3, j4, j5⟩, hc, hm⟩ := h
  have hok : ∀ k b, (k < 23 ∨ (29 ≤ k ∧ k < 35) ∨ 59 ≤ k) → okN S k b → okN S' k b := fun k b hk' ho => by
    obtain ⟨m, m1, m2⟩ := ho
    exact ⟨m, m1, (hS k (by omega)).trans m2⟩
  obtain ⟨b0, b1, b2, b3, b4, b5, b6, b8, b9, b10⟩ := id i2
  have hrn : ∀ (cs : List Nat) (u : Nat), u ≤ 6 → rn S' cs u = rn S cs u := fun cs u hu => rn_eq (fun k a b => hS k (by omega)) hu
  refine ⟨⟨fun k k1 k2 => (hS k (by omega)).trans (i1 k k1 k2), i2, (hS 7 (by omega)).trans i3, ?_, ?_, ?_, ?_, ?_, ?_, ?_⟩, ⟨?_, ?_, ?_, ?_, ?_⟩, ?_, ?_⟩
  · intro t ht
    obtain ⟨a, b, c, e⟩ := i4 t ht
    exact ⟨hok _ _ (by omega) a, hok _ _ (by omega) b, (ho t ht).1, hok _ _ (by omega) e⟩
  · intro i hi
    obtain ⟨⟨m, a, b, c⟩, e⟩ := i5 i hi
    exact ⟨⟨m, a, b, (hS _ (by omega)).trans c⟩, hok _ _ (by omega) e⟩
  · intro i hi
    obtain ⟨a, b⟩ := i6 i hi
    rw [hS (69 + i) (by omega)]
    exact ⟨a, hok _ _ (by omega) b⟩
  · intro i hi
    obtain ⟨a, b⟩ := i7 i hi
    rw [hS (77 + i) (by omega)]
    exact ⟨a, hok _ _ (by omega) b⟩
  · intro i hi
    obtain ⟨a, b, c⟩ := i8 i hi
    rw [hS (85 + i) (by omega)]
    exact ⟨a, hok _ _ (by omega) b, hok _ _ (by omega) c⟩
  · intro a ha
    obtain ⟨c1, c2, c3, c4, c5, c6⟩ := i9 a ha
    refine ⟨(hS _ (by omega)).trans c1, c2, fun i hi => (hS _ (by omega)).trans (c3 i hi), c4, hok _ _ (by omega) c5, hok _ _ (by omega) c6⟩
  · exact fun t ht => (ho t ht).2
  · obtain ⟨g1, g2, g3, g4, g5, g6⟩ := j1
    unfold rsI rwI
    unfold rwI at g1 g2 g3 g4 g5 g6
    rw [hM 1 (by decide) (by decide), hM 2 (by decide) (by decide), hM 4 (by decide) (by decide), hM 5 (by decide) (by decide), hM 7 (by decide) (by decide), hM 8 (by decide) (by decide), hM 10 (by decide) (by decide), hM 11 (by decide) (by decide), hM 13 (by decide) (by decide), hM 14 (by decide) (by decide), hM 16 (by decide) (by decide), hM 17 (by decide) (by decide), hS 8 (by omega), hS 9 (by omega), hS 10 (by omega), hS 2 (by omega), hS 0 (by omega), hS 6 (by omega), hS 1 (by omega), hS 3 (by omega), hS 4 (by omega), hS 5 (by omega)]
    refine ⟨g1, ⟨g2.1, fun i hi => ?_⟩, ⟨g3.1, fun i hi => ?_⟩, ⟨g4.1, fun i hi => ?_⟩, ⟨g5.1, fun i hi => ?_⟩, ⟨g6.1, fun i hi => ?_⟩⟩
    · rw [hS (109 + i) (by omega)]; exact g2.2 i hi
    · rw [hS (59 + i) (by omega), hS (64 + i) (by omega)]; exact g3.2 i hi
    · rw [hS (69 + i) (by omega), hS (73 + i) (by omega)]; exact g4.2 i hi
    · rw [hS (77 + i) (by omega), hS (81 + i) (by omega)]; exact g5.2 i hi
    · rw [hS (85 + i) (by omega), hS (93 + i) (by omega), hS (101 + i) (by omega)]; exact g6.2 i hi
  · unfold boI rwI at j2 ⊢
    rw [hM 19 (by decide) (by decide), hM 20 (by decide) (by decide), hM 67 (by decide) (by decide), hM 75 (by decide) (by decide)]
    exact j2
  · refine ⟨fun t ht => ?_, j3.2⟩
    obtain ⟨a, b, ⟨kind, c1, c2, c3, c4, c5⟩, e⟩ := j3.1 t ht
    obtain ⟨t1, t2, t3⟩ := hT t ht
    refine ⟨by rw [hM 22 (by decide) (by decide)]; exact a, b, ⟨kind, (hS _ (by omega)).trans c1, c2, c3, t1, fun h6 => ⟨(c5 h6).1, (t3 (by rw [c1, h6])).1⟩⟩, by rw [hM (52 + 2 * t) (by omega) (by omega), hS (29 + t) (by omega)]; exact e⟩
  · obtain ⟨a, b, c, e, f, g⟩ := j4
    refine ⟨fun i hi => by rw [hM 23 (by decide) (by decide), hM 24 (by decide) (by decide), hM (52 + 2 * i) (by omega) (by omega), hM (53 + 2 * i) (by omega) (by omega)]; exact a i hi, by rw [hM 0 (by decide) (by decide)]; exact b, pr_cs_of c (hM 26 (by decide) (by decide)) (hM 27 (by decide) (by decide)), by rw [hM 26 (by decide) (by decide)]; exact e, by rw [hM 26 (by decide) (by decide)]; exact f, fun x hx => ?_⟩
    obtain ⟨y1, y2, y3⟩ := g x hx
    refine ⟨pr_cs_of y1 (hM _ (by omega) (by omega)) (hM _ (by omega) (by omega)), ?_, ?_⟩
    · rw [hM (30 + 4 * x) (by omega) (by omega), hS (209 + x) (by omega)]
      exact y2
    · rw [hM (30 + 4 * x) (by omega) (by omega), hS (214 + x) (by omega)]
      exact y3
  · unfold imI at j5 ⊢
    rw [hM 0 (by decide) (by decide), hM 67 (by decide) (by decide)]
    rcases j5 with j5 | ⟨y1, y2, I, M, hk'⟩
    · exact Or.inl j5
    · refine Or.inr ⟨y1, y2, I, M, ?_⟩
      unfold kpI at hk' ⊢
      obtain ⟨k1, k2, k3, k4, k5, k6, k7, k8, k9, k10, k11, k12⟩ := hk'
      rw [hM 69 (by decide) (by decide), hM 1 (by decide) (by decide), hM 3 (by decide) (by decide), hM 4 (by decide) (by decide), hM 6 (by decide) (by decide), hM 7 (by decide) (by decide), hM 9 (by decide) (by decide), hM 10 (by decide) (by decide), hM 12 (by decide) (by decide), hM 13 (by decide) (by decide), hM 15 (by decide) (by decide), hM 16 (by decide) (by decide), hM 18 (by decide) (by decide)]
      refine ⟨k1, k2, k3, k4, k5, k6, k7, k8, k9, k10, fun t ht => ?_, fun a ha => ?_⟩
      · obtain ⟨z1, z2, z3, z4, z5⟩ := k11 t ht
        obtain ⟨t1, t2, t3⟩ := hT t (by omega)
        rw [hS (11 + t) (by omega), hS (17 + t) (by omega), hS (29 + t) (by omega), t2]
        refine ⟨z1, z2, z3, z4, fun h6 k hk => ?_⟩
        rw [(t3 h6).2 k hk]
        exact z5 h6 k hk
      · obtain ⟨z1, z2⟩ := k12 a ha
        rw [hS (209 + a) (by omega), hS (214 + a) (by omega)]
        exact ⟨z1, z2⟩
  · obtain ⟨c1, c2, c3⟩ := hc
    have p1 := pk_cases c2.1
    refine ⟨c1, pr_cs_of c2 (hM _ (by omega) (by omega)) (hM _ (by omega) (by omega)), fun u hu => ?_⟩
    have q1 : μ' (spp u) = μ (spp u) := hM _ (by unfold spp; split <;> omega) (by unfold spp; split <;> omega)
    have q2 : μ' (spp u + 1) = μ (spp u + 1) := hM _ (by unfold spp; split <;> omega) (by unfold spp; split <;> omega)
    have := c3 u hu
    unfold spK at this ⊢
    rw [q1, q2, hrn _ u (by omega)]
    rcases hu with hu | hu
    · have hu6 : u < 6 := by omega
      rw [hS (11 + u) (by omega), hS (17 + u) (by omega)]
      exact this
    · simp only [if_pos hu] at this ⊢
      exact this
  · obtain ⟨⟨m1, m2, m3⟩, m4⟩ := hm
    refine ⟨⟨m1, ?_, fun u hu => ?_⟩, h68⟩
    · rw [h68]
      rw [m4] at m2
      rcases m2 with ⟨y1, y2⟩ | ⟨a, y1, y2, y3, y4, y5, y6⟩
      · exact Or.inl ⟨(hS 7 (by omega)).trans y1, y2⟩
      · exact Or.inr ⟨a, y1, (hS 7 (by omega)).trans y2, (hS _ (by omega)).trans y3, y4, fun i hi => (hS _ (by omega)).trans (y5 i hi), y6⟩
    · rw [h68, hrn _ u (by omega)]
      have := m3 u hu
      rw [m4] at this
      exact fk_of this (by rw [hM 73 (by decide) (by decide)]) (fun k _ => by rw [hM 72 (by decide) (by decide)])
/-- a tree's place is no other's, nor its rows' -/
theorem QI_sep (h : QI μ τ S N C Q) {t t' : Nat} (ht : t < N 0) (ht' : t' < N 0) (hne : t ≠ t') : Q t ≠ Q t' := by
  have := h.2.1.2.2.1.2
  rcases Nat.lt_or_ge t t' with hl | hl
  · have := this t t' hl ht'
    omega
  · have := this t' t (by omega) ht
    omega
theorem QI_arr (h : QI μ τ S N C Q) {t t' : Nat} (ht : t < N 0) (ho : toO τ (Q t') t') : Q t ≠ Q t' + 1 ∧ Q t ≠ Q t' + 2 := by
  obtain ⟨c, rest, hO⟩ := QI_trO h ht
  refine ⟨fun e => ?_, fun e => ?_⟩
  · have h1 := hO.1
    rw [e, ho.2.1] at h1
    exact absurd (Option.some.inj h1) (by simp)
  · have h1 := hO.1
    rw [e, ho.2.2] at h1
    exact absurd (Option.some.inj h1) (by simp)
theorem QI_told (h : QI μ τ S N C Q) {t : Nat} (ht : t < N 0) (h6 : S (11 + t) = nI 6) : toO τ (Q t) t ∧ ∀ k, k < 4 → μ (Q t + 1) k = S (35 + 4 * t + k) := by
  obtain ⟨_, _, ⟨kind, c1, c2, c3, c4, c5⟩, _⟩ := QI_tree h ht
  have e : kind = 6 := by
    rw [h6] at c1
    exact ((nI_eq (by omega) (by omega)).mp c1).symm
  exact c5 e
theorem QI_ho (h : QI μ τ S N C Q) {t n : Nat} {μ1 μ2 : fm_M} (ht : t < N 0) (hn : n ≤ 99) (hμ1 : μ1 = fm_u μ (Q t) 1 (nI n)) (hμ2 : μ2 = fm_u μ1 68 (23 + t) (nI n)) : QI μ2 τ (upd S (23 + t) (nI n)) N C Q := by
  have hb := QI_b h
  have h76 : ∀ t, t < N 0 → 76 ≤ Q t := fun t ht => by
    obtain ⟨c, rest, hO⟩ := QI_trO h ht
    exact hO.2.1
  have e68 := QI_68 h
  have q76 := h76 t ht
  have row : ∀ r, r ≠ 68 → r ≠ Q t → μ2 r = μ r := fun r a b => by rw [hμ2, fm_un a, hμ1, fm_un b]
  have qt : ∀ k, k ≠ 1 → μ2 (Q t) k = μ (Q t) k := fun k a => by rw [hμ2, fm_un (by omega), hμ1, fm_uk a]
  have q1 : μ2 (Q t) 1 = nI n := by rw [hμ2, fm_un (by omega), hμ1, fm_us]
  refine QI_tr h (fun k hk => pk_un (by omega)) (fun t' ht' => ⟨?_, fun k hk => ?_⟩) (fun r a b => row r b (by omega)) (by rw [hμ2, fm_uu, hμ1, fm_un (by omega), e68]) (fun t' ht' => ?_)
  · by_cases e : t' = t
    · subst e
      exact ⟨n, hn, pk_us⟩
    · obtain ⟨m, m1, m2⟩ := (QI_v h ht').2.2.1
      exact ⟨m, m1, (pk_un (by omega)).trans m2⟩
  · obtain ⟨m, m1, m2⟩ := h.1.2.2.2.2.2.2.2.2.2 t' ht' k hk
    exact ⟨m, m1, (pk_un (by omega)).trans m2⟩
  · have k76 := h76 t' ht'
    have arr : S (11 + t') = nI 6 → (∀ k, k < 4 → μ2 (Q t' + 1) k = (upd S (23 + t) (nI n)) (35 + 4 * t' + k)) ∧ ∀ k, k < 4 → μ2 (Q t' + 2) k = μ (Q t' + 2) k := fun h6 => by
      obtain ⟨ho, hr⟩ := QI_told h ht' h6
      obtain ⟨a1, a2⟩ := QI_arr h ht ho
      exact ⟨fun k hk => by rw [row _ (by omega) (Ne.symm a1), pk_un (by omega)]; exact hr k hk, fun k hk => by rw [row _ (by omega) (Ne.symm a2)]⟩
    by_cases e : t' = t
    · subst e
      exact ⟨q1.trans pk_us.symm, qt 2 (by decide), arr⟩
    · have hs := QI_sep h ht' ht e
      obtain ⟨_, _, ⟨kind, hT⟩, _⟩ := QI_tree h ht'
      refine ⟨?_, by rw [row _ (by omega) hs], arr⟩
      rw [row _ (by omega) hs, pk_un (by omega)]
      exact hT.2.2.2.1
theorem QI_ro (h : QI μ τ S N C Q) {t k n : Nat} {μ1 μ2 : fm_M} (ht : t < N 0) (h6 : S (11 + t) = nI 6) (hk : k < 4) (hn : n ≤ 9) (hμ1 : μ1 = fm_u μ (Q t + 1) k (nI n)) (hμ2 : μ2 = fm_u μ1 68 (35 + 4 * t + k) (nI n)) : QI μ2 τ (upd S (35 + 4 * t + k) (nI n)) N C Q := by
  have hb := QI_b h
  have h76 : ∀ t, t < N 0 → 76 ≤ Q t := fun t ht => by
    obtain ⟨c, rest, hO⟩ := QI_trO h ht
    exact hO.2.1
  have e68 := QI_68 h
  have q76 := h76 t ht
  obtain ⟨ho, hr⟩ := QI_told h ht h6
  have row : ∀ r, r ≠ 68 → r ≠ Q t + 1 → μ2 r = μ r := fun r a b => by rw [hμ2, fm_un a, hμ1, fm_un b]
  have qr : μ2 (Q t + 1) = upd (μ (Q t + 1)) k (nI n) := by rw [hμ2, fm_un (by omega), hμ1, fm_uu]
  refine QI_tr h (fun k hk => pk_un (by omega)) (fun t' ht' => ⟨?_, fun j hj => ?_⟩) (fun r a b => row r b (by omega)) (by rw [hμ2, fm_uu, hμ1, fm_un (by omega), e68]) (fun t' ht' => ?_)
  · obtain ⟨m, m1, m2⟩ := (QI_v h ht').2.2.1
    exact ⟨m, m1, (pk_un (by omega)).trans m2⟩
  · by_cases e : 35 + 4 * t' + j = 35 + 4 * t + k
    · rw [e]
      exact ⟨n, hn, pk_us⟩
    · obtain ⟨m, m1, m2⟩ := h.1.2.2.2.2.2.2.2.2.2 t' ht' j hj
      exact ⟨m, m1, (pk_un e).trans m2⟩
  · have k76 := h76 t' ht'
    obtain ⟨a1, a2⟩ := QI_arr h ht' ho
    obtain ⟨_, _, ⟨kind, hT⟩, _⟩ := QI_tree h ht'
    refine ⟨?_, by rw [row _ (by omega) a1], fun h6' => ?_⟩
    · rw [row _ (by omega) a1, pk_un (by omega)]
      exact hT.2.2.2.1
    · obtain ⟨ho', hr'⟩ := QI_told h ht' h6'
      obtain ⟨c1, c2⟩ := QI_arr h ht ho'
      refine ⟨fun j hj => ?_, fun j hj => by rw [row _ (by omega) (by omega)]⟩
      by_cases e : t' = t
      · subst e
        rw [qr]
        by_cases ej : j = k
        · subst ej
          rw [pk_us, pk_us]
        · rw [pk_un ej, pk_un (by omega)]
          exact hr j hj
      · have hs := QI_sep h ht' ht e
        rw [row _ (by omega) (by omega), pk_un (by omega)]
        exact hr' j hj
theorem agm_hold {a b : Int32} : agm X (d + 6) τ S N C Q 76 161 [.int a, .int b] := by
  intro μ h
  have hb := QI_b h
  have e68 := QI_68 h
  have e0 := QI_S h (k := 0) (by decide) (by decide)
  by_cases ha : inS a (N 0)
  · have hm := mo_tree (X := X) (d := d + 4) h ha
    obtain ⟨t, ht, rfl⟩ := ha
    have hc := cl_tree (X := X) (d := d + 3) h ht
    by_cases hin : nI 0 ≤ b ∧ b ≤ nI 99
    · obtain ⟨n, _, hn, rfl⟩ := in_nat hin (by decide) (by decide)
      obtain ⟨c, rest, hO⟩ := QI_trO h ht
      have hcc := hO.2.2
      obtain ⟨_, _, ⟨kind, hT⟩, _⟩ := QI_tree h ht
      have hh := hT.2.2.2.1
      have h76 := hO.2.1
      obtain ⟨μ1, hμ1⟩ : ∃ μ1, μ1 = fm_u μ (Q t) 1 (nI n) := ⟨_, rfl⟩
      have f68 : μ1 68 = S := by rw [hμ1, fm_un (by omega), e68]
      have hm := mo_isTree (X := X) (d := d + 4) (τ := τ) (μ := μ1) (a := nI t) (n := N 0) (by rw [f68]; exact e0) (by omega) (inS_p ht)
      refine ⟨S (23 + t), μ1, _, _, _, C, Q, ?_, ?_, QI_ho h ht hn hμ1 rfl⟩
      · rw [hμ1]
        simp (disch := first | assumption | omega | decide) only [e76, i76_0, i76_1, i76_2, i76_5, i76_5n, i76_6, i76_6n, i76_7n, i76_7, i76_10, i76_11, i76_12, i76_13, i76_14, i76_16, i76_19, i76_22, i76_24, i76_25, i76_25n, i76_26, i76_29, i76_31, i76_31n, i76_32, i76_33, i76_36, i76_38, ix_pv_s, ix_pi_s, zpn, ix_po_s, ix_po_n, ix_ph_s, ix_bk_v, ix_bk_n, zcv, zcv_ne, ↓reduceIte, Nat.reduceEqDiff, zn_m1, zd_lt_p, zd_lt_n, zd_le_p, zd_le_n, zd_eq_p, zd_eq_n, zd_0_p, zd_0_n, zd_0lt_p, zd_0lt_n, zd_le0_p, zd_le0_n, zn_lt0, zn_le0, zn_add, zn_mul, zn_sub, zm_lt, zm_le, zm_eq, zb_1, zb_0, not_true_eq_false, not_false_eq_true, t0_c, t0_g0, t0_g1, t0_g2, t0_g3, t0_g4, t0_g5, t0_g6, t0_g7, t0_g8, t0_g9, t0_g10, t0_s11, t0_g12, t0_s12, t0_g13, t0_g14, t0_g15, t0_g16, t0_c, rw_c, hc, cl_within, hin, and_self, tr_g1 hO, tr_s1 hO, hh]
      · simp (disch := first | assumption | omega | decide) only [e161, i161_0, i161_1, i161_2, i161_5, i161_8, i161_9, i161_10, i161_11, i161_12, i161_14, i161_17, i161_20, i161_22, i161_23, i161_24, i161_27, i161_29, i161_30, i161_31, i161_32, i161_33, i161_34, i161_37, i161_39, i161_40, i161_41, i161_42, i161_43, i161_44, ix_pv_s, ix_pi_s, zpn, ix_po_s, ix_po_n, ix_ph_s, ix_bk_v, ix_bk_n, zcv, zcv_ne, ↓reduceIte, Nat.reduceEqDiff, zn_m1, zd_lt_p, zd_lt_n, zd_le_p, zd_le_n, zd_eq_p, zd_eq_n, zd_0_p, zd_0_n, zd_0lt_p, zd_0lt_n, zd_le0_p, zd_le0_n, zn_lt0, zn_le0, zn_add, zn_mul, zn_sub, zm_lt, zm_le, zm_eq, zb_1, zb_0, not_true_eq_false, not_false_eq_true, mo_c, mo_g0, mo_s0, mo_g1, mo_g2, mo_g3, mo_s3, mo_g4, mo_s4, mo_g5, mo_s5, mo_g6, mo_s6, mo_g7, mo_s7, mo_g8, mo_s8, mo_g9, mo_g10, mo_g11, mo_g12, mo_g13, mo_s13, mo_g14, mo_s14, mo_g15, mo_s15, mo_g16, mo_g17, mo_s17, mo_g18, mo_s18, mo_g19, mo_g20, mo_s20, mo_g21, mo_s21, mo_g22, mo_s22, mo_g23, mo_s23, ra_25, wa_25, al_25, ra_68, wa_68, al_68, ra_69, wa_69, al_69, ra_70, wa_70, al_70, ra_71, wa_71, al_71, ra_72, wa_72, al_72, ra_73, wa_73, al_73, ra_74, wa_74, al_74, ra_75, wa_75, al_75, hm, mo_in, hin, and_self, f68]
    · refine ⟨-2, μ, μ, S, N, C, Q, ?_, ?_, h⟩
      · simp (disch := first | assumption | omega | decide) only [e76, i76_0, i76_1, i76_2, i76_5, i76_5n, i76_6, i76_6n, i76_7n, i76_7, i76_10, i76_11, i76_12, i76_13, i76_14, i76_16, i76_19, i76_22, i76_24, i76_25, i76_25n, i76_26, i76_29, i76_31, i76_31n, i76_32, i76_33, i76_36, i76_38, ix_pv_s, ix_pi_s, zpn, ix_po_s, ix_po_n, ix_ph_s, ix_bk_v, ix_bk_n, zcv, zcv_ne, ↓reduceIte, Nat.reduceEqDiff, zn_m1, zd_lt_p, zd_lt_n, zd_le_p, zd_le_n, zd_eq_p, zd_eq_n, zd_0_p, zd_0_n, zd_0lt_p, zd_0lt_n, zd_le0_p, zd_le0_n, zn_lt0, zn_le0, zn_add, zn_mul, zn_sub, zm_lt, zm_le, zm_eq, zb_1, zb_0, not_true_eq_false, not_false_eq_true, t0_c, t0_g0, t0_g1, t0_g2, t0_g3, t0_g4, t0_g5, t0_g6, t0_g7, t0_g8, t0_g9, t0_g10, t0_s11, t0_g12, t0_s12, t0_g13, t0_g14, t0_g15, t0_g16, t0_c, rw_c, hc, cl_within, hin]
      · simp (disch := first | assumption | omega | decide) only [e161, i161_0, i161_1, i161_2, i161_5, i161_8, i161_9, i161_10, i161_11, i161_12, i161_14, i161_17, i161_20, i161_22, i161_23, i161_24, i161_27, i161_29, i161_30, i161_31, i161_32, i161_33, i161_34, i161_37, i161_39, i161_40, i161_41, i161_42, i161_43, i161_44, ix_pv_s, ix_pi_s, zpn, ix_po_s, ix_po_n, ix_ph_s, ix_bk_v, ix_bk_n, zcv, zcv_ne, ↓reduceIte, Nat.reduceEqDiff, zn_m1, zd_lt_p, zd_lt_n, zd_le_p, zd_le_n, zd_eq_p, zd_eq_n, zd_0_p, zd_0_n, zd_0lt_p, zd_0lt_n, zd_le0_p, zd_le0_n, zn_lt0, zn_le0, zn_add, zn_mul, zn_sub, zm_lt, zm_le, zm_eq, zb_1, zb_0, not_true_eq_false, not_false_eq_true, mo_c, mo_g0, mo_s0, mo_g1, mo_g2, mo_g3, mo_s3, mo_g4, mo_s4, mo_g5, mo_s5, mo_g6, mo_s6, mo_g7, mo_s7, mo_g8, mo_s8, mo_g9, mo_g10, mo_g11, mo_g12, mo_g13, mo_s13, mo_g14, mo_s14, mo_g15, mo_s15, mo_g16, mo_g17, mo_s17, mo_g18, mo_s18, mo_g19, mo_g20, mo_s20, mo_g21, mo_s21, mo_g22, mo_s22, mo_g23, mo_s23, ra_25, wa_25, al_25, ra_68, wa_68, al_68, ra_69, wa_69, al_69, ra_70, wa_70, al_70, ra_71, wa_71, al_71, ra_72, wa_72, al_72, ra_73, wa_73, al_73, ra_74, wa_74, al_74, ra_75, wa_75, al_75, hm, mo_in, hin]
  · have hc := cl_treeN (X := X) (d := d + 3) h ha
    have hm := mo_treeN (X := X) (d := d + 4) h ha
    refine ⟨-1, μ, μ, S, N, C, Q, ?_, ?_, h⟩
    · simp (disch := first | assumption | omega | decide) only [e76, i76_0, i76_1, i76_2, i76_5, i76_5n, i76_6, i76_6n, i76_7n, i76_7, i76_10, i76_11, i76_12, i76_13, i76_14, i76_16, i76_19, i76_22, i76_24, i76_25, i76_25n, i76_26, i76_29, i76_31, i76_31n, i76_32, i76_33, i76_36, i76_38, ix_pv_s, ix_pi_s, zpn, ix_po_s, ix_po_n, ix_ph_s, ix_bk_v, ix_bk_n, zcv, zcv_ne, ↓reduceIte, Nat.reduceEqDiff, zn_m1, zd_lt_p, zd_lt_n, zd_le_p, zd_le_n, zd_eq_p, zd_eq_n, zd_0_p, zd_0_n, zd_0lt_p, zd_0lt_n, zd_le0_p, zd_le0_n, zn_lt0, zn_le0, zn_add, zn_mul, zn_sub, zm_lt, zm_le, zm_eq, zb_1, zb_0, not_true_eq_false, not_false_eq_true, t0_c, t0_g0, t0_g1, t0_g2, t0_g3, t0_g4, t0_g5, t0_g6, t0_g7, t0_g8, t0_g9, t0_g10, t0_s11, t0_g12, t0_s12, t0_g13, t0_g14, t0_g15, t0_g16, t0_c, rw_c, hc]
    · simp (disch := first | assumption | omega | decide) only [e161, i161_0, i161_1, i161_2, i161_5, i161_8, i161_9, i161_10, i161_11, i161_12, i161_14, i161_17, i161_20, i161_22, i161_23, i161_24, i161_27, i161_29, i161_30, i161_31, i161_32, i161_33, i161_34, i161_37, i161_39, i161_40, i161_41, i161_42, i161_43, i161_44, ix_pv_s, ix_pi_s, zpn, ix_po_s, ix_po_n, ix_ph_s, ix_bk_v, ix_bk_n, zcv, zcv_ne, ↓reduceIte, Nat.reduceEqDiff, zn_m1, zd_lt_p, zd_lt_n, zd_le_p, zd_le_n, zd_eq_p, zd_eq_n, zd_0_p, zd_0_n, zd_0lt_p, zd_0lt_n, zd_le0_p, zd_le0_n, zn_lt0, zn_le0, zn_add, zn_mul, zn_sub, zm_lt, zm_le, zm_eq, zb_1, zb_0, not_true_eq_false, not_false_eq_true, mo_c, mo_g0, mo_s0, mo_g1, mo_g2, mo_g3, mo_s3, mo_g4, mo_s4, mo_g5, mo_s5, mo_g6, mo_s6, mo_g7, mo_s7, mo_g8, mo_s8, mo_g9, mo_g10, mo_g11, mo_g12, mo_g13, mo_s13, mo_g14, mo_s14, mo_g15, mo_s15, mo_g16, mo_g17, mo_s17, mo_g18, mo_s18, mo_g19, mo_g20, mo_s20, mo_g21, mo_s21, mo_g22, mo_s22, mo_g23, mo_s23, ra_25, wa_25, al_25, ra_68, wa_68, al_68, ra_69, wa_69, al_69, ra_70, wa_70, al_70, ra_71, wa_71, al_71, ra_72, wa_72, al_72, ra_73, wa_73, al_73, ra_74, wa_74, al_74, ra_75, wa_75, al_75, hm]
theorem ck3_8 : ix_ck3 (some 8) [8] = true := rfl
theorem cl_setMore {q t k n : Nat} (ho : toO τ q t) (hk : k < 4) : ix_call X d 44 [.ref q, .int (nI k), .int (nI n)] (fm_W μ τ) = some (some (.int (μ (q + 1) k)), fm_W (fm_u μ (q + 1) k (nI n)) τ) := by
  have h1 := tr_c (μ := μ) ho.1
  simp (disch := first | assumption | omega | decide) only [e44, i44_0, i44_1, i44_4, i44_5, i44_6, i44_9, i44_10, i44_13, i44_14, i44_15, i44_16, i44_19, i44_20, i44_21, i44_22, i44_23, i44_26, i44_27, i44_28, i44_29, i44_30, ix_pv_s, ix_pi_s, zpn, ix_po_s, ix_po_n, ix_ph_s, ix_bk_v, ix_bk_n, zcv, zcv_ne, ↓reduceIte, Nat.reduceEqDiff, zn_m1, zd_lt_p, zd_lt_n, zd_le_p, zd_le_n, zd_eq_p, zd_eq_n, zd_0_p, zd_0_n, zd_0lt_p, zd_0lt_n, zd_le0_p, zd_le0_n, zn_lt0, zn_le0, zn_add, zn_mul, zn_sub, zm_lt, zm_le, zm_eq, zb_1, zb_0, not_true_eq_false, not_false_eq_true, h1, to_g3 ho, to_al1 ho, to_ra1 ho, to_wa1 ho]
theorem agm_row {a b c : Int32} : agm X (d + 6) τ S N C Q 77 162 [.int a, .int b, .int c] := by
  intro μ h
  have hb := QI_b h
  have e68 := QI_68 h
  have e0 := QI_S h (k := 0) (by decide) (by decide)
  by_cases ha : inS a (N 0)
  · have hm := mo_tree (X := X) (d := d + 4) h ha
    obtain ⟨t, ht, rfl⟩ := ha
    have hc := cl_tree (X := X) (d := d + 3) h ht
    by_cases hin : nI 0 ≤ b ∧ b ≤ nI 3
    · by_cases hin2 : nI 0 ≤ c ∧ c ≤ nI 9
      · obtain ⟨k, _, hk, rfl⟩ := in_nat hin (by decide) (by decide)
        obtain ⟨n, _, hn, rfl⟩ := in_nat hin2 (by decide) (by decide)
        obtain ⟨_, _, ⟨kind, hT⟩, _⟩ := QI_tree h ht
        obtain ⟨rest, hO⟩ := hT.2.2.1
        have hcl := tr_c (μ := μ) hO
        have hkd := hT.1
        have hk6 := hT.2.1
        by_cases h6 : kind = 6
        · subst h6
          obtain ⟨ho, hr⟩ := QI_told h ht hkd
          have hcl8 : ix_cls (fm_W μ τ) (Q t) = some 8 := hcl
          have hck : ix_ck3 (ix_cls (fm_W μ τ) (Q t)) [8] = true := by rw [hcl8]; rfl
          have k1 := cl_setMore (X := X) (d := d + 5) (μ := μ) (n := n) ho (show k < 4 by omega)
          rw [hr k (by omega)] at k1
          obtain ⟨μ1, hμ1⟩ : ∃ μ1, μ1 = fm_u μ (Q t + 1) k (nI n) := ⟨_, rfl⟩
          rw [← hμ1] at k1
          have h76 := hO.2.1
          have f68 : μ1 68 = S := by rw [hμ1, fm_un (by omega), e68]
          have hm := mo_isTree (X := X) (d := d + 4) (τ := τ) (μ := μ1) (a := nI t) (n := N 0) (by rw [f68]; exact e0) (by omega) (inS_p ht)
          have i8 : ix_in3 (some 8) [8] [0, 1, 2, 6, 7, 9] = some (nI 1) := rfl
          refine ⟨S (35 + 4 * t + k), μ1, _, _, _, C, Q, ?_, ?_, QI_ro h ht hkd (by omega) hn hμ1 rfl⟩
          · simp (disch := first | assumption | omega | decide) only [e77, i77_0, i77_1, i77_2, i77_5, i77_5n, i77_7, i77_7n, i77_9n, i77_9, i77_12, i77_13, i77_14, i77_15, i77_18, i77_21, i77_22, i77_23, i77_24, i77_25, i77_27, i77_30, i77_33, i77_35, i77_36, i77_36n, i77_38, i77_41, i77_44, i77_44n, i77_46, i77_49, i77_49n, i77_51, i77_51n, i77_53, i77_54, i77_55, i77_58, i77_59, i77_61, ix_pv_s, ix_pi_s, zpn, ix_po_s, ix_po_n, ix_ph_s, ix_bk_v, ix_bk_n, zcv, zcv_ne, ↓reduceIte, Nat.reduceEqDiff, zn_m1, zd_lt_p, zd_lt_n, zd_le_p, zd_le_n, zd_eq_p, zd_eq_n, zd_0_p, zd_0_n, zd_0lt_p, zd_0lt_n, zd_le0_p, zd_le0_n, zn_lt0, zn_le0, zn_add, zn_mul, zn_sub, zm_lt, zm_le, zm_eq, zb_1, zb_0, not_true_eq_false, not_false_eq_true, t0_c, t0_g0, t0_g1, t0_g2, t0_g3, t0_g4, t0_g5, t0_g6, t0_g7, t0_g8, t0_g9, t0_g10, t0_s11, t0_g12, t0_s12, t0_g13, t0_g14, t0_g15, t0_g16, t0_c, rw_c, hc, cl_within, hin, hin2, and_self, hcl8, i8, ck3_8, k1]
          · simp (disch := first | assumption | omega | decide) only [e162, i162_0, i162_1, i162_2, i162_5, i162_8, i162_9, i162_10, i162_11, i162_14, i162_17, i162_18, i162_19, i162_20, i162_21, i162_23, i162_26, i162_29, i162_31, i162_32, i162_33, i162_36, i162_38, i162_39, i162_40, i162_41, i162_43, i162_46, i162_48, i162_49, i162_50, i162_53, i162_55, i162_56, i162_57, i162_58, i162_59, i162_60, i162_61, i162_62, i162_64, i162_65, i162_68, i162_70, i162_71, i162_72, i162_73, i162_74, i162_75, i162_76, i162_77, i162_78, i162_80, ix_pv_s, ix_pi_s, zpn, ix_po_s, ix_po_n, ix_ph_s, ix_bk_v, ix_bk_n, zcv, zcv_ne, ↓reduceIte, Nat.reduceEqDiff, zn_m1, zd_lt_p, zd_lt_n, zd_le_p, zd_le_n, zd_eq_p, zd_eq_n, zd_0_p, zd_0_n, zd_0lt_p, zd_0lt_n, zd_le0_p, zd_le0_n, zn_lt0, zn_le0, zn_add, zn_mul, zn_sub, zm_lt, zm_le, zm_eq, zb_1, zb_0, not_true_eq_false, not_false_eq_true, mo_c, mo_g0, mo_s0, mo_g1, mo_g2, mo_g3, mo_s3, mo_g4, mo_s4, mo_g5, mo_s5, mo_g6, mo_s6, mo_g7, mo_s7, mo_g8, mo_s8, mo_g9, mo_g10, mo_g11, mo_g12, mo_g13, mo_s13, mo_g14, mo_s14, mo_g15, mo_s15, mo_g16, mo_g17, mo_s17, mo_g18, mo_s18, mo_g19, mo_g20, mo_s20, mo_g21, mo_s21, mo_g22, mo_s22, mo_g23, mo_s23, ra_25, wa_25, al_25, ra_68, wa_68, al_68, ra_69, wa_69, al_69, ra_70, wa_70, al_70, ra_71, wa_71, al_71, ra_72, wa_72, al_72, ra_73, wa_73, al_73, ra_74, wa_74, al_74, ra_75, wa_75, al_75, hm, mo_in, hin, hin2, and_self, f68, hkd]
        · have i8 : ix_in3 (some (kc kind)) [8] [0, 1, 2, 6, 7, 9] = some (nI 0) := by
            rcases (by omega : kind = 0 ∨ kind = 1 ∨ kind = 2 ∨ kind = 3 ∨ kind = 4 ∨ kind = 5) with rfl | rfl | rfl | rfl | rfl | rfl <;> rfl
          refine ⟨-3, μ, μ, S, N, C, Q, ?_, ?_, h⟩
          · simp (disch := first | assumption | omega | decide) only [e77, i77_0, i77_1, i77_2, i77_5, i77_5n, i77_7, i77_7n, i77_9n, i77_9, i77_12, i77_13, i77_14, i77_15, i77_18, i77_21, i77_22, i77_23, i77_24, i77_25, i77_27, i77_30, i77_33, i77_35, i77_36, i77_36n, i77_38, i77_41, i77_44, i77_44n, i77_46, i77_49, i77_49n, i77_51, i77_51n, i77_53, i77_54, i77_55, i77_58, i77_59, i77_61, ix_pv_s, ix_pi_s, zpn, ix_po_s, ix_po_n, ix_ph_s, ix_bk_v, ix_bk_n, zcv, zcv_ne, ↓reduceIte, Nat.reduceEqDiff, zn_m1, zd_lt_p, zd_lt_n, zd_le_p, zd_le_n, zd_eq_p, zd_eq_n, zd_0_p, zd_0_n, zd_0lt_p, zd_0lt_n, zd_le0_p, zd_le0_n, zn_lt0, zn_le0, zn_add, zn_mul, zn_sub, zm_lt, zm_le, zm_eq, zb_1, zb_0, not_true_eq_false, not_false_eq_true, t0_c, t0_g0, t0_g1, t0_g2, t0_g3, t0_g4, t0_g5, t0_g6, t0_g7, t0_g8, t0_g9, t0_g10, t0_s11, t0_g12, t0_s12, t0_g13, t0_g14, t0_g15, t0_g16, t0_c, rw_c, hc, cl_within, hin, hin2, and_self, hcl, i8]
          · simp (disch := first | assumption | omega | decide) only [e162, i162_0, i162_1, i162_2, i162_5, i162_8, i162_9, i162_10, i162_11, i162_14, i162_17, i162_18, i162_19, i162_20, i162_21, i162_23, i162_26, i162_29, i162_31, i162_32, i162_33, i162_36, i162_38, i162_39, i162_40, i162_41, i162_43, i162_46, i162_48, i162_49, i162_50, i162_53, i162_55, i162_56, i162_57, i162_58, i162_59, i162_60, i162_61, i162_62, i162_64, i162_65, i162_68, i162_70, i162_71, i162_72, i162_73, i162_74, i162_75, i162_76, i162_77, i162_78, i162_80, ix_pv_s, ix_pi_s, zpn, ix_po_s, ix_po_n, ix_ph_s, ix_bk_v, ix_bk_n, zcv, zcv_ne, ↓reduceIte, Nat.reduceEqDiff, zn_m1, zd_lt_p, zd_lt_n, zd_le_p, zd_le_n, zd_eq_p, zd_eq_n, zd_0_p, zd_0_n, zd_0lt_p, zd_0lt_n, zd_le0_p, zd_le0_n, zn_lt0, zn_le0, zn_add, zn_mul, zn_sub, zm_lt, zm_le, zm_eq, zb_1, zb_0, not_true_eq_false, not_false_eq_true, mo_c, mo_g0, mo_s0, mo_g1, mo_g2, mo_g3, mo_s3, mo_g4, mo_s4, mo_g5, mo_s5, mo_g6, mo_s6, mo_g7, mo_s7, mo_g8, mo_s8, mo_g9, mo_g10, mo_g11, mo_g12, mo_g13, mo_s13, mo_g14, mo_s14, mo_g15, mo_s15, mo_g16, mo_g17, mo_s17, mo_g18, mo_s18, mo_g19, mo_g20, mo_s20, mo_g21, mo_s21, mo_g22, mo_s22, mo_g23, mo_s23, ra_25, wa_25, al_25, ra_68, wa_68, al_68, ra_69, wa_69, al_69, ra_70, wa_70, al_70, ra_71, wa_71, al_71, ra_72, wa_72, al_72, ra_73, wa_73, al_73, ra_74, wa_74, al_74, ra_75, wa_75, al_75, hm, mo_in, hin, hin2, and_self, e68, hkd, h6]
      · refine ⟨-2, μ, μ, S, N, C, Q, ?_, ?_, h⟩
        · simp (disch := first | assumption | omega | decide) only [e77, i77_0, i77_1, i77_2, i77_5, i77_5n, i77_7, i77_7n, i77_9n, i77_9, i77_12, i77_13, i77_14, i77_15, i77_18, i77_21, i77_22, i77_23, i77_24, i77_25, i77_27, i77_30, i77_33, i77_35, i77_36, i77_36n, i77_38, i77_41, i77_44, i77_44n, i77_46, i77_49, i77_49n, i77_51, i77_51n, i77_53, i77_54, i77_55, i77_58, i77_59, i77_61, ix_pv_s, ix_pi_s, zpn, ix_po_s, ix_po_n, ix_ph_s, ix_bk_v, ix_bk_n, zcv, zcv_ne, ↓reduceIte, Nat.reduceEqDiff, zn_m1, zd_lt_p, zd_lt_n, zd_le_p, zd_le_n, zd_eq_p, zd_eq_n, zd_0_p, zd_0_n, zd_0lt_p, zd_0lt_n, zd_le0_p, zd_le0_n, zn_lt0, zn_le0, zn_add, zn_mul, zn_sub, zm_lt, zm_le, zm_eq, zb_1, zb_0, not_true_eq_false, not_false_eq_true, t0_c, t0_g0, t0_g1, t0_g2, t0_g3, t0_g4, t0_g5, t0_g6, t0_g7, t0_g8, t0_g9, t0_g10, t0_s11, t0_g12, t0_s12, t0_g13, t0_g14, t0_g15, t0_g16, t0_c, rw_c, hc, cl_within, hin, hin2, and_self]
        · simp (disch := first | assumption | omega | decide) only [e162, i162_0, i162_1, i162_2, i162_5, i162_8, i162_9, i162_10, i162_11, i162_14, i162_17, i162_18, i162_19, i162_20, i162_21, i162_23, i162_26, i162_29, i162_31, i162_32, i162_33, i162_36, i162_38, i162_39, i162_40, i162_41, i162_43, i162_46, i162_48, i162_49, i162_50, i162_53, i162_55, i162_56, i162_57, i162_58, i162_59, i162_60, i162_61, i162_62, i162_64, i162_65, i162_68, i162_70, i162_71, i162_72, i162_73, i162_74, i162_75, i162_76, i162_77, i162_78, i162_80, ix_pv_s, ix_pi_s, zpn, ix_po_s, ix_po_n, ix_ph_s, ix_bk_v, ix_bk_n, zcv, zcv_ne, ↓reduceIte, Nat.reduceEqDiff, zn_m1, zd_lt_p, zd_lt_n, zd_le_p, zd_le_n, zd_eq_p, zd_eq_n, zd_0_p, zd_0_n, zd_0lt_p, zd_0lt_n, zd_le0_p, zd_le0_n, zn_lt0, zn_le0, zn_add, zn_mul, zn_sub, zm_lt, zm_le, zm_eq, zb_1, zb_0, not_true_eq_false, not_false_eq_true, mo_c, mo_g0, mo_s0, mo_g1, mo_g2, mo_g3, mo_s3, mo_g4, mo_s4, mo_g5, mo_s5, mo_g6, mo_s6, mo_g7, mo_s7, mo_g8, mo_s8, mo_g9, mo_g10, mo_g11, mo_g12, mo_g13, mo_s13, mo_g14, mo_s14, mo_g15, mo_s15, mo_g16, mo_g17, mo_s17, mo_g18, mo_s18, mo_g19, mo_g20, mo_s20, mo_g21, mo_s21, mo_g22, mo_s22, mo_g23, mo_s23, ra_25, wa_25, al_25, ra_68, wa_68, al_68, ra_69, wa_69, al_69, ra_70, wa_70, al_70, ra_71, wa_71, al_71, ra_72, wa_72, al_72, ra_73, wa_73, al_73, ra_74, wa_74, al_74, ra_75, wa_75, al_75, hm, mo_in, hin, hin2, and_self]
    · refine ⟨-1, μ, μ, S, N, C, Q, ?_, ?_, h⟩
      · simp (disch := first | assumption | omega | decide) only [e77, i77_0, i77_1, i77_2, i77_5, i77_5n, i77_7, i77_7n, i77_9n, i77_9, i77_12, i77_13, i77_14, i77_15, i77_18, i77_21, i77_22, i77_23, i77_24, i77_25, i77_27, i77_30, i77_33, i77_35, i77_36, i77_36n, i77_38, i77_41, i77_44, i77_44n, i77_46, i77_49, i77_49n, i77_51, i77_51n, i77_53, i77_54, i77_55, i77_58, i77_59, i77_61, ix_pv_s, ix_pi_s, zpn, ix_po_s, ix_po_n, ix_ph_s, ix_bk_v, ix_bk_n, zcv, zcv_ne, ↓reduceIte, Nat.reduceEqDiff, zn_m1, zd_lt_p, zd_lt_n, zd_le_p, zd_le_n, zd_eq_p, zd_eq_n, zd_0_p, zd_0_n, zd_0lt_p, zd_0lt_n, zd_le0_p, zd_le0_n, zn_lt0, zn_le0, zn_add, zn_mul, zn_sub, zm_lt, zm_le, zm_eq, zb_1, zb_0, not_true_eq_false, not_false_eq_true, t0_c, t0_g0, t0_g1, t0_g2, t0_g3, t0_g4, t0_g5, t0_g6, t0_g7, t0_g8, t0_g9, t0_g10, t0_s11, t0_g12, t0_s12, t0_g13, t0_g14, t0_g15, t0_g16, t0_c, rw_c, hc, cl_within, hin]
      · simp (disch := first | assumption | omega | decide) only [e162, i162_0, i162_1, i162_2, i162_5, i162_8, i162_9, i162_10, i162_11, i162_14, i162_17, i162_18, i162_19, i162_20, i162_21, i162_23, i162_26, i162_29, i162_31, i162_32, i162_33, i162_36, i162_38, i162_39, i162_40, i162_41, i162_43, i162_46, i162_48, i162_49, i162_50, i162_53, i162_55, i162_56, i162_57, i162_58, i162_59, i162_60, i162_61, i162_62, i162_64, i162_65, i162_68, i162_70, i162_71, i162_72, i162_73, i162_74, i162_75, i162_76, i162_77, i162_78, i162_80, ix_pv_s, ix_pi_s, zpn, ix_po_s, ix_po_n, ix_ph_s, ix_bk_v, ix_bk_n, zcv, zcv_ne, ↓reduceIte, Nat.reduceEqDiff, zn_m1, zd_lt_p, zd_lt_n, zd_le_p, zd_le_n, zd_eq_p, zd_eq_n, zd_0_p, zd_0_n, zd_0lt_p, zd_0lt_n, zd_le0_p, zd_le0_n, zn_lt0, zn_le0, zn_add, zn_mul, zn_sub, zm_lt, zm_le, zm_eq, zb_1, zb_0, not_true_eq_false, not_false_eq_true, mo_c, mo_g0, mo_s0, mo_g1, mo_g2, mo_g3, mo_s3, mo_g4, mo_s4, mo_g5, mo_s5, mo_g6, mo_s6, mo_g7, mo_s7, mo_g8, mo_s8, mo_g9, mo_g10, mo_g11, mo_g12, mo_g13, mo_s13, mo_g14, mo_s14, mo_g15, mo_s15, mo_g16, mo_g17, mo_s17, mo_g18, mo_s18, mo_g19, mo_g20, mo_s20, mo_g21, mo_s21, mo_g22, mo_s22, mo_g23, mo_s23, ra_25, wa_25, al_25, ra_68, wa_68, al_68, ra_69, wa_69, al_69, ra_70, wa_70, al_70, ra_71, wa_71, al_71, ra_72, wa_72, al_72, ra_73, wa_73, al_73, ra_74, wa_74, al_74, ra_75, wa_75, al_75, hm, mo_in, hin]
  · have hc := cl_treeN (X := X) (d := d + 3) h ha
    have hm := mo_treeN (X := X) (d := d + 4) h ha
    refine ⟨-1, μ, μ, S, N, C, Q, ?_, ?_, h⟩
    · simp (disch := first | assumption | omega | decide) only [e77, i77_0, i77_1, i77_2, i77_5, i77_5n, i77_7, i77_7n, i77_9n, i77_9, i77_12, i77_13, i77_14, i77_15, i77_18, i77_21, i77_22, i77_23, i77_24, i77_25, i77_27, i77_30, i77_33, i77_35, i77_36, i77_36n, i77_38, i77_41, i77_44, i77_44n, i77_46, i77_49, i77_49n, i77_51, i77_51n, i77_53, i77_54, i77_55, i77_58, i77_59, i77_61, ix_pv_s, ix_pi_s, zpn, ix_po_s, ix_po_n, ix_ph_s, ix_bk_v, ix_bk_n, zcv, zcv_ne, ↓reduceIte, Nat.reduceEqDiff, zn_m1, zd_lt_p, zd_lt_n, zd_le_p, zd_le_n, zd_eq_p, zd_eq_n, zd_0_p, zd_0_n, zd_0lt_p, zd_0lt_n, zd_le0_p, zd_le0_n, zn_lt0, zn_le0, zn_add, zn_mul, zn_sub, zm_lt, zm_le, zm_eq, zb_1, zb_0, not_true_eq_false, not_false_eq_true, t0_c, t0_g0, t0_g1, t0_g2, t0_g3, t0_g4, t0_g5, t0_g6, t0_g7, t0_g8, t0_g9, t0_g10, t0_s11, t0_g12, t0_s12, t0_g13, t0_g14, t0_g15, t0_g16, t0_c, rw_c, hc]
    · simp (disch := first | assumption | omega | decide) only [e162, i162_0, i162_1, i162_2, i162_5, i162_8, i162_9, i162_10, i162_11, i162_14, i162_17, i162_18, i162_19, i162_20, i162_21, i162_23, i162_26, i162_29, i162_31, i162_32, i162_33, i162_36, i162_38, i162_39, i162_40, i162_41, i162_43, i162_46, i162_48, i162_49, i162_50, i162_53, i162_55, i162_56, i162_57, i162_58, i162_59, i162_60, i162_61, i162_62, i162_64, i162_65, i162_68, i162_70, i162_71, i162_72, i162_73, i162_74, i162_75, i162_76, i162_77, i162_78, i162_80, ix_pv_s, ix_pi_s, zpn, ix_po_s, ix_po_n, ix_ph_s, ix_bk_v, ix_bk_n, zcv, zcv_ne, ↓reduceIte, Nat.reduceEqDiff, zn_m1, zd_lt_p, zd_lt_n, zd_le_p, zd_le_n, zd_eq_p, zd_eq_n, zd_0_p, zd_0_n, zd_0lt_p, zd_0lt_n, zd_le0_p, zd_le0_n, zn_lt0, zn_le0, zn_add, zn_mul, zn_sub, zm_lt, zm_le, zm_eq, zb_1, zb_0, not_true_eq_false, not_false_eq_true, mo_c, mo_g0, mo_s0, mo_g1, mo_g2, mo_g3, mo_s3, mo_g4, mo_s4, mo_g5, mo_s5, mo_g6, mo_s6, mo_g7, mo_s7, mo_g8, mo_s8, mo_g9, mo_g10, mo_g11, mo_g12, mo_g13, mo_s13, mo_g14, mo_s14, mo_g15, mo_s15, mo_g16, mo_g17, mo_s17, mo_g18, mo_s18, mo_g19, mo_g20, mo_s20, mo_g21, mo_s21, mo_g22, mo_s22, mo_g23, mo_s23, ra_25, wa_25, al_25, ra_68, wa_68, al_68, ra_69, wa_69, al_69, ra_70, wa_70, al_70, ra_71, wa_71, al_71, ra_72, wa_72, al_72, ra_73, wa_73, al_73, ra_74, wa_74, al_74, ra_75, wa_75, al_75, hm]
end TRE
