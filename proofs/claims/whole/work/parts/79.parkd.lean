/-! ===== a park: both agree ===== -/
--need 78.parkq
section PD
variable {X : ix_X} {d e : Nat} {τ : List fm_D} {μ : fm_M} {S : Nat → Int32} {N : Nat → Nat} {C : Nat → List Nat} {Q : Nat → Nat}
theorem pkF_cp {μ1 μ2 : fm_M} {a : Nat} (h : CP μ μ1 (30 + 4 * a)) (hm : MP μ1 μ2 a) (ha : a < 5) : pkF μ μ2 a := by
  obtain ⟨c1, c2, c3⟩ := h
  obtain ⟨m1, m2, m3, m4⟩ := hm
  have n : ∀ q, q ≠ 4 → q ≠ 30 + 4 * a → q ≠ 31 + 4 * a → q ≠ 33 + 4 * a → q ≠ 67 → q ≠ 68 → q ≠ 73 → μ2 q = μ q := fun q x4 x30 x31 x33 x67 x68 x73 => by rw [m1 q x67 x68 x73, c1 q x4 x30 (by omega) (by omega)]
  refine ⟨fun q x0 x2 x4 x30 x31 x33 _ x67 x68 x73 => n q x4 x30 x31 x33 x67 x68 x73, fun k _ => ?_, fun k _ => ?_, fun k hk => ?_, ?_, fun j k hj _ _ => ?_, fun k x4 x5 x6 x7 x8 => ?_⟩
  · rw [n 0 (by decide) (by omega) (by omega) (by omega) (by decide) (by decide) (by decide)]
  · rw [n 2 (by decide) (by omega) (by omega) (by omega) (by decide) (by decide) (by decide)]
  · rw [m1 4 (by decide) (by decide) (by decide), c2 k hk]
  · rw [m1 4 (by decide) (by decide) (by decide), c3]
  · rw [n (50 + 2 * j) (by omega) (by omega) (by omega) (by omega) (by omega) (by omega) (by omega)]
  · rw [m2 k x4 x5 x6 x7 x8, c1 67 (by decide) (by omega) (by omega) (by omega)]
theorem agm_park : agm X (e + 26) τ S N C Q 66 135 [] := by
  intro μ h
  have hb := QI_b h
  have e68 := QI_68 h
  have e2 := QI_S h (k := 2) (by decide) (by decide)
  have e6 := QI_S h (k := 6) (by decide) (by decide)
  by_cases h5 : N 2 = 5
  · refine ⟨-4, μ, μ, S, N, C, Q, cl_park5 h h5, mo_park5 e68 (by rw [e2, h5]), h⟩
  have ha : N 2 < 5 := by omega
  obtain ⟨v, μ1, a1, r1⟩ := cl_park (X := X) (e := e + 2) (τ := τ) h ha
  obtain ⟨⟨z0, z1, z2⟩, zc⟩ : gT μ S N := h.2.1.1.2.1
  obtain ⟨s1, s2, s3, s4, s5, s6⟩ := id h.2.1.2.2.2.1
  obtain ⟨ck1, ck2, ck3⟩ := id h.2.2.1
  obtain ⟨⟨m1, m2, m3⟩, m4⟩ := id h.2.2.2
  have go : ∀ μ1 : fm_M, μ1 68 = S → ∃ (v : Int32) (μ' : fm_M), ix_call X (e + 26) 135 [.ref 67] (fm_W μ1 τ) = some (some (.int v), fm_W μ' τ) ∧ MP μ1 μ' (N 2) ∧ _ := fun μ1 h68 => mo_park (X := X) (e := e + 1) (τ := τ) (μ := μ1) (a := N 2) (n := N 6) (T := fun i => S (109 + i)) ha (by omega) (by rw [h68]; exact e2) (by rw [h68]; exact e6) (fun i hi => by rw [h68])
  cases hp : parkS (N 6) (fun i => S (109 + i)) with
  | inl z =>
    rw [hp] at r1
    obtain ⟨rfl, cp⟩ := r1
    have l68 : μ1 68 = S := by rw [cp.1 68 (by decide) (by omega) (by omega) (by omega)]; exact e68
    obtain ⟨v', μ2, a2, mp, r2⟩ := go μ1 l68
    rw [hp] at r2
    obtain ⟨rfl, v2, v7, v73⟩ := r2
    have hf := pkF_cp cp mp ha
    have hS : pkS S (μ2 68) (N 2) := fun k c2 c6 c7 c9 c14 c19 c24 => by rw [mp.2.2.1 k c2 c6 c7 c9 c14 c19 c24, l68]
    have n0 : (fun k => if k = 6 then 0 else N k) 0 = N 0 := rfl
    have n2 : (fun k => if k = 6 then 0 else N k) 2 = N 2 := rfl
    have hcs : csN (fun k => if k = 6 then 0 else N k) C = csN N C := by unfold csN; rw [n2]
    have hs' : sI (μ2 68) (fun k => if k = 6 then 0 else N k) C := pk_sI h ha rfl hS mp.2.2.2 rfl (Or.inl rfl) (fun k _ c6 => if_neg c6) (by rw [v2, l68]; exact e2) (by rw [v7, l68]; exact h.1.2.2.1) (fun _ _ => rfl) (fun hh => by exact absurd hh (by simp))
    have spt : ∀ j, j < 7 → μ2 (50 + 2 * j) = μ (50 + 2 * j) ∧ μ2 (51 + 2 * j) = μ (51 + 2 * j) := fun j hj => ⟨by rw [mp.1 _ (by omega) (by omega) (by omega), cp.1 _ (by omega) (by omega) (by omega) (by omega)], by rw [mp.1 _ (by omega) (by omega) (by omega), cp.1 _ (by omega) (by omega) (by omega) (by omega)]⟩
    have row : ∀ q, q = 0 ∨ q = 23 ∨ q = 24 ∨ q = 26 ∨ q = 27 ∨ q = 72 → μ2 q = μ q := fun q hq => by rw [mp.1 _ (by omega) (by omega) (by omega), cp.1 _ (by omega) (by omega) (by omega) (by omega)]
    refine ⟨_, μ1, μ2, μ2 68, fun k => if k = 6 then 0 else N k, C, Q, a1, a2, pk_QI h ha rfl hf hS mp.2.2.2 rfl (Or.inl rfl) (fun k _ c6 => if_neg c6) ?_ (fun _ _ => rfl) hs' ⟨fun i hi => ?_, ?_, ?_, ?_, ?_, fun x hx => pk_old h ha rfl hf hS hx⟩ ?_ ?_⟩
    · rw [mp.1 2 (by decide) (by decide) (by decide), cp.1 2 (by decide) (by omega) (by omega) (by omega), v2, l68]
      exact h.2.1.1.1.2.2.2.2.1
    · obtain ⟨w1, w2, w3, w4⟩ := s1 i hi
      obtain ⟨p1, p2⟩ := spt (i + 1) (by omega)
      rw [show 50 + 2 * (i + 1) = 52 + 2 * i by omega] at p1
      rw [show 51 + 2 * (i + 1) = 53 + 2 * i by omega] at p2
      rw [row 23 (by omega), row 24 (by omega), p1, p2]
      exact ⟨w1, w2, w3, w4⟩
    · rw [row 0 (by omega)]; exact s2
    · exact pr_cs_of s3 (row 26 (by omega)) (row 27 (by omega))
    · rw [row 26 (by omega)]; exact s4
    · rw [row 26 (by omega)]; exact s5
    · rw [hcs]
      show ck μ2 (μ2 68) (csN N C) (26 + 4 * N 2) (N 0)
      have p1 := pk_cases ck2.1
      refine ⟨ck1, ?_, fun u hu => ?_⟩
      · rcases Nat.eq_zero_or_pos (N 2) with h0 | h0
        · rw [h0] at ck2 ⊢
          exact pr_cs_of ck2 (row 26 (by omega)) (row 27 (by omega))
        · have := (pk_old h ha rfl hf hS (x := N 2 - 1) (by omega)).1
          rw [show 30 + 4 * (N 2 - 1) = 26 + 4 * N 2 by omega] at this
          have hc : csN N C = C (N 2 - 1) := by unfold csN; rw [if_neg (by omega)]
          rw [hc]
          exact this
      · have hu6 : u ≤ 6 := by omega
        obtain ⟨j, hj, ej⟩ := spp_j hu6
        obtain ⟨q1, q2⟩ := spt j hj
        have := ck3 u hu
        unfold spK at this ⊢
        rw [ej] at this ⊢
        rw [show 50 + 2 * j + 1 = 51 + 2 * j by omega] at this ⊢
        rw [q1, q2, pk_rn hS hu6]
        rcases hu with hu | hu
        · rw [hS (11 + u) (by omega) (by omega) (by omega) (by omega) (by omega) (by omega) (by omega), hS (17 + u) (by omega) (by omega) (by omega) (by omega) (by omega) (by omega) (by omega)]
          exact this
        · simp only [if_pos hu] at this ⊢
          exact this
    · rw [hcs]
      show mk2 μ2 (μ2 68) (N 0) (csN N C)
      have mps := sI_mp hs'
      rw [hcs] at mps
      refine ⟨⟨m1, mps, fun u hu => ?_⟩, rfl⟩
      rw [pk_rn hS (by omega)]
      have := m3 u hu
      rw [m4] at this
      exact fk_of this (by rw [v73, cp.1 73 (by decide) (by omega) (by omega) (by omega)]) (fun k _ => by rw [row 72 (by omega)])
  | inr y =>
    obtain ⟨l, sk, wt⟩ := y
    rw [hp] at r1
    obtain ⟨rfl, μ0, cp, ⟨hr, w3, w1, w0, w11⟩, g1, g2, g3, g4, g5, g6⟩ := r1
    obtain ⟨lc, lsk, lwt, lev⟩ := park_ok hp
    have l68 : μ1 68 = S := by rw [g1 68 (by decide) (by decide) (fun j hj => by omega), cp.1 68 (by decide) (by omega) (by omega) (by omega)]; exact e68
    obtain ⟨v', μ2, a2, mp, r2⟩ := go μ1 l68
    rw [hp] at r2
    obtain ⟨rfl, v2, v7, v209, v214, v219, vst, v73⟩ := r2
    have gq : ∀ q, q ≠ 0 → q ≠ 2 → q ≠ 4 → q ≠ 30 + 4 * N 2 → q ≠ 31 + 4 * N 2 → q ≠ 33 + 4 * N 2 → (∀ j, j < 7 → q ≠ 50 + 2 * j) → q ≠ 67 → q ≠ 68 → q ≠ 73 → μ2 q = μ q := fun q x0 x2 x4 x30 x31 x33 xj x67 x68 x73 => by rw [mp.1 q x67 x68 x73, g1 q x0 x2 xj, cp.1 q x4 x30 (by omega) (by omega)]
    have c0 : ∀ q, q ≠ 4 → q < 26 → μ0 q = μ q := fun q x4 hq => cp.1 q x4 (by omega) (by omega) (by omega)
    have hf : pkF μ μ2 (N 2) := by
      refine ⟨gq, fun k hk => ?_, fun k hk => ?_, fun k hk => ?_, ?_, fun j k hj k1 k2 => ?_, fun k x4 x5 x6 x7 x8 => ?_⟩
      · rw [mp.1 0 (by decide) (by decide) (by decide), g3 k hk, c0 0 (by decide) (by decide)]
      · rw [mp.1 2 (by decide) (by decide) (by decide), g4 k hk, c0 2 (by decide) (by decide)]
      · rw [mp.1 4 (by decide) (by decide) (by decide), g1 4 (by decide) (by decide) (fun j hj => by omega), cp.2.1 k hk]
      · rw [mp.1 4 (by decide) (by decide) (by decide), g1 4 (by decide) (by decide) (fun j hj => by omega), cp.2.2]
      · rw [mp.1 (50 + 2 * j) (by omega) (by omega) (by omega), (g6 j hj).2.2 k k1 k2, cp.1 (50 + 2 * j) (by omega) (by omega) (by omega) (by omega)]
      · rw [mp.2.1 k x4 x5 x6 x7 x8, g1 67 (by decide) (by decide) (fun j hj => by omega), cp.1 67 (by decide) (by omega) (by omega) (by omega)]
    have hS : pkS S (μ2 68) (N 2) := fun k c2 c6 c7 c9 c14 c19 c24 => by rw [mp.2.2.1 k c2 c6 c7 c9 c14 c19 c24, l68]
    obtain ⟨N', hN'⟩ : ∃ N' : Nat → Nat, N' = fun k => if k = 6 then 0 else if k = 2 then N 2 + 1 else N k := ⟨_, rfl⟩
    obtain ⟨C', hC'⟩ : ∃ C' : Nat → List Nat, C' = fun x => if x = N 2 then l else C x := ⟨_, rfl⟩
    have n0 : N' 0 = N 0 := by rw [hN']; rfl
    have n2 : N' 2 = N 2 + 1 := by rw [hN']; rfl
    have n6 : N' 6 = 0 := by rw [hN']; rfl
    have nk : ∀ k, k ≠ 2 → k ≠ 6 → N' k = N k := fun k k2 k6 => by rw [hN']; simp only [if_neg k6, if_neg k2]
    have ca : C' (N 2) = l := by rw [hC']; exact if_pos rfl
    have cx : ∀ x, x < N 2 → C' x = C x := fun x hx => by rw [hC']; exact if_neg (by omega)
    have hcs : csN N' C' = l := by
      unfold csN
      rw [n2, if_neg (by omega), Nat.add_sub_cancel]
      exact ca
    have hs' : sI (μ2 68) N' C' := pk_sI h ha rfl hS mp.2.2.2 n6 (Or.inr n2) nk (by rw [n2]; exact v2) (by rw [n2, if_neg (by omega), Nat.add_sub_cancel]; exact v7) cx (fun _ => by
      rw [ca]
      exact ⟨v219, by omega, vst, lev, ⟨sk, lsk, v209⟩, ⟨wt, lwt, v214⟩⟩)
    have k30 : ∀ q, q = 30 + 4 * N 2 ∨ q = 30 + 4 * N 2 + 1 → μ2 q = μ0 q := fun q hq => by rw [mp.1 q (by omega) (by omega) (by omega), g1 q (by omega) (by omega) (fun j hj => by omega)]
    have hpr : pr_cs μ2 (30 + 4 * N 2) l := ⟨hr, by rw [k30 _ (Or.inl rfl)]; exact w3, by omega, fun i hi => by rw [k30 _ (Or.inr rfl)]; exact w1 i hi, lev⟩
    have row : ∀ q, q = 23 ∨ q = 24 ∨ q = 26 ∨ q = 27 ∨ q = 72 → μ2 q = μ q := fun q hq => gq q (by omega) (by omega) (by omega) (by omega) (by omega) (by omega) (fun j hj => by omega) (by omega) (by omega) (by omega)
    have odd : ∀ j, j < 7 → μ2 (51 + 2 * j) = μ (51 + 2 * j) := fun j hj => gq _ (by omega) (by omega) (by omega) (by omega) (by omega) (by omega) (fun j' hj' => by omega) (by omega) (by omega) (by omega)
    have spt : ∀ j, j < 7 → μ2 (50 + 2 * j) = μ1 (50 + 2 * j) := fun j hj => mp.1 _ (by omega) (by omega) (by omega)
    have e26 : 26 + 4 * N' 2 = 30 + 4 * N 2 := by rw [n2]; omega
    refine ⟨_, μ1, μ2, μ2 68, N', C', Q, a1, a2, pk_QI h ha rfl hf hS mp.2.2.2 n6 (Or.inr n2) nk ?_ cx hs' ⟨fun i hi => ?_, ?_, ?_, ?_, ?_, fun x hx => ?_⟩ ?_ ?_⟩
    · rw [mp.1 2 (by decide) (by decide) (by decide), g5, v2]
    · obtain ⟨y1, y2, y3, y4⟩ := s1 i hi
      obtain ⟨x1, x2, x3⟩ := g6 (i + 1) (by omega)
      have p1 := spt (i + 1) (by omega)
      have p2 := odd (i + 1) (by omega)
      rw [show 50 + 2 * (i + 1) = 52 + 2 * i by omega] at p1 x1
      rw [show 51 + 2 * (i + 1) = 53 + 2 * i by omega] at p2
      rw [row 23 (by omega), row 24 (by omega), p1, p2, e26]
      exact ⟨y1, y2, x1, y4⟩
    · rw [mp.1 0 (by decide) (by decide) (by decide), g2, e26]
    · exact pr_cs_of s3 (row 26 (by omega)) (row 27 (by omega))
    · rw [row 26 (by omega)]; exact s4
    · rw [row 26 (by omega)]; exact s5
    · by_cases q : x < N 2
      · rw [cx x q]
        exact pk_old h ha rfl hf hS q
      · have : x = N 2 := by omega
        subst this
        rw [ca]
        refine ⟨hpr, ?_, ?_⟩
        · rw [k30 _ (Or.inl rfl), w0, v209]
        · rw [k30 _ (Or.inl rfl), w11, v214]
    · rw [hcs, e26, n0]
      refine ck_new ck1 hpr (fun u hu => ?_)
      have hu6 : u ≤ 6 := by omega
      obtain ⟨y1, y2, y3, y4, kn, y5, y6, y7⟩ := ck3 u hu
      obtain ⟨j, hj, ej⟩ := spp_j hu6
      obtain ⟨x1, x2, x3⟩ := g6 j hj
      have ps := spt j hj
      rw [ej] at y2 y3 y4 y7 ⊢
      have r1 : ∀ k, k ≠ 1 → k ≠ 2 → μ2 (50 + 2 * j) k = μ (50 + 2 * j) k := fun k c1 c2 => hf.2.2.2.2.2.1 j k hj c1 c2
      rw [r1 3 (by decide) (by decide), r1 4 (by decide) (by decide), r1 5 (by decide) (by decide), ps, show 50 + 2 * j + 1 = 51 + 2 * j by omega, odd j hj]
      refine ⟨x1, y2, ?_, ?_, x2, ?_⟩
      · rcases hu with hu | hu
        · rw [hS (11 + u) (by omega) (by omega) (by omega) (by omega) (by omega) (by omega) (by omega)]; exact y3
        · rw [if_pos hu] at y3 ⊢; exact y3
      · rcases hu with hu | hu
        · rw [hS (17 + u) (by omega) (by omega) (by omega) (by omega) (by omega) (by omega) (by omega)]; exact y4
        · rw [if_pos hu] at y4 ⊢; exact y4
      · have := y7 0 (by omega)
        rw [show 50 + 2 * j + 1 = 51 + 2 * j by omega] at this
        exact this
    · rw [hcs, n0]
      have mps := sI_mp hs'
      rw [hcs] at mps
      exact mk2_new m1 rfl mps v73
end PD
