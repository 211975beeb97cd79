/-! ===== what is told: the rows change ===== -/
--need 54.mbest
def sW (S : Nat → Int32) (N : Nat → Nat) : Prop := ∀ i, i < N 1 → (∃ m, 1 ≤ m ∧ m ≤ 20 ∧ S (59 + i) = nI m) ∧ okN S (64 + i) 99
def sL (S : Nat → Int32) (N : Nat → Nat) : Prop := ∀ i, i < N 3 → (S (69 + i) = -1 ∨ ∃ t, t < N 0 ∧ S (69 + i) = nI t) ∧ okN S (73 + i) 20
def sR (S : Nat → Int32) (N : Nat → Nat) : Prop := ∀ i, i < N 4 → (∃ t, t < N 0 ∧ S (77 + i) = nI t) ∧ okN S (81 + i) 20
def sE (S : Nat → Int32) (N : Nat → Nat) : Prop := ∀ i, i < N 5 → (∃ t, t < N 0 ∧ S (85 + i) = nI t) ∧ okN S (93 + i) 999 ∧ okN S (101 + i) 99
def gN (μ : fm_M) (S : Nat → Int32) : Prop := rwI μ 1 5 1 (nI 5) ∧ μ 2 0 = S 8 ∧ μ 2 1 = S 9 ∧ μ 2 2 = S 10 ∧ μ 2 3 = S 2 ∧ μ 2 4 = S 0
def gT (μ : fm_M) (S : Nat → Int32) (N : Nat → Nat) : Prop := rwI μ 4 100 1 (S 6) ∧ ∀ i, i < N 6 → μ 5 i = S (109 + i) ∧ byI (μ 5 i)
def gW (μ : fm_M) (S : Nat → Int32) (N : Nat → Nat) : Prop := rwI μ 7 5 2 (S 1) ∧ ∀ i, i < N 1 → μ 8 (i * 2) = S (59 + i) ∧ μ 8 (i * 2 + 1) = S (64 + i)
def gL (μ : fm_M) (S : Nat → Int32) (N : Nat → Nat) : Prop := rwI μ 10 4 2 (S 3) ∧ ∀ i, i < N 3 → μ 11 (i * 2) = S (69 + i) ∧ μ 11 (i * 2 + 1) = S (73 + i)
def gR (μ : fm_M) (S : Nat → Int32) (N : Nat → Nat) : Prop := rwI μ 13 4 2 (S 4) ∧ ∀ i, i < N 4 → μ 14 (i * 2) = S (77 + i) ∧ μ 14 (i * 2 + 1) = S (81 + i)
def gE (μ : fm_M) (S : Nat → Int32) (N : Nat → Nat) : Prop := rwI μ 16 8 3 (S 5) ∧ ∀ i, i < N 5 → μ 17 (i * 3) = S (85 + i) ∧ μ 17 (i * 3 + 1) = S (93 + i) ∧ μ 17 (i * 3 + 2) = S (101 + i)
def keepS (S S' : Nat → Int32) : Prop := ∀ k, (k = 0 ∨ k = 2 ∨ k = 7 ∨ (11 ≤ k ∧ k < 59) ∨ 209 ≤ k) → S' k = S k
def keepM (μ μ' : fm_M) : Prop := (∀ r, (r = 0 ∨ r = 3 ∨ r = 6 ∨ r = 9 ∨ r = 12 ∨ r = 15 ∨ (18 ≤ r ∧ r ≠ 68)) → μ' r = μ r) ∧ ∀ r, (r = 1 ∨ r = 4 ∨ r = 7 ∨ r = 10 ∨ r = 13 ∨ r = 16) → μ' r 5 = μ r 5
theorem keepS_rn {S S' : Nat → Int32} {cs : List Nat} {u : Nat} (h : keepS S S') (hu : u ≤ 6) : rn S' cs u = rn S cs u := by
  funext m
  unfold rn
  split
  · rfl
  · rw [h (11 + u) (by omega), h (17 + u) (by omega)]
section MU
variable {τ : List fm_D} {μ μ' : fm_M} {S S' : Nat → Int32} {N N' : Nat → Nat} {C : Nat → List Nat} {Q : Nat → Nat}
theorem QI_mut (h : QI μ τ S N C Q) (hS : keepS S S') (hM : keepM μ μ') (h68 : μ' 68 = S') (hN0 : N' 0 = N 0) (hN2 : N' 2 = N 2)
    (hk : ∀ k, k < 11 → k ≠ 7 → S' k = nI (N' k)) (hb : N' 1 ≤ 5 ∧ N' 3 ≤ 4 ∧ N' 4 ≤ 4 ∧ N' 5 ≤ 8 ∧ N' 6 ≤ 100 ∧ N' 8 ≤ 999 ∧ N' 9 ≤ 99 ∧ N' 10 ≤ 99)
    (hw : sW S' N') (hl : sL S' N') (hr : sR S' N') (he : sE S' N') (g1 : gN μ' S') (g2 : gT μ' S' N') (g3 : gW μ' S' N') (g4 : gL μ' S' N') (g5 : gR μ' S' N') (g6 : gE μ' S' N') : QI μ' τ S' N' C Q := by
  obtain ⟨⟨i1, i2, i3, i4, i5, i6, i7, i8, i9, i10⟩, ⟨j1, j2, j3, j4, j5⟩, hc, hm⟩ := h
  have hok : ∀ k b, (11 ≤ k ∧ k < 59) ∨ 209 ≤ k → okN S k b → okN S' k b := fun k b hk' ho => by
    obtain ⟨m, m1, m2⟩ := ho
    exact ⟨m, m1, (hS k (by omega)).trans m2⟩
  have hcs : csN N' C = csN N C := by unfold csN; rw [hN2]
  have b26 := i2.2.2.1
  have b0 := i2.1
  refine ⟨⟨hk, ⟨by omega, hb.1, by omega, hb.2.1, hb.2.2.1, hb.2.2.2.1, hb.2.2.2.2.1, hb.2.2.2.2.2.1, hb.2.2.2.2.2.2.1, hb.2.2.2.2.2.2.2⟩, ?_, ?_, hw, hl, hr, he, ?_, ?_⟩, ⟨⟨g1, g2, g3, g4, g5, g6⟩, ?_, ?_, ?_, ?_⟩, ?_, ?_⟩
  · rw [hS 7 (by omega), hN2]
    exact i3
  · intro t ht
    rw [hN0] at ht
    obtain ⟨a, b, c, e⟩ := i4 t ht
    exact ⟨hok _ _ (by omega) a, hok _ _ (by omega) b, hok _ _ (by omega) c, hok _ _ (by omega) e⟩
  · intro a ha
    rw [hN2] at ha
    obtain ⟨c1, c2, c3, c4, c5, c6⟩ := i9 a ha
    refine ⟨(hS _ (by omega)).trans c1, c2, fun i hi => (hS _ (by omega)).trans (c3 i hi), c4, hok _ _ (by omega) c5, hok _ _ (by omega) c6⟩
  · intro t ht k hk'
    rw [hN0] at ht
    exact hok _ _ (by omega) (i10 t ht k hk')
  · obtain ⟨ran, r1, ⟨r2, r3, r4⟩, r5, r6⟩ := j2
    exact ⟨ran, r1, ⟨by rw [hM.1 19 (by omega)]; exact r2, by rw [hM.1 19 (by omega)]; exact r3, by rw [hM.1 19 (by omega)]; exact r4⟩, by rw [hM.1 67 (by omega)]; exact r5, fun i hi => by rw [hM.1 20 (by omega), hM.1 75 (by omega)]; exact r6 i hi⟩
  · rw [hN0]
    refine ⟨fun t ht => ?_, j3.2⟩
    obtain ⟨a, b, ⟨kind, c⟩, e⟩ := j3.1 t ht
    have h76 := trT_76 c
    refine ⟨by rw [hM.1 22 (by omega)]; exact a, b, ⟨kind, ?_⟩, by rw [hM.1 (52 + 2 * t) (by omega), hS (29 + t) (by omega)]; exact e⟩
    obtain ⟨c1, c2, c3, c4, c5⟩ := c
    refine ⟨(hS _ (by omega)).trans c1, c2, c3, by rw [hM.1 (Q t) (by omega), hS (23 + t) (by omega)]; exact c4, fun hk6 => ⟨(c5 hk6).1, fun k hk' => ?_⟩⟩
    rw [hM.1 (Q t + 1) (by omega), hS (35 + 4 * t + k) (by omega)]
    exact (c5 hk6).2 k hk'
  · obtain ⟨a, b, c, e, f, g⟩ := j4
    refine ⟨fun i hi => by rw [hM.1 23 (by omega), hM.1 24 (by omega), hM.1 (52 + 2 * i) (by omega), hM.1 (53 + 2 * i) (by omega), hN2]; exact a i hi, by rw [hM.1 0 (by omega), hN2]; exact b, pr_cs_of c (hM.1 26 (by omega)) (hM.1 27 (by omega)), by rw [hM.1 26 (by omega)]; exact e, by rw [hM.1 26 (by omega)]; exact f, fun x hx => ?_⟩
    rw [hN2] at hx
    obtain ⟨y1, y2, y3⟩ := g x hx
    refine ⟨pr_cs_of y1 (hM.1 _ (by omega)) (hM.1 _ (by omega)), ?_, ?_⟩
    · rw [hM.1 (30 + 4 * x) (by omega), hS (209 + x) (by omega)]
      exact y2
    · rw [hM.1 (30 + 4 * x) (by omega), hS (214 + x) (by omega)]
      exact y3
  · unfold imI at j5 ⊢
    rw [hM.1 0 (by omega), hM.1 67 (by omega)]
    rcases j5 with j5 | ⟨y1, y2, I, M, hk'⟩
    · exact Or.inl j5
    · refine Or.inr ⟨y1, y2, I, M, ?_⟩
      obtain ⟨k1, k2, k3, k4, k5, k6, k7, k8, k9, k10, k11, k12⟩ := hk'
      refine ⟨k1, by omega, by omega, by rw [hM.1 69 (by omega)]; exact k4, ?_, ?_, ?_, ?_, ?_, ?_, fun t ht => ?_, fun a ha => ?_⟩
      · rw [hM.2 1 (by omega), hM.1 3 (by omega)]; exact k5
      · rw [hM.2 4 (by omega), hM.1 6 (by omega)]; exact k6
      · rw [hM.2 7 (by omega), hM.1 9 (by omega)]; exact k7
      · rw [hM.2 10 (by omega), hM.1 12 (by omega)]; exact k8
      · rw [hM.2 13 (by omega), hM.1 15 (by omega)]; exact k9
      · rw [hM.2 16 (by omega), hM.1 18 (by omega)]; exact k10
      · obtain ⟨_, _, ⟨kind, c⟩, _⟩ := j3.1 t (by omega)
        have h76 := trT_76 c
        obtain ⟨z1, z2, z3, z4, z5⟩ := k11 t ht
        rw [hS (11 + t) (by omega), hS (17 + t) (by omega), hS (29 + t) (by omega), hM.1 (Q t) (by omega), hM.1 (Q t + 2) (by omega)]
        exact ⟨z1, z2, z3, z4, z5⟩
      · obtain ⟨z1, z2⟩ := k12 a ha
        rw [hS (209 + a) (by omega), hS (214 + a) (by omega)]
        exact ⟨z1, z2⟩
  · rw [hcs, hN0, hN2]
    obtain ⟨c1, c2, c3⟩ := hc
    have p1 := pk_cases c2.1
    refine ⟨c1, pr_cs_of c2 (hM.1 _ (by omega)) (hM.1 _ (by omega)), fun u hu => ?_⟩
    have q1 : μ' (spp u) = μ (spp u) := hM.1 _ (by unfold spp; split <;> omega)
    have q2 : μ' (spp u + 1) = μ (spp u + 1) := hM.1 _ (by unfold spp; split <;> omega)
    have := c3 u hu
    unfold spK at this ⊢
    rw [q1, q2, keepS_rn hS (by omega)]
    rcases hu with hu | hu
    · have hu6 : u < 6 := by omega
      rw [hS (11 + u) (by omega), hS (17 + u) (by omega)]
      exact this
    · simp only [if_pos hu] at this ⊢
      exact this
  · rw [hcs, hN0]
    obtain ⟨⟨m1, m2, m3⟩, m4⟩ := hm
    refine ⟨⟨m1, ?_, fun u hu => ?_⟩, h68⟩
    · rw [h68]
      rw [m4] at m2
      rcases m2 with ⟨y1, y2⟩ | ⟨a, y1, y2, y3, y4, y5, y6⟩
      · exact Or.inl ⟨(hS 7 (by omega)).trans y1, y2⟩
      · exact Or.inr ⟨a, y1, (hS 7 (by omega)).trans y2, (hS _ (by omega)).trans y3, y4, fun i hi => (hS _ (by omega)).trans (y5 i hi), y6⟩
    · rw [h68, keepS_rn hS (by omega)]
      have := m3 u hu
      rw [m4] at this
      exact fk_of this (by rw [hM.1 73 (by omega)]) (fun k _ => by rw [hM.1 72 (by omega)])
-- what has not changed
theorem uW (h : QI μ τ S N C Q) (hn : N' 1 = N 1) (hs : ∀ k, 59 ≤ k → k < 69 → S' k = S k) : sW S' N' := fun i hi => by
  rw [hn] at hi
  have h5 := (QI_b h).2.1
  obtain ⟨⟨m, a, b, c⟩, ⟨m', a', b'⟩⟩ := h.1.2.2.2.2.1 i hi
  exact ⟨⟨m, a, b, (hs _ (by omega) (by omega)).trans c⟩, ⟨m', a', (hs _ (by omega) (by omega)).trans b'⟩⟩
theorem uL (h : QI μ τ S N C Q) (h0 : N' 0 = N 0) (hn : N' 3 = N 3) (hs : ∀ k, 69 ≤ k → k < 77 → S' k = S k) : sL S' N' := fun i hi => by
  rw [hn] at hi
  have hb := QI_b h
  obtain ⟨a, ⟨m', a', b'⟩⟩ := h.1.2.2.2.2.2.1 i hi
  rw [hs (69 + i) (by omega) (by omega), h0]
  exact ⟨a, ⟨m', a', (hs _ (by omega) (by omega)).trans b'⟩⟩
theorem uR (h : QI μ τ S N C Q) (h0 : N' 0 = N 0) (hn : N' 4 = N 4) (hs : ∀ k, 77 ≤ k → k < 85 → S' k = S k) : sR S' N' := fun i hi => by
  rw [hn] at hi
  have hb := QI_b h
  obtain ⟨a, ⟨m', a', b'⟩⟩ := h.1.2.2.2.2.2.2.1 i hi
  rw [hs (77 + i) (by omega) (by omega), h0]
  exact ⟨a, ⟨m', a', (hs _ (by omega) (by omega)).trans b'⟩⟩
theorem uE (h : QI μ τ S N C Q) (h0 : N' 0 = N 0) (hn : N' 5 = N 5) (hs : ∀ k, 85 ≤ k → k < 109 → S' k = S k) : sE S' N' := fun i hi => by
  rw [hn] at hi
  have hb := QI_b h
  obtain ⟨a, ⟨m', a', b'⟩, ⟨m2, a2, b2⟩⟩ := h.1.2.2.2.2.2.2.2.1 i hi
  rw [hs (85 + i) (by omega) (by omega), h0]
  exact ⟨a, ⟨m', a', (hs _ (by omega) (by omega)).trans b'⟩, ⟨m2, a2, (hs _ (by omega) (by omega)).trans b2⟩⟩
theorem vN (h : QI μ τ S N C Q) (h1 : μ' 1 = μ 1) (h2 : μ' 2 = μ 2) (hs : ∀ k, (k = 0 ∨ k = 2 ∨ k = 8 ∨ k = 9 ∨ k = 10) → S' k = S k) : gN μ' S' := by
  have := h.2.1.1.1
  unfold gN rwI
  unfold rwI at this
  rw [h1, h2, hs 8 (by omega), hs 9 (by omega), hs 10 (by omega), hs 2 (by omega), hs 0 (by omega)]
  exact this
theorem vT (h : QI μ τ S N C Q) (hn : N' 6 = N 6) (h1 : μ' 4 = μ 4) (h2 : μ' 5 = μ 5) (hs : ∀ k, (k = 6 ∨ (109 ≤ k ∧ k < 209)) → S' k = S k) : gT μ' S' N' := by
  obtain ⟨a, b⟩ := h.2.1.1.2.1
  have hb := QI_b h
  unfold gT rwI
  unfold rwI at a
  rw [h1, h2, hs 6 (by omega), hn]
  exact ⟨a, fun i hi => by rw [hs (109 + i) (by omega)]; exact b i hi⟩
theorem vW (h : QI μ τ S N C Q) (hn : N' 1 = N 1) (h1 : μ' 7 = μ 7) (h2 : μ' 8 = μ 8) (hs : ∀ k, (k = 1 ∨ (59 ≤ k ∧ k < 69)) → S' k = S k) : gW μ' S' N' := by
  obtain ⟨a, b⟩ := h.2.1.1.2.2.1
  have hb := QI_b h
  unfold gW rwI
  unfold rwI at a
  rw [h1, h2, hs 1 (by omega), hn]
  exact ⟨a, fun i hi => by rw [hs (59 + i) (by omega), hs (64 + i) (by omega)]; exact b i hi⟩
theorem vL (h : QI μ τ S N C Q) (hn : N' 3 = N 3) (h1 : μ' 10 = μ 10) (h2 : μ' 11 = μ 11) (hs : ∀ k, (k = 3 ∨ (69 ≤ k ∧ k < 77)) → S' k = S k) : gL μ' S' N' := by
  obtain ⟨a, b⟩ := h.2.1.1.2.2.2.1
  have hb := QI_b h
  unfold gL rwI
  unfold rwI at a
  rw [h1, h2, hs 3 (by omega), hn]
  exact ⟨a, fun i hi => by rw [hs (69 + i) (by omega), hs (73 + i) (by omega)]; exact b i hi⟩
theorem vR (h : QI μ τ S N C Q) (hn : N' 4 = N 4) (h1 : μ' 13 = μ 13) (h2 : μ' 14 = μ 14) (hs : ∀ k, (k = 4 ∨ (77 ≤ k ∧ k < 85)) → S' k = S k) : gR μ' S' N' := by
  obtain ⟨a, b⟩ := h.2.1.1.2.2.2.2.1
  have hb := QI_b h
  unfold gR rwI
  unfold rwI at a
  rw [h1, h2, hs 4 (by omega), hn]
  exact ⟨a, fun i hi => by rw [hs (77 + i) (by omega), hs (81 + i) (by omega)]; exact b i hi⟩
theorem vE (h : QI μ τ S N C Q) (hn : N' 5 = N 5) (h1 : μ' 16 = μ 16) (h2 : μ' 17 = μ 17) (hs : ∀ k, (k = 5 ∨ (85 ≤ k ∧ k < 109)) → S' k = S k) : gE μ' S' N' := by
  obtain ⟨a, b⟩ := h.2.1.1.2.2.2.2.2
  have hb := QI_b h
  unfold gE rwI
  unfold rwI at a
  rw [h1, h2, hs 5 (by omega), hn]
  exact ⟨a, fun i hi => by rw [hs (85 + i) (by omega), hs (93 + i) (by omega), hs (101 + i) (by omega)]; exact b i hi⟩
end MU
