/-! ===== a park: what is kept ===== -/
--need 77.park
section PQ
variable {X : ix_X} {d e : Nat} {τ : List fm_D} {μ μ' : fm_M} {S S' : Nat → Int32} {N N' : Nat → Nat} {C C' : Nat → List Nat} {Q : Nat → Nat} {a : Nat}
/-- what a park leaves as it was -/
def pkF (μ μ' : fm_M) (a : Nat) : Prop := (∀ q, q ≠ 0 → q ≠ 2 → q ≠ 4 → q ≠ 30 + 4 * a → q ≠ 31 + 4 * a → q ≠ 33 + 4 * a → (∀ j, j < 7 → q ≠ 50 + 2 * j) → q ≠ 67 → q ≠ 68 → q ≠ 73 → μ' q = μ q) ∧ (∀ k, k ≠ 11 → μ' 0 k = μ 0 k) ∧ (∀ k, k ≠ 3 → μ' 2 k = μ 2 k) ∧ (∀ k, k ≠ 4 → μ' 4 k = μ 4 k) ∧ μ' 4 4 = nI 0 ∧ (∀ j k, j < 7 → k ≠ 1 → k ≠ 2 → μ' (50 + 2 * j) k = μ (50 + 2 * j) k) ∧ ∀ k, k ≠ 4 → k ≠ 5 → k ≠ 6 → k ≠ 7 → k ≠ 8 → μ' 67 k = μ 67 k
def pkS (S S' : Nat → Int32) (a : Nat) : Prop := ∀ k, k ≠ 2 → k ≠ 6 → k ≠ 7 → k ≠ 209 + a → k ≠ 214 + a → k ≠ 219 + a → (k < 224 + 140 * a ∨ 224 + 140 * a + 140 ≤ k) → S' k = S k
theorem pk_old (h : QI μ τ S N C Q) (ha : a < 5) (hN2 : N 2 = a) (hf : pkF μ μ' a) (hS : pkS S S' a) {x : Nat} (hx : x < a) : pr_cs μ' (30 + 4 * x) (C x) ∧ μ' (30 + 4 * x) 0 = S' (209 + x) ∧ μ' (30 + 4 * x) 1 = S' (214 + x) := by
  obtain ⟨s1, s2, s3, s4, s5, s6⟩ := id h.2.1.2.2.2.1
  obtain ⟨y1, y2, y3⟩ := s6 x (by omega)
  have r0 : μ' (30 + 4 * x) = μ (30 + 4 * x) := hf.1 _ (by omega) (by omega) (by omega) (by omega) (by omega) (by omega) (fun j hj => by omega) (by omega) (by omega) (by omega)
  have r1 : μ' (30 + 4 * x + 1) = μ (30 + 4 * x + 1) := hf.1 _ (by omega) (by omega) (by omega) (by omega) (by omega) (by omega) (fun j hj => by omega) (by omega) (by omega) (by omega)
  refine ⟨pr_cs_of y1 r0 r1, ?_, ?_⟩
  · rw [r0, hS _ (by omega) (by omega) (by omega) (by omega) (by omega) (by omega) (by omega)]; exact y2
  · rw [r0, hS _ (by omega) (by omega) (by omega) (by omega) (by omega) (by omega) (by omega)]; exact y3
theorem pk_sI (h : QI μ τ S N C Q) (ha : a < 5) (hN2 : N 2 = a) (hS : pkS S S' a) (h6 : S' 6 = nI 0) (n6 : N' 6 = 0) (n2 : N' 2 = a ∨ N' 2 = a + 1) (nk : ∀ k, k ≠ 2 → k ≠ 6 → N' k = N k) (s2 : S' 2 = nI (N' 2)) (s7 : S' 7 = if N' 2 = 0 then -1 else nI (N' 2 - 1)) (cx : ∀ x, x < a → C' x = C x) (hnew : N' 2 = a + 1 → pkM S' a (C' a)) : sI S' N' C' := by
  obtain ⟨i1, i2, i3, i4, i5, i6, i7, i8, i9, i10⟩ := h.1
  have e : ∀ k, k ≠ 2 → k ≠ 6 → k ≠ 7 → k < 209 → S' k = S k := fun k c2 c6 c7 c => hS k c2 c6 c7 (by omega) (by omega) (by omega) (by omega)
  have ok : ∀ k b, k ≠ 2 → k ≠ 6 → k ≠ 7 → k < 209 → okN S k b → okN S' k b := fun k b c2 c6 c7 c ho => by
    obtain ⟨m, m1, m2⟩ := ho
    exact ⟨m, m1, (e k c2 c6 c7 c).trans m2⟩
  obtain ⟨b0, b1, b2, b3, b4, b5, b6, b8, b9, b10⟩ := i2
  have m0 := nk 0 (by decide) (by decide)
  have m1 := nk 1 (by decide) (by decide)
  have m3 := nk 3 (by decide) (by decide)
  have m4 := nk 4 (by decide) (by decide)
  have m5 := nk 5 (by decide) (by decide)
  have m8 := nk 8 (by decide) (by decide)
  have m9 := nk 9 (by decide) (by decide)
  have m10 := nk 10 (by decide) (by decide)
  refine ⟨fun k hk k7 => ?_, ⟨by omega, by omega, by omega, by omega, by omega, by omega, by omega, by omega, by omega, by omega⟩, s7, fun t ht => ?_, fun i hi => ?_, fun i hi => ?_, fun i hi => ?_, fun i hi => ?_, fun x hx => ?_, fun t ht k hk => ?_⟩
  · by_cases q2 : k = 2
    · subst q2; exact s2
    · by_cases q6 : k = 6
      · subst q6; rw [n6]; exact h6
      · rw [nk k q2 q6, e k q2 q6 k7 (by omega)]; exact i1 k hk k7
  · rw [m0] at ht
    obtain ⟨x1, x2, x3, x4⟩ := i4 t ht
    exact ⟨ok _ _ (by omega) (by omega) (by omega) (by omega) x1, ok _ _ (by omega) (by omega) (by omega) (by omega) x2, ok _ _ (by omega) (by omega) (by omega) (by omega) x3, ok _ _ (by omega) (by omega) (by omega) (by omega) x4⟩
  · rw [m1] at hi
    obtain ⟨x1, x2⟩ := i5 i hi
    rw [e (59 + i) (by omega) (by omega) (by omega) (by omega)]
    exact ⟨x1, ok _ _ (by omega) (by omega) (by omega) (by omega) x2⟩
  · rw [m3] at hi
    obtain ⟨x1, x2⟩ := i6 i hi
    rw [e (69 + i) (by omega) (by omega) (by omega) (by omega), m0]
    exact ⟨x1, ok _ _ (by omega) (by omega) (by omega) (by omega) x2⟩
  · rw [m4] at hi
    obtain ⟨x1, x2⟩ := i7 i hi
    rw [e (77 + i) (by omega) (by omega) (by omega) (by omega), m0]
    exact ⟨x1, ok _ _ (by omega) (by omega) (by omega) (by omega) x2⟩
  · rw [m5] at hi
    obtain ⟨x1, x2, x3⟩ := i8 i hi
    rw [e (85 + i) (by omega) (by omega) (by omega) (by omega), m0]
    exact ⟨x1, ok _ _ (by omega) (by omega) (by omega) (by omega) x2, ok _ _ (by omega) (by omega) (by omega) (by omega) x3⟩
  · by_cases q : x < a
    · obtain ⟨c1, c2, c3, c4, ⟨w1, w2, w3⟩, ⟨w4, w5, w6⟩⟩ := i9 x (by omega)
      rw [cx x q]
      refine ⟨(hS _ (by omega) (by omega) (by omega) (by omega) (by omega) (by omega) (by omega)).trans c1, c2, fun i hi => (hS _ (by omega) (by omega) (by omega) (by omega) (by omega) (by omega) (by omega)).trans (c3 i hi), c4, ⟨w1, w2, (hS _ (by omega) (by omega) (by omega) (by omega) (by omega) (by omega) (by omega)).trans w3⟩, ⟨w4, w5, (hS _ (by omega) (by omega) (by omega) (by omega) (by omega) (by omega) (by omega)).trans w6⟩⟩
    · have : x = a := by omega
      subst this
      exact hnew (by omega)
  · rw [m0] at ht
    exact ok _ _ (by omega) (by omega) (by omega) (by omega) (i10 t ht k hk)
theorem pk_QI (h : QI μ τ S N C Q) (ha : a < 5) (hN2 : N 2 = a) (hf : pkF μ μ' a) (hS : pkS S S' a) (h6 : S' 6 = nI 0) (n6 : N' 6 = 0) (n2 : N' 2 = a ∨ N' 2 = a + 1) (nk : ∀ k, k ≠ 2 → k ≠ 6 → N' k = N k) (h23 : μ' 2 3 = S' 2) (cx : ∀ x, x < a → C' x = C x) (hs' : sI S' N' C') (hps : psI μ' S' N' C') (hck : ck μ' S' (csN N' C') (26 + 4 * N' 2) (N' 0)) (hmk : mk2 μ' S' (N' 0) (csN N' C')) : QI μ' τ S' N' C' Q := by
  obtain ⟨⟨i1, i2, i3, i4, i5, i6, i7, i8, i9, i10⟩, ⟨j1, j2, j3, j4, j5⟩, hc, hm⟩ := id h
  obtain ⟨f1, f2, f3, f4, f5, f6, f7⟩ := hf
  obtain ⟨b0, b1, b2, b3, b4, b5, b6, b8, b9, b10⟩ := i2
  have e : ∀ k, k ≠ 2 → k ≠ 6 → k ≠ 7 → k < 209 → S' k = S k := fun k c2 c6 c7 c => hS k c2 c6 c7 (by omega) (by omega) (by omega) (by omega)
  have low : ∀ q, q < 26 → q ≠ 0 → q ≠ 2 → q ≠ 4 → μ' q = μ q := fun q hq c0 c2 c4 => f1 q c0 c2 c4 (by omega) (by omega) (by omega) (fun j hj => by omega) (by omega) (by omega) (by omega)
  have big : ∀ q, 74 ≤ q → μ' q = μ q := fun q hq => f1 q (by omega) (by omega) (by omega) (by omega) (by omega) (by omega) (fun j hj => by omega) (by omega) (by omega) (by omega)
  have r69 : μ' 69 = μ 69 := f1 69 (by decide) (by decide) (by decide) (by omega) (by omega) (by omega) (fun j hj => by omega) (by decide) (by decide) (by decide)
  have m0 := nk 0 (by decide) (by decide)
  have m1 := nk 1 (by decide) (by decide)
  have m3 := nk 3 (by decide) (by decide)
  have m4 := nk 4 (by decide) (by decide)
  have m5 := nk 5 (by decide) (by decide)
  obtain ⟨g1, g2, g3, g4, g5, g6⟩ := j1
  unfold rwI at g1 g2 g3 g4 g5 g6
  refine ⟨hs', ⟨⟨?_, ?_, ?_, ?_, ?_, ?_⟩, ?_, ?_, hps, ?_⟩, hck, hmk⟩
  · unfold rwI
    rw [low 1 (by decide) (by decide) (by decide) (by decide), f3 0 (by decide), f3 1 (by decide), f3 2 (by decide), f3 4 (by decide), h23, e 8 (by decide) (by decide) (by decide) (by decide), e 9 (by decide) (by decide) (by decide) (by decide), e 10 (by decide) (by decide) (by decide) (by decide), e 0 (by decide) (by decide) (by decide) (by decide)]
    exact ⟨g1.1, g1.2.1, g1.2.2.1, g1.2.2.2.1, rfl, g1.2.2.2.2.2⟩
  · unfold rwI
    rw [f4 0 (by decide), f4 1 (by decide), f5, h6]
    exact ⟨⟨g2.1.1, g2.1.2.1, rfl⟩, fun i hi => by rw [n6] at hi; omega⟩
  · unfold rwI
    rw [low 7 (by decide) (by decide) (by decide) (by decide), low 8 (by decide) (by decide) (by decide) (by decide), e 1 (by decide) (by decide) (by decide) (by decide), m1]
    exact ⟨g3.1, fun i hi => by rw [e (59 + i) (by omega) (by omega) (by omega) (by omega), e (64 + i) (by omega) (by omega) (by omega) (by omega)]; exact g3.2 i hi⟩
  · unfold rwI
    rw [low 10 (by decide) (by decide) (by decide) (by decide), low 11 (by decide) (by decide) (by decide) (by decide), e 3 (by decide) (by decide) (by decide) (by decide), m3]
    exact ⟨g4.1, fun i hi => by rw [e (69 + i) (by omega) (by omega) (by omega) (by omega), e (73 + i) (by omega) (by omega) (by omega) (by omega)]; exact g4.2 i hi⟩
  · unfold rwI
    rw [low 13 (by decide) (by decide) (by decide) (by decide), low 14 (by decide) (by decide) (by decide) (by decide), e 4 (by decide) (by decide) (by decide) (by decide), m4]
    exact ⟨g5.1, fun i hi => by rw [e (77 + i) (by omega) (by omega) (by omega) (by omega), e (81 + i) (by omega) (by omega) (by omega) (by omega)]; exact g5.2 i hi⟩
  · unfold rwI
    rw [low 16 (by decide) (by decide) (by decide) (by decide), low 17 (by decide) (by decide) (by decide) (by decide), e 5 (by decide) (by decide) (by decide) (by decide), m5]
    exact ⟨g6.1, fun i hi => by rw [e (85 + i) (by omega) (by omega) (by omega) (by omega), e (93 + i) (by omega) (by omega) (by omega) (by omega), e (101 + i) (by omega) (by omega) (by omega) (by omega)]; exact g6.2 i hi⟩
  · unfold boI rwI at j2 ⊢
    rw [low 19 (by decide) (by decide) (by decide) (by decide), low 20 (by decide) (by decide) (by decide) (by decide), big 75 (by decide), f7 20 (by decide) (by decide) (by decide) (by decide) (by decide)]
    exact j2
  · rw [m0]
    refine ⟨fun t ht => ?_, j3.2⟩
    obtain ⟨x1, x2, ⟨kind, c⟩, x3⟩ := j3.1 t ht
    have h76 := trT_76 c
    refine ⟨by rw [low 22 (by decide) (by decide) (by decide) (by decide)]; exact x1, x2, ⟨kind, ?_⟩, ?_⟩
    · obtain ⟨c1, c2, c3, c4, c5⟩ := c
      refine ⟨(e _ (by omega) (by omega) (by omega) (by omega)).trans c1, c2, c3, by rw [big (Q t) (by omega), e (23 + t) (by omega) (by omega) (by omega) (by omega)]; exact c4, fun hk6 => ⟨(c5 hk6).1, fun k hk' => ?_⟩⟩
      rw [big (Q t + 1) (by omega), e (35 + 4 * t + k) (by omega) (by omega) (by omega) (by omega)]
      exact (c5 hk6).2 k hk'
    · have := f6 (t + 1) 6 (by omega) (by decide) (by decide)
      rw [show 50 + 2 * (t + 1) = 52 + 2 * t by omega] at this
      rw [this, e (29 + t) (by omega) (by omega) (by omega) (by omega)]
      exact x3
  · unfold imI at j5 ⊢
    rw [f2 12 (by decide), f7 3 (by decide) (by decide) (by decide) (by decide) (by decide)]
    rcases j5 with j5 | ⟨y1, y2, I, M, hk'⟩
    · exact Or.inl j5
    · refine Or.inr ⟨y1, y2, I, M, ?_⟩
      obtain ⟨k1, k2, k3, k4, k5, k6, k7, k8, k9, k10, k11, k12⟩ := hk'
      have k1' : sI I M C' := by
        obtain ⟨v1, v2, v3, v4, v5, v6, v7, v8, v9, v10⟩ := k1
        exact ⟨v1, v2, v3, v4, v5, v6, v7, v8, fun x hx => by rw [cx x (by omega)]; exact v9 x hx, v10⟩
      refine ⟨k1', by omega, by omega, by rw [r69]; exact k4, ?_, ?_, ?_, ?_, ?_, ?_, fun t ht => ?_, fun x hx => ?_⟩
      · rw [low 1 (by decide) (by decide) (by decide) (by decide), low 3 (by decide) (by decide) (by decide) (by decide)]; exact k5
      · rw [f4 5 (by decide), low 6 (by decide) (by decide) (by decide) (by decide)]; exact k6
      · rw [low 7 (by decide) (by decide) (by decide) (by decide), low 9 (by decide) (by decide) (by decide) (by decide)]; exact k7
      · rw [low 10 (by decide) (by decide) (by decide) (by decide), low 12 (by decide) (by decide) (by decide) (by decide)]; exact k8
      · rw [low 13 (by decide) (by decide) (by decide) (by decide), low 15 (by decide) (by decide) (by decide) (by decide)]; exact k9
      · rw [low 16 (by decide) (by decide) (by decide) (by decide), low 18 (by decide) (by decide) (by decide) (by decide)]; exact k10
      · obtain ⟨_, _, ⟨kind, c⟩, _⟩ := j3.1 t (by omega)
        have h76 := trT_76 c
        obtain ⟨z1, z2, z3, z4, z5⟩ := k11 t ht
        rw [e (11 + t) (by omega) (by omega) (by omega) (by omega), e (17 + t) (by omega) (by omega) (by omega) (by omega), e (29 + t) (by omega) (by omega) (by omega) (by omega), big (Q t) (by omega), big (Q t + 2) (by omega)]
        exact ⟨z1, z2, z3, z4, z5⟩
      · obtain ⟨z1, z2⟩ := k12 x hx
        rw [hS (209 + x) (by omega) (by omega) (by omega) (by omega) (by omega) (by omega) (by omega), hS (214 + x) (by omega) (by omega) (by omega) (by omega) (by omega) (by omega) (by omega)]
        exact ⟨z1, z2⟩
theorem pk_rn (hS : pkS S S' a) {cs : List Nat} {u : Nat} (hu : u ≤ 6) : rn S' cs u = rn S cs u := by
  funext m
  unfold rn
  split
  · rfl
  · rw [hS (11 + u) (by omega) (by omega) (by omega) (by omega) (by omega) (by omega) (by omega), hS (17 + u) (by omega) (by omega) (by omega) (by omega) (by omega) (by omega) (by omega)]
theorem spp_j {u : Nat} (hu : u ≤ 6) : ∃ j, j < 7 ∧ spp u = 50 + 2 * j := by
  unfold spp
  split
  · exact ⟨0, by decide, rfl⟩
  · exact ⟨u + 1, by omega, by omega⟩
end PQ
