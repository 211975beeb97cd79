/-! ===== all that is kept between calls ===== -/
--need 36.qf
/-- a sign -/
def byI (x : Int32) : Prop := ∃ b, b < 128 ∧ x = nI b
/-- a number of the model's row: at most b -/
def okN (S : Nat → Int32) (k b : Nat) : Prop := ∃ m, m ≤ b ∧ S k = nI m
/-- park a of the model: its program, what soaks, what waiting costs -/
def pkM (S : Nat → Int32) (a : Nat) (cs : List Nat) : Prop := S (219 + a) = nI cs.length ∧ cs.length ≤ 100 ∧ (∀ i, i < cs.length → S (224 + 140 * a + i) = stp (cs.getD i 0)) ∧ ev_w cs 0 = true ∧ okN S (209 + a) 99 ∧ okN S (214 + a) 99
/-- the model's row holds what the document allows; N its counts, C the programs of its parks -/
def sI (S : Nat → Int32) (N : Nat → Nat) (C : Nat → List Nat) : Prop :=
  (∀ k, k < 11 → k ≠ 7 → S k = nI (N k)) ∧
  (N 0 ≤ 6 ∧ N 1 ≤ 5 ∧ N 2 ≤ 5 ∧ N 3 ≤ 4 ∧ N 4 ≤ 4 ∧ N 5 ≤ 8 ∧ N 6 ≤ 100 ∧ N 8 ≤ 999 ∧ N 9 ≤ 99 ∧ N 10 ≤ 99) ∧
  (S 7 = if N 2 = 0 then -1 else nI (N 2 - 1)) ∧
  (∀ t, t < N 0 → okN S (11 + t) 6 ∧ okN S (17 + t) 9 ∧ okN S (23 + t) 99 ∧ okN S (29 + t) 99) ∧
  (∀ i, i < N 1 → (∃ m, 1 ≤ m ∧ m ≤ 20 ∧ S (59 + i) = nI m) ∧ okN S (64 + i) 99) ∧
  (∀ i, i < N 3 → (S (69 + i) = -1 ∨ ∃ t, t < N 0 ∧ S (69 + i) = nI t) ∧ okN S (73 + i) 20) ∧
  (∀ i, i < N 4 → (∃ t, t < N 0 ∧ S (77 + i) = nI t) ∧ okN S (81 + i) 20) ∧
  (∀ i, i < N 5 → (∃ t, t < N 0 ∧ S (85 + i) = nI t) ∧ okN S (93 + i) 999 ∧ okN S (101 + i) 99) ∧
  (∀ a, a < N 2 → pkM S a (C a)) ∧
  (∀ t, t < N 0 → ∀ k, k < 4 → okN S (35 + 4 * t + k) 9)
/-- rows of numbers of the program: limit, width, size -/
def rwI (μ : fm_M) (r lm wd : Nat) (sz : Int32) : Prop := μ r 0 = nI lm ∧ μ r 1 = nI wd ∧ μ r 4 = sz
/-- the rows of the program against the model's row -/
def rsI (μ : fm_M) (S : Nat → Int32) (N : Nat → Nat) : Prop :=
  (rwI μ 1 5 1 (nI 5) ∧ μ 2 0 = S 8 ∧ μ 2 1 = S 9 ∧ μ 2 2 = S 10 ∧ μ 2 3 = S 2 ∧ μ 2 4 = S 0) ∧
  (rwI μ 4 100 1 (S 6) ∧ ∀ i, i < N 6 → μ 5 i = S (109 + i) ∧ byI (μ 5 i)) ∧
  (rwI μ 7 5 2 (S 1) ∧ ∀ i, i < N 1 → μ 8 (i * 2) = S (59 + i) ∧ μ 8 (i * 2 + 1) = S (64 + i)) ∧
  (rwI μ 10 4 2 (S 3) ∧ ∀ i, i < N 3 → μ 11 (i * 2) = S (69 + i) ∧ μ 11 (i * 2 + 1) = S (73 + i)) ∧
  (rwI μ 13 4 2 (S 4) ∧ ∀ i, i < N 4 → μ 14 (i * 2) = S (77 + i) ∧ μ 14 (i * 2 + 1) = S (81 + i)) ∧
  (rwI μ 16 8 3 (S 5) ∧ ∀ i, i < N 5 → μ 17 (i * 3) = S (85 + i) ∧ μ 17 (i * 3 + 1) = S (93 + i) ∧ μ 17 (i * 3 + 2) = S (101 + i))
/-- the bodies run -/
def boI (μ : fm_M) : Prop := ∃ ran, ran ≤ 20 ∧ rwI μ 19 20 1 (nI ran) ∧ μ 67 20 = nI ran ∧ ∀ i, i < ran → μ 20 i = μ 75 i
/-- the trees stand at Q -/
def tsI (μ : fm_M) (τ : List fm_D) (S : Nat → Int32) (n : Nat) (Q : Nat → Nat) : Prop :=
  (∀ t, t < n → μ 22 t = nI (Q t) ∧ Q t < 1000000 ∧ (∃ kind, trT μ τ S (Q t) t kind) ∧ μ (52 + 2 * t) 6 = S (29 + t)) ∧ ∀ t t', t < t' → t' < n → Q t < Q t'
/-- parks of the program against the model's row -/
def psI (μ : fm_M) (S : Nat → Int32) (N : Nat → Nat) (C : Nat → List Nat) : Prop :=
  (∀ i, i < 6 → μ 23 i = nI (52 + 2 * i) ∧ μ 24 i = nI (26 + 4 * i) ∧ μ (52 + 2 * i) 2 = nI (26 + 4 * N 2) ∧ μ (53 + 2 * i) 0 = nI 0) ∧ μ 0 11 = nI (26 + 4 * N 2) ∧ pr_cs μ 26 [] ∧ μ 26 0 = nI 99 ∧ μ 26 1 = nI 1 ∧ ∀ a, a < N 2 → pr_cs μ (30 + 4 * a) (C a) ∧ μ (30 + 4 * a) 0 = S (209 + a) ∧ μ (30 + 4 * a) 1 = S (214 + a)
/-- what is kept of the image: I its row, M its counts -/
def kpI (μ : fm_M) (S : Nat → Int32) (N : Nat → Nat) (C : Nat → List Nat) (Q : Nat → Nat) (I : Nat → Int32) (M : Nat → Nat) : Prop :=
  sI I M C ∧ M 0 ≤ N 0 ∧ M 2 ≤ N 2 ∧ μ 69 = I ∧
  (μ 1 5 = nI 5 ∧ μ 3 0 = I 8 ∧ μ 3 1 = I 9 ∧ μ 3 2 = I 10 ∧ μ 3 3 = I 2 ∧ μ 3 4 = I 0) ∧
  (μ 4 5 = I 6 ∧ ∀ i, i < M 6 → μ 6 i = I (109 + i) ∧ byI (μ 6 i)) ∧
  (μ 7 5 = I 1 ∧ ∀ i, i < M 1 → μ 9 (i * 2) = I (59 + i) ∧ μ 9 (i * 2 + 1) = I (64 + i)) ∧
  (μ 10 5 = I 3 ∧ ∀ i, i < M 3 → μ 12 (i * 2) = I (69 + i) ∧ μ 12 (i * 2 + 1) = I (73 + i)) ∧
  (μ 13 5 = I 4 ∧ ∀ i, i < M 4 → μ 15 (i * 2) = I (77 + i) ∧ μ 15 (i * 2 + 1) = I (81 + i)) ∧
  (μ 16 5 = I 5 ∧ ∀ i, i < M 5 → μ 18 (i * 3) = I (85 + i) ∧ μ 18 (i * 3 + 1) = I (93 + i) ∧ μ 18 (i * 3 + 2) = I (101 + i)) ∧
  (∀ t, t < M 0 → I (11 + t) = S (11 + t) ∧ I (17 + t) = S (17 + t) ∧ I (29 + t) = S (29 + t) ∧ μ (Q t) 2 = I (23 + t) ∧ (S (11 + t) = nI 6 → ∀ k, k < 4 → μ (Q t + 2) k = I (35 + 4 * t + k))) ∧
  (∀ a, a < M 2 → I (209 + a) = S (209 + a) ∧ I (214 + a) = S (214 + a))
def imI (μ : fm_M) (S : Nat → Int32) (N : Nat → Nat) (C : Nat → List Nat) (Q : Nat → Nat) : Prop :=
  (μ 0 12 = nI 0 ∧ μ 67 3 = nI 0) ∨ (μ 0 12 = nI 1 ∧ μ 67 3 = nI 1 ∧ ∃ I M, kpI μ S N C Q I M)
/-- the program that rains now -/
def csN (N : Nat → Nat) (C : Nat → List Nat) : List Nat := if N 2 = 0 then [] else C (N 2 - 1)
/-- all but what is known of the rain -/
def ST (μ : fm_M) (τ : List fm_D) (S : Nat → Int32) (N : Nat → Nat) (C : Nat → List Nat) (Q : Nat → Nat) : Prop :=
  rsI μ S N ∧ boI μ ∧ tsI μ τ S (N 0) Q ∧ psI μ S N C ∧ imI μ S N C Q
def QI (μ : fm_M) (τ : List fm_D) (S : Nat → Int32) (N : Nat → Nat) (C : Nat → List Nat) (Q : Nat → Nat) : Prop :=
  sI S N C ∧ ST μ τ S N C Q ∧ ck μ S (csN N C) (26 + 4 * N 2) (N 0) ∧ mk2 μ S (N 0) (csN N C)
section IV
variable {μ μ' : fm_M} {τ : List fm_D} {S : Nat → Int32} {N : Nat → Nat} {C : Nat → List Nat} {Q : Nat → Nat}
theorem ST_qf (h : ST μ τ S N C Q) (hN : N 0 ≤ 6) (hN2 : N 2 ≤ 5) (hf : qf μ μ') : ST μ' τ S N C Q := by
  obtain ⟨hr, hb, ht, hp, hi⟩ := h
  have row : ∀ r, r < 25 → μ' r = μ r := fun r hr => hf.1 r (Or.inl hr)
  have big : ∀ r, 75 ≤ r → μ' r = μ r := fun r hr => hf.1 r (by omega)
  have pk : ∀ i, i < 6 → μ' (26 + 4 * i) = μ (26 + 4 * i) ∧ μ' (26 + 4 * i + 1) = μ (26 + 4 * i + 1) := fun i hi => ⟨hf.1 _ (by omega), hf.1 _ (by omega)⟩
  have h69 : μ' 69 = μ 69 := hf.1 69 (by omega)
  refine ⟨?_, ?_, ?_, ?_, ?_⟩
  · unfold rsI rwI at hr ⊢
    rw [row 1 (by decide), row 2 (by decide), row 4 (by decide), row 5 (by decide), row 7 (by decide), row 8 (by decide), row 10 (by decide), row 11 (by decide), row 13 (by decide), row 14 (by decide), row 16 (by decide), row 17 (by decide)]
    exact hr
  · unfold boI rwI at hb ⊢
    rw [row 19 (by decide), row 20 (by decide), big 75 (by decide), hf.2.2 20 (by decide) (by decide) (by decide) (by decide) (by decide)]
    exact hb
  · refine ⟨fun t htn => ?_, ht.2⟩
    obtain ⟨a, b, ⟨kind, c⟩, e⟩ := ht.1 t htn
    have h76 := trT_76 c
    refine ⟨by rw [row 22 (by decide)]; exact a, b, ⟨kind, trT_of c (big _ (by omega)) (big _ (by omega))⟩, ?_⟩
    have := hf.2.1.1 (t + 1) 6 (by omega) (by decide)
    rw [show 50 + 2 * (t + 1) = 52 + 2 * t by omega] at this
    rw [this]
    exact e
  · obtain ⟨a, b, c, e, f, g⟩ := hp
    refine ⟨fun i hi => ?_, by rw [row 0 (by decide)]; exact b, pr_cs_of c (pk 0 (by decide)).1 (pk 0 (by decide)).2, by rw [(pk 0 (by decide)).1]; exact e, by rw [(pk 0 (by decide)).1]; exact f, fun x hx => ?_⟩
    · obtain ⟨a1, a2, a3, a4⟩ := a i hi
      have s1 := hf.2.1.1 (i + 1) 2 (by omega) (by decide)
      have s2 := hf.2.1.2 (i + 1) (by omega)
      rw [show 50 + 2 * (i + 1) = 52 + 2 * i by omega] at s1
      rw [show 51 + 2 * (i + 1) = 53 + 2 * i by omega] at s2
      exact ⟨by rw [row 23 (by decide)]; exact a1, by rw [row 24 (by decide)]; exact a2, s1.trans a3, s2.trans a4⟩
    · have q := pk (x + 1) (by omega)
      rw [show 26 + 4 * (x + 1) = 30 + 4 * x by omega] at q
      obtain ⟨g1, g2, g3⟩ := g x hx
      exact ⟨pr_cs_of g1 q.1 q.2, by rw [q.1]; exact g2, by rw [q.1]; exact g3⟩
  · unfold imI at hi ⊢
    rw [row 0 (by decide), hf.2.2 3 (by decide) (by decide) (by decide) (by decide) (by decide)]
    rcases hi with hi | ⟨h1, h2, I, M, hk⟩
    · exact Or.inl hi
    · refine Or.inr ⟨h1, h2, I, M, ?_⟩
      have hM : ∀ t, t < M 0 → μ' (Q t) = μ (Q t) ∧ μ' (Q t + 2) = μ (Q t + 2) := by
        intro t htM
        obtain ⟨_, _, ⟨kind, c⟩, _⟩ := ht.1 t (by have := hk.2.1; omega)
        have h76 := trT_76 c
        exact ⟨big _ (by omega), big _ (by omega)⟩
      unfold kpI at hk ⊢
      obtain ⟨k1, k2, k3, k4, k5, k6, k7, k8, k9, k10, k11, k12⟩ := hk
      rw [h69, row 1 (by decide), row 3 (by decide), row 4 (by decide), row 6 (by decide), row 7 (by decide), row 9 (by decide), row 10 (by decide), row 12 (by decide), row 13 (by decide), row 15 (by decide), row 16 (by decide), row 18 (by decide)]
      refine ⟨k1, k2, k3, k4, k5, k6, k7, k8, k9, k10, fun t htM => ?_, k12⟩
      rw [(hM t htM).1, (hM t htM).2]
      exact k11 t htM
/-- asking keeps all -/
theorem QI_qf (h : QI μ τ S N C Q) (hf : qf μ μ') (hc : ck μ' S (csN N C) (26 + 4 * N 2) (N 0)) (hm : mk2 μ' S (N 0) (csN N C)) : QI μ' τ S N C Q := ⟨h.1, ST_qf h.2.1 h.1.2.1.1 h.1.2.1.2.2.1 hf, hc, hm⟩
theorem QI_tf {r : Nat} (hr : tpO r) (h : QI μ τ S N C Q) (hf : tf r μ μ') (hc : ck μ' S (csN N C) (26 + 4 * N 2) (N 0)) : QI μ' τ S N C Q := QI_qf h (qf_tf hr hf) hc (mk2_tf hr h.2.2.2 hf)
theorem QI_cf (h : QI μ τ S N C Q) (hf : cf μ μ') (hc : ck μ' S (csN N C) (26 + 4 * N 2) (N 0)) : QI μ' τ S N C Q := QI_qf h (qf_cf hf) hc (mk2_cf h.2.2.2 hf)
theorem QI_mg (h : QI μ τ S N C Q) (hf : mg μ μ') (hm : mk2 μ' S (N 0) (csN N C)) : QI μ' τ S N C Q := QI_qf h (qf_mg hf) (ck_mg h.2.2.1 hf) hm
end IV
