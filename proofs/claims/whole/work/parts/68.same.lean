/-! ===== the program's order of steps is the model's ===== -/
--need 67.parse
section SM8
variable {n : Nat} {T : Nat → Int32} {P : Nat → pT}
theorem sg_end {p : Nat} (h : n ≤ p) {b : Nat} (hb : b < 2147483648) : ¬ sg n T p = nI b := fun e => by
  have := sg_lt hb e
  omega
theorem and_fuel (hP : adv (n := n) P) : ∀ (k k' p : Nat), n < p + k → n < p + k' → andS n T P k p = andS n T P k' p
  | 0, 0, p, _, _ => rfl
  | 0, k' + 1, p, h, _ => by
    rw [andS, andS, if_neg (sg_end (by omega) (by decide))]
  | k + 1, 0, p, _, h => by
    rw [andS, andS, if_neg (sg_end (by omega) (by decide))]
  | k + 1, k' + 1, p, h, h' => by
    rw [andS, andS]
    split
    · refine pb_congr (fun q cs hq => ?_)
      obtain ⟨a1, a2, a3⟩ := hP _ _ _ hq
      exact pb_congr (fun q' cs' hq' => by
        simp only [em, Sum.inr.injEq, Prod.mk.injEq] at hq'
        obtain ⟨rfl, _⟩ := hq'
        exact and_fuel hP k k' q (by omega) (by omega))
    · rfl
theorem and_le (hP : adv (n := n) P) : ∀ (k p q : Nat) (l : List Nat), andS n T P k p = .inr (q, l) → p ≤ q
  | 0, p, q, l, h => by simp [andS] at h; omega
  | k + 1, p, q, l, h => by
    rw [andS] at h
    split at h
    · obtain ⟨q1, c1, c2, h1, h2, rfl⟩ := pb_r h
      obtain ⟨q2, c3, c4, h3, h4, rfl⟩ := pb_r h2
      simp only [em, Sum.inr.injEq, Prod.mk.injEq] at h3
      obtain ⟨rfl, rfl⟩ := h3
      obtain ⟨a1, a2, a3⟩ := hP _ _ _ h1
      have := and_le hP k _ q c4 h4
      omega
    · simp at h
      omega
theorem ev_le (hP : adv (n := n) P) {p q : Nat} {l : List Nat} (h : evS n T P p = .inr (q, l)) : p < q := by
  obtain ⟨q1, c1, c2, h1, h2, rfl⟩ := pb_r h
  obtain ⟨a1, a2, a3⟩ := hP _ _ _ h1
  have := and_le hP _ _ _ _ h2
  omega
theorem or_fuel (hP : adv (n := n) P) : ∀ (k k' p : Nat), n < p + k → n < p + k' → orS n T P k p = orS n T P k' p
  | 0, 0, p, _, _ => rfl
  | 0, k' + 1, p, h, _ => by
    rw [orS, orS, if_neg (sg_end (by omega) (by decide))]
  | k + 1, 0, p, _, h => by
    rw [orS, orS, if_neg (sg_end (by omega) (by decide))]
  | k + 1, k' + 1, p, h, h' => by
    rw [orS, orS]
    split
    · refine pb_congr (fun q cs hq => ?_)
      have := ev_le hP hq
      exact pb_congr (fun q' cs' hq' => by
        simp only [em, Sum.inr.injEq, Prod.mk.injEq] at hq'
        obtain ⟨rfl, _⟩ := hq'
        exact or_fuel hP k k' q (by omega) (by omega))
    · rfl
theorem ow_at {w : Bool} {p q : Nat} {l : List Nat} (h : ow w p = .inr (q, l)) : q = p := by
  cases w <;> simp [ow, em] at h <;> exact h.1.symm
theorem loop_eq (hP : adv (n := n) P) (hn : n ≤ 100) : ∀ (k p : Nat) (w : Bool), n < p + k → 1 ≤ p → loopS n T P k p w = pb (andS n T P 101 p) (fun q => pb (ow w q) (orS n T P 101))
  | 0, p, w, h, h1 => by
    rw [loopS, andS, if_neg (sg_end (by omega) (by decide)), pb_0]
    have e : ∀ q cs, ow w p = .inr (q, cs) → orS n T P 101 q = .inr (q, []) := fun q cs hq => by
      rw [ow_at hq, orS, if_neg (sg_end (by omega) (by decide))]
    rw [pb_congr (g := fun q => .inr (q, [])) e]
    cases w <;> simp [ow, em, pb]
  | k + 1, p, w, h, h1 => by
    rw [loopS]
    by_cases q38 : sg n T p = nI 38
    · rw [if_pos q38, show andS n T P 101 p = pb (P (p + 1)) (fun q => pb (em 1600 q) (andS n T P 100)) by rw [andS, if_pos q38], pb_assoc]
      refine pb_congr (fun q cs hq => ?_)
      obtain ⟨a1, a2, a3⟩ := hP _ _ _ hq
      rw [pb_assoc]
      refine pb_congr (fun q' cs' hq' => ?_)
      simp only [em, Sum.inr.injEq, Prod.mk.injEq] at hq'
      obtain ⟨rfl, _⟩ := hq'
      rw [loop_eq hP hn k q w (by omega) (by omega), and_fuel hP 101 100 q (by omega) (by omega)]
    · rw [if_neg q38, show andS n T P 101 p = .inr (p, []) by rw [andS, if_neg q38], pb_0]
      by_cases q124 : sg n T p = nI 124
      · rw [if_pos q124]
        refine pb_congr (fun q cs hq => ?_)
        have eq := ow_at hq
        subst eq
        rw [show orS n T P 101 q = pb (evS n T P (q + 1)) (fun q => pb (em 1700 q) (orS n T P 100)) by rw [orS, if_pos q124], evS, pb_assoc]
        refine pb_congr (fun q' cs' hq' => ?_)
        obtain ⟨a1, a2, a3⟩ := hP _ _ _ hq'
        rw [loop_eq hP hn k q' true (by omega) (by omega)]
        refine pb_congr (fun q2 cs2 hq2 => ?_)
        have l2 := and_le hP _ _ _ _ hq2
        show pb (em 1700 q2) _ = _
        refine pb_congr (fun q3 cs3 hq3 => ?_)
        simp only [em, Sum.inr.injEq, Prod.mk.injEq] at hq3
        obtain ⟨rfl, _⟩ := hq3
        exact or_fuel hP 101 100 q2 (by omega) (by omega)
      · rw [if_neg q124]
        have e : ∀ q cs, ow w p = .inr (q, cs) → orS n T P 101 q = .inr (q, []) := fun q cs hq => by
          rw [ow_at hq, orS, if_neg q124]
        rw [pb_congr (g := fun q => .inr (q, [])) e]
        cases w <;> simp [ow, em, pb]
theorem cho_som (hP : adv (n := n) P) (hn : n ≤ 100) (p : Nat) : choS n T P p = somS n T P p := by
  rw [choS, somS, evS, pb_assoc]
  refine pb_congr (fun q cs hq => ?_)
  obtain ⟨a1, a2, a3⟩ := hP _ _ _ hq
  rw [loop_eq hP hn 100 q false (by omega) (by omega)]
  refine pb_congr (fun q2 cs2 hq2 => ?_)
  show pb (.inr (q2, [])) _ = _
  rw [pb_0]
theorem wn_ok {k p q v : Nat} (hk : k < 4) (h : wnS n T k p = .inr (q, v)) : p < q ∧ q ≤ n ∧ v ≤ 99 := by
  unfold wnS at h
  split at h
  · simp at h
  · rename_i q1 h1
    have l5 : ∀ k : Fin 4, 0 + 5 ≤ tl k := by decide +kernel
    have := word_ok (k := k) (by omega) 5 0 p q1 (l5 ⟨k, hk⟩) h1
    have := num_ok h
    omega
theorem rain_ok {k a p q : Nat} {l : List Nat} (hk : k < 4) (ha : a = 18 ∨ a = 19) (h : rainS n T k a p = .inr (q, l)) : p < q ∧ q ≤ n ∧ p + l.length ≤ q ∧ ∀ rest, ev_w (l ++ rest) 0 = ev_w rest 0 := by
  unfold rainS at h
  split at h
  · simp at h
  · rename_i q1 v h1
    obtain ⟨a1, a2, a3⟩ := wn_ok hk h1
    split at h
    · obtain ⟨q2, c1, c2, h2, h3, rfl⟩ := pb_r h
      simp only [em, Sum.inr.injEq, Prod.mk.injEq] at h3
      obtain ⟨rfl, rfl⟩ := h3
      obtain ⟨b1, b2, b3⟩ := cho_adv (par_adv 5) _ _ _ h2
      refine ⟨by omega, b2, by simp only [List.length_append, List.length_cons, List.length_nil]; omega, fun rest => ?_⟩
      rw [List.append_assoc, cho_stk (par_stk 5) _ _ _ h2 _ _ (by decide)]
      rcases ha with rfl | rfl
      · have hd : (18 * 100 + v) / 100 = 18 := by omega
        have d1 : decide (18 * 100 + v < 2000) = true := decide_eq_true (by omega)
        simp only [List.cons_append, List.nil_append, ev_w, hd, d1]
        simp
      · have hd : (19 * 100 + v) / 100 = 19 := by omega
        have d1 : decide (19 * 100 + v < 2000) = true := decide_eq_true (by omega)
        simp only [List.cons_append, List.nil_append, ev_w, hd, d1]
        simp
    · simp at h
theorem clau_ok {p sk wt q sk' wt' : Nat} {l : List Nat} (h1 : sk ≤ 99) (h2 : wt ≤ 99) (h : clauS n T p sk wt = .inr (q, l, sk', wt')) : p < q ∧ q ≤ n ∧ p + l.length ≤ q ∧ sk' ≤ 99 ∧ wt' ≤ 99 ∧ ∀ rest, ev_w (l ++ rest) 0 = ev_w rest 0 := by
  unfold clauS at h
  split at h
  · split at h
    · simp at h
    · rename_i q1 v hv
      obtain ⟨a1, a2, a3⟩ := wn_ok (by decide) hv
      simp only [Sum.inr.injEq, Prod.mk.injEq] at h
      obtain ⟨rfl, rfl, rfl, rfl⟩ := h
      exact ⟨a1, a2, by simp only [List.length_nil]; omega, a3, h2, fun _ => rfl⟩
  · split at h
    · split at h
      · simp at h
      · rename_i q1 v hv
        obtain ⟨a1, a2, a3⟩ := wn_ok (by decide) hv
        simp only [Sum.inr.injEq, Prod.mk.injEq] at h
        obtain ⟨rfl, rfl, rfl, rfl⟩ := h
        exact ⟨a1, a2, by simp only [List.length_nil]; omega, h1, a3, fun _ => rfl⟩
    · split at h
      · split at h
        · simp at h
        · rename_i q1 v hv
          obtain ⟨a1, a2, a3, a4⟩ := rain_ok (by decide) (Or.inl rfl) hv
          simp only [Sum.inr.injEq, Prod.mk.injEq] at h
          obtain ⟨rfl, rfl, rfl, rfl⟩ := h
          exact ⟨a1, a2, a3, h1, h2, a4⟩
      · split at h
        · split at h
          · simp at h
          · rename_i q1 v hv
            obtain ⟨a1, a2, a3, a4⟩ := rain_ok (by decide) (Or.inr rfl) hv
            simp only [Sum.inr.injEq, Prod.mk.injEq] at h
            obtain ⟨rfl, rfl, rfl, rfl⟩ := h
            exact ⟨a1, a2, a3, h1, h2, a4⟩
        · simp at h
theorem cls_ok : ∀ (m p : Nat) (cs : List Nat) (sk wt : Nat) (l : List Nat) (sk' wt' : Nat), p ≤ n → cs.length ≤ p → sk ≤ 99 → wt ≤ 99 → (∀ rest, ev_w (cs ++ rest) 0 = ev_w rest 0) → clsS n T m p cs sk wt = .inr (l, sk', wt') → l.length ≤ n ∧ sk' ≤ 99 ∧ wt' ≤ 99 ∧ ev_w l 0 = true
  | 0, p, cs, sk, wt, l, sk', wt', hp, hl, h1, h2, hw, h => by
    rw [clsS] at h
    split at h
    · simp only [Sum.inr.injEq, Prod.mk.injEq] at h
      obtain ⟨rfl, rfl, rfl⟩ := h
      refine ⟨by omega, h1, h2, ?_⟩
      have := hw []
      rw [List.append_nil] at this
      rw [this]
      rfl
    · simp at h
  | m + 1, p, cs, sk, wt, l, sk', wt', hp, hl, h1, h2, hw, h => by
    rw [clsS] at h
    split at h
    · simp only [Sum.inr.injEq, Prod.mk.injEq] at h
      obtain ⟨rfl, rfl, rfl⟩ := h
      refine ⟨by omega, h1, h2, ?_⟩
      have := hw []
      rw [List.append_nil] at this
      rw [this]
      rfl
    · split at h
      · split at h
        · simp at h
        · rename_i q cs' sk2 wt2 hc
          obtain ⟨a1, a2, a3, a4, a5, a6⟩ := clau_ok h1 h2 hc
          exact cls_ok m q (cs ++ cs') sk2 wt2 l sk' wt' a2 (by rw [List.length_append]; omega) a4 a5 (fun rest => by rw [List.append_assoc, hw, a6]) h
      · simp at h
theorem park_ok {l : List Nat} {sk wt : Nat} (h : parkS n T = .inr (l, sk, wt)) : l.length ≤ n ∧ sk ≤ 99 ∧ wt ≤ 99 ∧ ev_w l 0 = true := by
  unfold parkS at h
  split at h
  · simp at h
  · rename_i q cs sk2 wt2 hc
    obtain ⟨a1, a2, a3, a4, a5, a6⟩ := clau_ok (by decide) (by decide) hc
    exact cls_ok 9 q cs sk2 wt2 l sk wt a2 (by omega) a4 a5 a6 h
end SM8
