/-! ===== a park's text: what it says ===== -/
--need 66.texts
abbrev pT : Type := Nat ⊕ (Nat × List Nat)
def pb (r : pT) (f : Nat → pT) : pT := match r with
  | .inl e => .inl e
  | .inr (q, cs) => match f q with
    | .inl e => .inl e
    | .inr (q', cs') => .inr (q', cs ++ cs')
def em (c q : Nat) : pT := .inr (q, [c])
def isD (x : Int32) : Bool := decide (nI 48 ≤ x ∧ x ≤ nI 57)
def dv (x : Int32) : Nat := x.toNatClampNeg - 48
section SP
variable (n : Nat) (T : Nat → Int32)
def sg (p : Nat) : Int32 := if p < n then T p else -1
def numS (p : Nat) : Nat ⊕ (Nat × Nat) := if isD (sg n T p) = true then (if dv (sg n T p) ≠ 0 ∧ isD (sg n T (p + 1)) = true then .inr (p + 2, dv (sg n T p) * 10 + dv (sg n T (p + 1))) else .inr (p + 1, dv (sg n T p))) else .inl p
def wordL (k : Nat) : Nat → Nat → Nat → Nat ⊕ Nat
  | 0, _, p => .inr p
  | m + 1, i, p => if sg n T p = nI (ch k i) then wordL k m (i + 1) (p + 1) else .inl p
def testS (p : Nat) : pT := if idxV 4 (sg n T p) 5 0 = -1 then .inl p else if idxV 5 (sg n T (p + 1)) 3 0 = -1 then .inl (p + 1) else match numS n T (p + 2) with
  | .inl e => .inl e
  | .inr (q, v) => .inr (q, [((idxV 4 (sg n T p) 5 0).toNatClampNeg * 3 + (idxV 5 (sg n T (p + 1)) 3 0).toNatClampNeg) * 100 + v])
def ow (w : Bool) (p : Nat) : pT := if w = true then em 1700 p else .inr (p, [])
def loopS (P : Nat → pT) : Nat → Nat → Bool → pT
  | 0, p, w => ow w p
  | k + 1, p, w => if sg n T p = nI 38 then pb (P (p + 1)) (fun q => pb (em 1600 q) (fun q => loopS P k q w)) else if sg n T p = nI 124 then pb (ow w p) (fun p => pb (P (p + 1)) (fun q => loopS P k q true)) else ow w p
def choS (P : Nat → pT) (p : Nat) : pT := pb (P p) (fun q => loopS n T P 100 q false)
def cloS (q : Nat) : pT := if sg n T q = nI 41 then .inr (q + 1, []) else .inl q
def parS : Nat → Nat → pT
  | 0, p => if sg n T p = nI 33 ∨ sg n T p = nI 40 then .inl p else testS n T p
  | d + 1, p => if sg n T p = nI 33 then pb (parS d (p + 1)) (em 1500) else if sg n T p = nI 40 then pb (choS n T (parS d) (p + 1)) (cloS n T) else testS n T p
/-- the model's: each & first -/
def andS (P : Nat → pT) : Nat → Nat → pT
  | 0, p => .inr (p, [])
  | k + 1, p => if sg n T p = nI 38 then pb (P (p + 1)) (fun q => pb (em 1600 q) (andS P k)) else .inr (p, [])
def evS (P : Nat → pT) (p : Nat) : pT := pb (P p) (andS n T P 101)
def orS (P : Nat → pT) : Nat → Nat → pT
  | 0, p => .inr (p, [])
  | k + 1, p => if sg n T p = nI 124 then pb (evS n T P (p + 1)) (fun q => pb (em 1700 q) (orS P k)) else .inr (p, [])
def somS (P : Nat → pT) (p : Nat) : pT := pb (evS n T P p) (orS n T P 101)
def wnS (k p : Nat) : Nat ⊕ (Nat × Nat) := match wordL n T k 5 0 p with
  | .inl e => .inl e
  | .inr q => numS n T q
def rainS (k a p : Nat) : pT := match wnS n T k p with
  | .inl e => .inl e
  | .inr (q, v) => if sg n T q = nI 32 then pb (choS n T (parS n T 5) (q + 1)) (em (a * 100 + v)) else .inl q
/-- a clause: where it ends, its steps, what soaks, what waiting costs -/
def clauS (p sk wt : Nat) : Nat ⊕ (Nat × List Nat × Nat × Nat) :=
  if sg n T p = nI 115 then (match wnS n T 0 p with
    | .inl e => .inl e
    | .inr (q, v) => .inr (q, [], v, wt))
  else if sg n T p = nI 119 then (match wnS n T 1 p with
    | .inl e => .inl e
    | .inr (q, v) => .inr (q, [], sk, v))
  else if sg n T p = nI 114 then (match rainS n T 2 18 p with
    | .inl e => .inl e
    | .inr (q, cs) => .inr (q, cs, sk, wt))
  else if sg n T p = nI 108 then (match rainS n T 3 19 p with
    | .inl e => .inl e
    | .inr (q, cs) => .inr (q, cs, sk, wt))
  else .inl p
def clsS : Nat → Nat → List Nat → Nat → Nat → Nat ⊕ (List Nat × Nat × Nat)
  | 0, p, cs, sk, wt => if n ≤ p then .inr (cs, sk, wt) else .inl p
  | m + 1, p, cs, sk, wt => if n ≤ p then .inr (cs, sk, wt) else if sg n T p = nI 59 then (match clauS n T (p + 1) sk wt with
    | .inl e => .inl e
    | .inr (q, cs', sk', wt') => clsS m q (cs ++ cs') sk' wt') else .inl p
def parkS : Nat ⊕ (List Nat × Nat × Nat) := match clauS n T 0 99 1 with
  | .inl e => .inl e
  | .inr (q, cs, sk, wt) => clsS n T 9 q cs sk wt
end SP
theorem pb_l {e : Nat} {f : Nat → pT} : pb (.inl e) f = .inl e := rfl
theorem pb_0 {q : Nat} {f : Nat → pT} : pb (.inr (q, [])) f = f q := by
  unfold pb
  simp only
  split <;> simp_all
theorem pb_assoc {r : pT} {f g : Nat → pT} : pb (pb r f) g = pb r (fun q => pb (f q) g) := by
  cases r with
  | inl e => rfl
  | inr x =>
    obtain ⟨q, cs⟩ := x
    simp only [pb]
    cases hf : f q with
    | inl e => simp
    | inr y =>
      obtain ⟨q', cs'⟩ := y
      simp only
      cases hg : g q' with
      | inl e => simp
      | inr z =>
        obtain ⟨q'', cs''⟩ := z
        simp
theorem pb_congr {r : pT} {f g : Nat → pT} (h : ∀ q cs, r = .inr (q, cs) → f q = g q) : pb r f = pb r g := by
  cases r with
  | inl e => rfl
  | inr x =>
    obtain ⟨q, cs⟩ := x
    simp only [pb]
    rw [h q cs rfl]
theorem pb_r {r : pT} {f : Nat → pT} {q : Nat} {cs : List Nat} (h : pb r f = .inr (q, cs)) : ∃ q1 c1 c2, r = .inr (q1, c1) ∧ f q1 = .inr (q, c2) ∧ cs = c1 ++ c2 := by
  cases r with
  | inl e => simp [pb] at h
  | inr x =>
    obtain ⟨q1, c1⟩ := x
    simp only [pb] at h
    cases hf : f q1 with
    | inl e => rw [hf] at h; simp at h
    | inr y =>
      obtain ⟨q2, c2⟩ := y
      rw [hf] at h
      simp only [Sum.inr.injEq, Prod.mk.injEq] at h
      exact ⟨q1, c1, c2, rfl, by rw [hf, h.1], h.2.symm⟩
section SQ
variable {n : Nat} {T : Nat → Int32}
theorem sg_lt {p b : Nat} (hb : b < 2147483648) (h : sg n T p = nI b) : p < n := by
  unfold sg at h
  by_cases hp : p < n
  · exact hp
  · rw [if_neg hp] at h
    have : (nI b = (-1 : Int32)) = False := zm_eq hb
    rw [← h] at this
    simp at this
theorem isD_lt {p : Nat} (h : isD (sg n T p) = true) : p < n ∧ ∃ b, 48 ≤ b ∧ b ≤ 57 ∧ sg n T p = nI b ∧ dv (sg n T p) = b - 48 := by
  unfold isD at h
  simp only [decide_eq_true_eq] at h
  obtain ⟨b, b1, b2, e⟩ := in_nat h (by decide) (by decide)
  refine ⟨sg_lt (by omega) e, b, b1, b2, e, ?_⟩
  unfold dv
  rw [e, nI_clamp (show b < 2 ^ 31 by omega)]
theorem num_ok {p q v : Nat} (h : numS n T p = .inr (q, v)) : p < q ∧ q ≤ n ∧ v ≤ 99 := by
  unfold numS at h
  split at h
  · rename_i h1
    obtain ⟨l1, b, b1, b2, e, e2⟩ := isD_lt h1
    split at h
    · rename_i h2
      obtain ⟨l2, c, c1, c2, e3, e4⟩ := isD_lt h2.2
      simp only [Sum.inr.injEq, Prod.mk.injEq] at h
      omega
    · simp only [Sum.inr.injEq, Prod.mk.injEq] at h
      omega
  · simp at h
theorem word_ok {k : Nat} (hk : k < 6) : ∀ (m i p q : Nat), i + m ≤ tl k → wordL n T k m i p = .inr q → q = p + m
  | 0, i, p, q, _, h => by simp only [wordL, Sum.inr.injEq] at h; omega
  | m + 1, i, p, q, hm, h => by
    rw [wordL] at h
    split at h
    · have := word_ok hk m (i + 1) (p + 1) q (by omega) h
      omega
    · simp at h
/-- a piece: it goes on, and each step comes from a byte of its own -/
def adv (P : Nat → pT) : Prop := ∀ p q l, P p = .inr (q, l) → p < q ∧ q ≤ n ∧ p + l.length ≤ q
theorem test_adv : adv (n := n) (testS n T) := by
  intro p q l h
  unfold testS at h
  split at h
  · simp at h
  · split at h
    · simp at h
    · split at h
      · simp at h
      · rename_i v hv
        obtain ⟨a, b, c⟩ := num_ok hv
        simp only [Sum.inr.injEq, Prod.mk.injEq] at h
        obtain ⟨rfl, rfl⟩ := h
        simp only [List.length_cons, List.length_nil]
        omega
theorem loop_adv {P : Nat → pT} (hP : adv (n := n) P) : ∀ (k p : Nat) (w : Bool) (q : Nat) (l : List Nat), p ≤ n → loopS n T P k p w = .inr (q, l) → p ≤ q ∧ q ≤ n ∧ p + l.length ≤ q + (if w = true then 1 else 0)
  | 0, p, w, q, l, hp, h => by
    cases w <;> simp [loopS, ow, em] at h <;> (obtain ⟨rfl, rfl⟩ := h; simp [hp])
  | k + 1, p, w, q, l, hp, h => by
    rw [loopS] at h
    split at h
    · obtain ⟨q1, c1, c2, h1, h2, rfl⟩ := pb_r h
      obtain ⟨q2, c3, c4, h3, h4, rfl⟩ := pb_r h2
      simp only [em, Sum.inr.injEq, Prod.mk.injEq] at h3
      obtain ⟨rfl, rfl⟩ := h3
      obtain ⟨a1, a2, a3⟩ := hP _ _ _ h1
      have := loop_adv hP k _ w q c4 a2 h4
      simp only [List.length_append, List.length_cons, List.length_nil]
      omega
    · split at h
      · obtain ⟨q1, c1, c2, h1, h2, rfl⟩ := pb_r h
        obtain ⟨q2, c3, c4, h3, h4, rfl⟩ := pb_r h2
        have hq1 : q1 = p ∧ c1.length ≤ (if w = true then 1 else 0) := by
          cases w <;> simp [ow, em] at h1 <;> (obtain ⟨rfl, rfl⟩ := h1; simp)
        obtain ⟨a1, a2, a3⟩ := hP _ _ _ h3
        have := loop_adv hP k _ true q c4 a2 h4
        simp only [if_true] at this
        simp only [List.length_append]
        omega
      · cases w <;> simp [ow, em] at h <;> (obtain ⟨rfl, rfl⟩ := h; simp [hp])
theorem cho_adv {P : Nat → pT} (hP : adv (n := n) P) : adv (n := n) (choS n T P) := by
  intro p q l h
  obtain ⟨q1, c1, c2, h1, h2, rfl⟩ := pb_r h
  obtain ⟨a1, a2, a3⟩ := hP _ _ _ h1
  have := loop_adv hP 100 q1 false q c2 a2 h2
  simp only [Bool.false_eq_true, if_false] at this
  rw [List.length_append]
  omega
theorem par_adv : ∀ d, adv (n := n) (parS n T d)
  | 0 => by
    intro p q l h
    rw [parS] at h
    split at h
    · simp at h
    · exact test_adv p q l h
  | d + 1 => by
    intro p q l h
    rw [parS] at h
    split at h
    · obtain ⟨q1, c1, c2, h1, h2, rfl⟩ := pb_r h
      obtain ⟨a1, a2, a3⟩ := par_adv d _ _ _ h1
      simp only [em, Sum.inr.injEq, Prod.mk.injEq] at h2
      obtain ⟨rfl, rfl⟩ := h2
      simp only [List.length_append, List.length_cons, List.length_nil]
      omega
    · split at h
      · obtain ⟨q1, c1, c2, h1, h2, rfl⟩ := pb_r h
        obtain ⟨a1, a2, a3⟩ := cho_adv (par_adv d) _ _ _ h1
        unfold cloS at h2
        split at h2
        · rename_i h5
          have := sg_lt (by decide) h5
          simp only [Sum.inr.injEq, Prod.mk.injEq] at h2
          obtain ⟨rfl, rfl⟩ := h2
          simp only [List.append_nil]
          omega
        · simp at h2
      · exact test_adv p q l h
/-- a piece keeps its stack: one bit more lies on it -/
def stk (b : Nat) (P : Nat → pT) : Prop := ∀ p q l, P p = .inr (q, l) → ∀ k rest, k + b ≤ 60 → ev_w (l ++ rest) k = ev_w rest (k + 1)
theorem ev_w15 {k : Nat} {rest : List Nat} (h : 1 ≤ k) : ev_w (1500 :: rest) k = ev_w rest k := by
  simp [ev_w, h]
theorem ev_w16 {k : Nat} {rest : List Nat} (h : 1 ≤ k) : ev_w (1600 :: rest) (k + 1) = ev_w rest k := by
  simp [ev_w]
  omega
theorem ev_w17 {k : Nat} {rest : List Nat} (h : 1 ≤ k) : ev_w (1700 :: rest) (k + 1) = ev_w rest k := by
  simp [ev_w]
  omega
theorem idx_nat {k m i : Nat} {x : Int32} (hm : i + m < 100) (h : ¬ idxV k x m i = -1) : ∃ j, i ≤ j ∧ j < i + m ∧ idxV k x m i = nI j ∧ (idxV k x m i).toNatClampNeg = j := by
  rcases idx_or (k := k) (x := x) m i with h1 | ⟨j, h1, h2, h3, _⟩
  · exact absurd h1 h
  · exact ⟨j, h1, h2, h3, by rw [h3]; exact nI_clamp (show j < 2 ^ 31 by omega)⟩
theorem test_stk : stk 1 (testS n T) := by
  intro p q l h k rest hk
  unfold testS at h
  split at h
  · simp at h
  · rename_i h1
    split at h
    · simp at h
    · rename_i h2
      split at h
      · simp at h
      · rename_i v hv
        obtain ⟨a, b, c⟩ := num_ok hv
        obtain ⟨j1, _, l1, _, e1⟩ := idx_nat (by decide) h1
        obtain ⟨j2, _, l2, _, e2⟩ := idx_nat (by decide) h2
        rw [e1, e2] at h
        simp only [Sum.inr.injEq, Prod.mk.injEq] at h
        obtain ⟨rfl, rfl⟩ := h
        have hd : ((j1 * 3 + j2) * 100 + v) / 100 = j1 * 3 + j2 := by omega
        simp only [List.cons_append, List.nil_append, ev_w, hd]
        rw [if_neg (by omega), if_neg (by omega), if_neg (by omega), if_neg (by omega), if_neg (by omega)]
        have d1 : decide ((j1 * 3 + j2) * 100 + v < 2000) = true := decide_eq_true (by omega)
        have d2 : decide (k < 60) = true := decide_eq_true (by omega)
        rw [d1, d2, Bool.true_and, Bool.true_and]
theorem loop_stk {P : Nat → pT} {b : Nat} (hP : stk b P) : ∀ (m p : Nat) (w : Bool) (q : Nat) (l : List Nat), loopS n T P m p w = .inr (q, l) → ∀ k rest, k + (b + 2) ≤ 60 → ev_w (l ++ rest) (k + 1 + (if w = true then 1 else 0)) = ev_w rest (k + 1)
  | 0, p, w, q, l, h, k, rest, hk => by
    cases w
    · simp [loopS, ow] at h
      obtain ⟨rfl, rfl⟩ := h
      simp
    · simp [loopS, ow, em] at h
      obtain ⟨rfl, rfl⟩ := h
      exact ev_w17 (by omega)
  | m + 1, p, w, q, l, h, k, rest, hk => by
    rw [loopS] at h
    split at h
    · obtain ⟨q1, c1, c2, h1, h2, rfl⟩ := pb_r h
      obtain ⟨q2, c3, c4, h3, h4, rfl⟩ := pb_r h2
      simp only [em, Sum.inr.injEq, Prod.mk.injEq] at h3
      obtain ⟨rfl, rfl⟩ := h3
      rw [List.append_assoc, hP _ _ _ h1 _ _ (by split <;> omega), List.append_assoc, List.cons_append, List.nil_append, ev_w16 (by omega)]
      exact loop_stk hP m _ w q c4 h4 k rest hk
    · split at h
      · obtain ⟨q1, c1, c2, h1, h2, rfl⟩ := pb_r h
        obtain ⟨q2, c3, c4, h3, h4, rfl⟩ := pb_r h2
        have e1 : ∀ r, ev_w (c1 ++ r) (k + 1 + (if w = true then 1 else 0)) = ev_w r (k + 1) := by
          intro r
          cases w
          · simp [ow] at h1
            obtain ⟨rfl, rfl⟩ := h1
            simp
          · simp [ow, em] at h1
            obtain ⟨rfl, rfl⟩ := h1
            exact ev_w17 (by omega)
        rw [List.append_assoc, e1, List.append_assoc, hP _ _ _ h3 _ _ (by omega)]
        have := loop_stk hP m _ true q c4 h4 k rest hk
        simp only [if_true] at this
        exact this
      · cases w
        · simp [ow] at h
          obtain ⟨rfl, rfl⟩ := h
          simp
        · simp [ow, em] at h
          obtain ⟨rfl, rfl⟩ := h
          exact ev_w17 (by omega)
theorem cho_stk {P : Nat → pT} {b : Nat} (hP : stk b P) : stk (b + 2) (choS n T P) := by
  intro p q l h k rest hk
  obtain ⟨q1, c1, c2, h1, h2, rfl⟩ := pb_r h
  rw [List.append_assoc, hP _ _ _ h1 _ _ (by omega)]
  have := loop_stk hP 100 q1 false q c2 h2 k rest hk
  simpa using this
theorem par_stk : ∀ d, stk (2 * d + 1) (parS n T d)
  | 0 => by
    intro p q l h
    rw [parS] at h
    split at h
    · simp at h
    · exact test_stk p q l h
  | d + 1 => by
    intro p q l h k rest hk
    rw [parS] at h
    split at h
    · obtain ⟨q1, c1, c2, h1, h2, rfl⟩ := pb_r h
      simp only [em, Sum.inr.injEq, Prod.mk.injEq] at h2
      obtain ⟨rfl, rfl⟩ := h2
      rw [List.append_assoc, par_stk d _ _ _ h1 _ _ (by omega), List.cons_append, List.nil_append, ev_w15 (by omega)]
    · split at h
      · obtain ⟨q1, c1, c2, h1, h2, rfl⟩ := pb_r h
        unfold cloS at h2
        split at h2
        · simp only [Sum.inr.injEq, Prod.mk.injEq] at h2
          obtain ⟨rfl, rfl⟩ := h2
          rw [List.append_nil]
          exact cho_stk (par_stk d) _ _ _ h1 k rest (by omega)
        · simp at h2
      · exact test_stk p q l h k rest (by omega)
end SQ
