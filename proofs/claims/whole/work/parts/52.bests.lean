/-! ===== the best of ways: what is looked for ===== -/
--need 51.way
/-- measure, minutes, how many trees; first, its waiting, second, its waiting -/
abbrev ctT : Type := Nat × Nat × Nat × Int32 × Int32 × Int32 × Int32
abbrev lt2 (y x : ctT) : Prop := y.1 < x.1 ∨ (y.1 = x.1 ∧ y.2.1 < x.2.1)
abbrev ltC (y x : ctT) : Prop := y.1 < x.1 ∨ (y.1 = x.1 ∧ (y.2.1 < x.2.1 ∨ (y.2.1 = x.2.1 ∧ y.2.2.1 < x.2.2.1)))
def pickM (x y : ctT) : ctT := if lt2 y x then y else x
def pickC (x y : ctT) : ctT := if ltC y x then y else x
def pickO (o : Option ctT) (y : ctT) : Option ctT := match o with
  | none => some y
  | some x => some (pickM x y)
def joinO (x : ctT) (o : Option ctT) : ctT := match o with
  | none => x
  | some y => pickM x y
/-- one of the first kind, those of two trees: what both hold -/
def okJ (x : ctT) (o : Option ctT) : Prop := x.2.2.1 ≤ 1 ∧ ∀ y, o = some y → y.2.2.1 = 2
theorem pick_1 {x y : ctT} {o : Option ctT} (h : okJ x o) (hy : y.2.2.1 = 1) : pickC (joinO x o) y = joinO (pickM x y) o ∧ okJ (pickM x y) o := by
  obtain ⟨h1, h2⟩ := h
  have hp : (pickM x y).2.2.1 ≤ 1 := by unfold pickM; split <;> omega
  refine ⟨?_, hp, h2⟩
  cases o with
  | none =>
    simp only [joinO]
    unfold pickC pickM
    by_cases q : lt2 y x
    · rw [if_pos q, if_pos (by unfold lt2 at q; omega)]
    · rw [if_neg q, if_neg (by omega)]
  | some b =>
    have hb := h2 b rfl
    simp only [joinO]
    unfold pickC pickM
    by_cases q : lt2 b x
    · rw [if_pos q]
      by_cases q2 : lt2 y x
      · rw [if_pos q2]
        by_cases q3 : lt2 b y
        · rw [if_pos q3, if_neg (by omega)]
        · rw [if_neg q3, if_pos (by omega)]
      · rw [if_neg q2, if_pos q, if_neg (by omega)]
    · rw [if_neg q]
      by_cases q2 : lt2 y x
      · rw [if_pos q2, if_pos (by omega), if_neg (by omega)]
      · rw [if_neg q2, if_neg (by omega), if_neg q]
theorem pick_2 {x y : ctT} {o : Option ctT} (h : okJ x o) (hy : y.2.2.1 = 2) : pickC (joinO x o) y = joinO x (pickO o y) ∧ okJ x (pickO o y) := by
  obtain ⟨h1, h2⟩ := h
  cases o with
  | none =>
    refine ⟨?_, h1, fun z hz => by cases hz; exact hy⟩
    simp only [joinO, pickO]
    unfold pickC pickM
    by_cases q : lt2 y x
    · rw [if_pos q, if_pos (by omega)]
    · rw [if_neg q, if_neg (by omega)]
  | some b =>
    have hb := h2 b rfl
    refine ⟨?_, h1, fun z hz => by cases hz; unfold pickM; split <;> assumption⟩
    simp only [joinO, pickO]
    unfold pickC pickM
    by_cases q : lt2 b x
    · rw [if_pos q]
      by_cases q2 : lt2 y b
      · rw [if_pos q2, if_pos (by omega), if_pos (by omega)]
      · rw [if_neg q2, if_neg (by omega), if_pos q]
    · rw [if_neg q]
      by_cases q2 : lt2 y b
      · rw [if_pos q2]
        by_cases q3 : lt2 y x
        · rw [if_pos q3, if_pos (by omega)]
        · rw [if_neg q3, if_neg (by omega)]
      · rw [if_neg q2, if_neg q, if_neg (by omega)]
theorem pick_m {x y : ctT} {o : Option ctT} : pickM (joinO x o) y = joinO x (pickO o y) := by
  cases o with
  | none => rfl
  | some b =>
    simp only [joinO, pickO]
    unfold pickM
    by_cases q : lt2 b x
    · rw [if_pos q]
      by_cases q2 : lt2 y b
      · rw [if_pos q2, if_pos (by omega)]
      · rw [if_neg q2, if_pos q]
    · rw [if_neg q]
      by_cases q2 : lt2 y b
      · rw [if_pos q2]
      · rw [if_neg q2, if_neg q, if_neg (by omega)]
def hoN (S : Nat → Int32) (N : Nat → Nat) (cs : List Nat) (what i : Nat) (s : wyT) : Nat := (homT S N cs what i s).toNatClampNeg
def hoM (S : Nat → Int32) (N : Nat → Nat) (cs : List Nat) (i : Nat) (s : wyT) : Nat := (wgo S cs (nS S (59 + i)) (N 9) s).2.1 - N 8
def cd (S : Nat → Int32) (N : Nat → Nat) (cs : List Nat) (what i sh : Nat) (a m b n : Int32) (s : wyT) : ctT := (hoN S N cs what i s, hoM S N cs i s, sh, a, m, b, n)
section GG
variable (S : Nat → Int32) (N : Nat → Nat) (cs : List Nat) (what i : Nat) (lo : Int32)
/-- under the second tree b -/
def secG {β : Type} (P : β → ctT → β) (a m b : Nat) : Nat → Nat → wyT → β → β
  | 0, _, _, r => r
  | k + 1, n, s, r => secG P a m b k (n + 1) (wwt S cs b 1 s) (P r (cd S N cs what i 2 (nI a) (nI m) (nI b) (nI n) s))
/-- the second trees from b on -/
def lbG {β : Type} (P : β → ctT → β) (a m : Nat) (s : wyT) : Nat → Nat → β → β
  | 0, _, r => r
  | k + 1, b, r => lbG P a m s k (b + 1) (if nI b = lo ∨ b = a then r else secG S N cs what i P a m b 10 0 (wgo S cs (nS S (59 + i)) (nS S (29 + b)) s) r)
/-- the program: under the first tree a -/
def mlC (a : Nat) : Nat → Nat → wyT → ctT → ctT
  | 0, _, _, r => r
  | k + 1, m, s, r => mlC a k (m + 1) (wwt S cs a 1 s) (lbG S N cs what i lo pickC a m s (N 0) 0 (pickC r (cd S N cs what i 1 (nI a) (nI m) (-5) (-5) s)))
def alC : Nat → Nat → ctT → ctT
  | 0, _, r => r
  | k + 1, a, r => alC k (a + 1) (if nI a = lo then r else mlC S N cs what i lo a 10 0 (wgo S cs (nS S (59 + i)) (nS S (29 + a)) (0, N 8, nI 0)) r)
/-- the model: one tree, then two -/
def m1G (a : Nat) : Nat → Nat → wyT → ctT → ctT
  | 0, _, _, r => r
  | k + 1, m, s, r => m1G a k (m + 1) (wwt S cs a 1 s) (pickM r (cd S N cs what i 1 (nI a) (nI m) (-5) (-5) s))
def a1G : Nat → Nat → ctT → ctT
  | 0, _, r => r
  | k + 1, a, r => a1G k (a + 1) (if nI a = lo then r else m1G S N cs what i a 10 0 (wgo S cs (nS S (59 + i)) (nS S (29 + a)) (0, N 8, nI 0)) r)
def m2G {β : Type} (P : β → ctT → β) (a : Nat) : Nat → Nat → wyT → β → β
  | 0, _, _, r => r
  | k + 1, m, s, r => m2G P a k (m + 1) (wwt S cs a 1 s) (lbG S N cs what i lo P a m s (N 0) 0 r)
def a2G {β : Type} (P : β → ctT → β) : Nat → Nat → β → β
  | 0, _, r => r
  | k + 1, a, r => a2G P k (a + 1) (if nI a = lo then r else m2G S N cs what i lo P a 10 0 (wgo S cs (nS S (59 + i)) (nS S (29 + a)) (0, N 8, nI 0)) r)
end GG
section GH
variable {S : Nat → Int32} {N : Nat → Nat} {cs : List Nat} {what i : Nat} {lo : Int32}
theorem sec_c {x : ctT} {a m b : Nat} : ∀ (k n : Nat) (s : wyT) (o : Option ctT), okJ x o → secG S N cs what i pickC a m b k n s (joinO x o) = joinO x (secG S N cs what i pickO a m b k n s o) ∧ okJ x (secG S N cs what i pickO a m b k n s o)
  | 0, n, s, o, h => ⟨rfl, h⟩
  | k + 1, n, s, o, h => by
    simp only [secG]
    obtain ⟨e, h'⟩ := pick_2 (y := cd S N cs what i 2 (nI a) (nI m) (nI b) (nI n) s) h rfl
    rw [e]
    exact sec_c k (n + 1) _ _ h'
theorem lb_c {x : ctT} {a m : Nat} {s : wyT} : ∀ (k b : Nat) (o : Option ctT), okJ x o → lbG S N cs what i lo pickC a m s k b (joinO x o) = joinO x (lbG S N cs what i lo pickO a m s k b o) ∧ okJ x (lbG S N cs what i lo pickO a m s k b o)
  | 0, b, o, h => ⟨rfl, h⟩
  | k + 1, b, o, h => by
    simp only [lbG]
    by_cases q : nI b = lo ∨ b = a
    · rw [if_pos q, if_pos q]
      exact lb_c k (b + 1) o h
    · rw [if_neg q, if_neg q]
      obtain ⟨e, h'⟩ := sec_c (S := S) (N := N) (cs := cs) (what := what) (i := i) (a := a) (m := m) (b := b) 10 0 (wgo S cs (nS S (59 + i)) (nS S (29 + b)) s) o h
      rw [e]
      exact lb_c k (b + 1) _ h'
theorem ml_c {a : Nat} : ∀ (k m : Nat) (s : wyT) (x : ctT) (o : Option ctT), okJ x o → mlC S N cs what i lo a k m s (joinO x o) = joinO (m1G S N cs what i a k m s x) (m2G S N cs what i lo pickO a k m s o) ∧ okJ (m1G S N cs what i a k m s x) (m2G S N cs what i lo pickO a k m s o)
  | 0, m, s, x, o, h => ⟨rfl, h⟩
  | k + 1, m, s, x, o, h => by
    simp only [mlC, m1G, m2G]
    obtain ⟨e, h1⟩ := pick_1 (y := cd S N cs what i 1 (nI a) (nI m) (-5) (-5) s) h rfl
    rw [e]
    obtain ⟨e2, h2⟩ := lb_c (S := S) (N := N) (cs := cs) (what := what) (i := i) (lo := lo) (a := a) (m := m) (s := s) (N 0) 0 o h1
    rw [e2]
    exact ml_c k (m + 1) _ _ _ h2
theorem al_c : ∀ (k a : Nat) (x : ctT) (o : Option ctT), okJ x o → alC S N cs what i lo k a (joinO x o) = joinO (a1G S N cs what i lo k a x) (a2G S N cs what i lo pickO k a o) ∧ okJ (a1G S N cs what i lo k a x) (a2G S N cs what i lo pickO k a o)
  | 0, a, x, o, h => ⟨rfl, h⟩
  | k + 1, a, x, o, h => by
    simp only [alC, a1G, a2G]
    by_cases q : nI a = lo
    · simp only [if_pos q]
      exact al_c k (a + 1) x o h
    · simp only [if_neg q]
      obtain ⟨e, h'⟩ := ml_c (S := S) (N := N) (cs := cs) (what := what) (i := i) (lo := lo) (a := a) 10 0 (wgo S cs (nS S (59 + i)) (nS S (29 + a)) (0, N 8, nI 0)) x o h
      rw [e]
      exact al_c k (a + 1) _ _ h'
theorem sec_m {x : ctT} {a m b : Nat} : ∀ (k n : Nat) (s : wyT) (o : Option ctT), secG S N cs what i pickM a m b k n s (joinO x o) = joinO x (secG S N cs what i pickO a m b k n s o)
  | 0, n, s, o => rfl
  | k + 1, n, s, o => by
    simp only [secG]
    rw [pick_m]
    exact sec_m k (n + 1) _ _
theorem lb_m {x : ctT} {a m : Nat} {s : wyT} : ∀ (k b : Nat) (o : Option ctT), lbG S N cs what i lo pickM a m s k b (joinO x o) = joinO x (lbG S N cs what i lo pickO a m s k b o)
  | 0, b, o => rfl
  | k + 1, b, o => by
    simp only [lbG]
    by_cases q : nI b = lo ∨ b = a
    · rw [if_pos q, if_pos q]
      exact lb_m k (b + 1) o
    · rw [if_neg q, if_neg q, sec_m]
      exact lb_m k (b + 1) _
theorem m2_m {x : ctT} {a : Nat} : ∀ (k m : Nat) (s : wyT) (o : Option ctT), m2G S N cs what i lo pickM a k m s (joinO x o) = joinO x (m2G S N cs what i lo pickO a k m s o)
  | 0, m, s, o => rfl
  | k + 1, m, s, o => by
    simp only [m2G]
    rw [lb_m]
    exact m2_m k (m + 1) _ _
theorem a2_m {x : ctT} : ∀ (k a : Nat) (o : Option ctT), a2G S N cs what i lo pickM k a (joinO x o) = joinO x (a2G S N cs what i lo pickO k a o)
  | 0, a, o => rfl
  | k + 1, a, o => by
    simp only [a2G]
    by_cases q : nI a = lo
    · simp only [if_pos q]
      exact a2_m k (a + 1) o
    · simp only [if_neg q]
      rw [m2_m]
      exact a2_m k (a + 1) _
/-- both find the same way -/
theorem best_eq {x : ctT} (hx : x.2.2.1 = 0) (k : Nat) : alC S N cs what i lo k 0 x = a2G S N cs what i lo pickM k 0 (a1G S N cs what i lo k 0 x) := by
  have h : okJ x none := ⟨by omega, fun y hy => by cases hy⟩
  have h1 := (al_c (S := S) (N := N) (cs := cs) (what := what) (i := i) (lo := lo) k 0 x none h).1
  have h2 := a2_m (S := S) (N := N) (cs := cs) (what := what) (i := i) (lo := lo) (x := a1G S N cs what i lo k 0 x) k 0 none
  exact h1.trans h2.symm
end GH
