/-! ===== numbers ===== -/
--need 16.fm
theorem zcv {X : ix_X} {d c j' y : Nat} {tg : List (Nat × Nat × Nat)} {as : List Value} {h : ix_H} : ix_cv X d (some c) ((c, j', y) :: tg) as h = ix_call X d j' as h := by simp [ix_cv]
theorem zcv_ne {X : ix_X} {d c c' j' y : Nat} {tg : List (Nat × Nat × Nat)} {as : List Value} {h : ix_H} (hne : c' ≠ c) : ix_cv X d (some c) ((c', j', y) :: tg) as h = ix_cv X d (some c) tg as h := by simp [ix_cv, hne]
theorem zpn {X : ix_X} {d j pc : Nat} {L : ix_L} {n : Nat} {st : List Value} {h : ix_H} : ix_pn X d j pc L (some n) st h = ix_sem X d j pc L (.int (nI n) :: st) h := rfl
-- numbers
theorem zn_lt {a b : Nat} (ha : a < 2147483648) (hb : b < 2147483648) : (nI a < nI b) = (a < b) := propext (nI_ltI ha hb)
theorem zn_le {a b : Nat} (ha : a < 2147483648) (hb : b < 2147483648) : (nI a ≤ nI b) = (a ≤ b) := propext (nI_leI ha hb)
theorem zn_eq {a b : Nat} (ha : a < 2147483648) (hb : b < 2147483648) : (nI a = nI b) = (a = b) := propext (nI_eq ha hb)
theorem zn_lt0 {a : Nat} (ha : a < 2147483648) : (nI a < 0) = False := eq_false (nI_pos ha)
theorem zn_le0 {a : Nat} (ha : a < 2147483648) : (0 ≤ nI a) = True := eq_true (nI_pos' ha)
theorem zn_eq0 {a : Nat} (ha : a < 2147483648) : (nI a = 0) = (a = 0) := propext (by rw [← nI_0]; exact nI_eq ha (by decide))
theorem zn_0lt {a : Nat} (ha : a < 2147483648) : (0 < nI a) = (0 < a) := propext (by rw [← nI_0]; exact nI_ltI (by decide) ha)
theorem zn_le00 {a : Nat} (ha : a < 2147483648) : (nI a ≤ 0) = (a = 0) := propext (by rw [← nI_0]; exact (nI_leI ha (by decide)).trans (by omega))
theorem zn_add (a b : Nat) : nI a + nI b = nI (a + b) := nI_add a b
theorem zn_mul (a b : Nat) : nI a * nI b = nI (a * b) := pk_mul a b
theorem zn_sub {a b : Nat} (h : b ≤ a) : nI a - nI b = nI (a - b) := pk_sub h
theorem zn_div {a b : Nat} (ha : a < 2147483648) (h0 : 0 < b) (hb : b < 2147483648) : nI a / nI b = nI (a / b) := pk_div ha h0 hb
theorem zn_rem {a b : Nat} (ha : a < 2147483648) (h0 : 0 < b) (hb : b < 2147483648) : nI a - nI (a / b) * nI b = nI (a % b) := by rw [← pk_div ha h0 hb]; exact pk_rem ha h0 hb
theorem zn_m1 {a : Nat} (ha : 0 < a) : nI a + (-1) = nI (a - 1) := by
  obtain ⟨b, rfl⟩ : ∃ b, a = b + 1 := ⟨a - 1, by omega⟩
  exact pk_m1 b
theorem zm_lt {a : Nat} (ha : a < 2147483648) : (nI a < (-1 : Int32)) = False := eq_false (fun h => by
  have h1 : nI a < 0 := Int32.lt_trans h (by decide)
  exact nI_pos ha h1)
theorem zm_le {a : Nat} (ha : a < 2147483648) : ((-1 : Int32) ≤ nI a) = True := eq_true (Int32.not_lt.mp (by rw [zm_lt ha]; exact id))
theorem zm_eq {a : Nat} (ha : a < 2147483648) : (nI a = (-1 : Int32)) = False := eq_false (fun h => by
  have h1 : nI a < 0 := by rw [h]; decide
  exact nI_pos ha h1)
/-- any number is below 0, or a small natural number, or another -/
theorem zn_of (x : Int32) : x < 0 ∨ ∃ k : Nat, k < 2147483648 ∧ x = nI k := by
  by_cases h : x < 0
  · exact Or.inl h
  · exact Or.inr (nI_of h)

theorem zn_lt00 {x : Int32} : (x < nI 0) = (x < 0) := rfl
theorem zn_le01 {x : Int32} : (nI 0 ≤ x) = (0 ≤ x) := rfl
theorem zn_not_lt {x y : Int32} : (¬ x < y) = (y ≤ x) := propext Int32.not_lt
theorem zn_not_le {x y : Int32} : (¬ x ≤ y) = (y < x) := propext Int32.not_le
/-- below 0: below all natural numbers -/
theorem zx_lt {x : Int32} {a : Nat} (hx : x < 0) (ha : a < 2147483648) : (x < nI a) = True := eq_true (Int32.lt_of_lt_of_le hx (nI_pos' ha))
theorem zx_le {x : Int32} {a : Nat} (hx : x < 0) (ha : a < 2147483648) : (nI a ≤ x) = False := eq_false (fun h => Int32.lt_irrefl (Int32.lt_of_lt_of_le (Int32.lt_of_lt_of_le hx (nI_pos' ha)) h))
theorem zx_eq {x : Int32} {a : Nat} (hx : x < 0) (ha : a < 2147483648) : (x = nI a) = False := eq_false (fun h => nI_pos ha (h ▸ hx))
theorem zx_eq' {x : Int32} {a : Nat} (hx : x < 0) (ha : a < 2147483648) : (nI a = x) = False := eq_false (fun h => nI_pos ha (h ▸ hx))
theorem zx_gt {x : Int32} {a : Nat} (hx : x < 0) (ha : a < 2147483648) : (nI a < x) = False := eq_false (fun h => Int32.lt_irrefl (Int32.lt_trans h (Int32.lt_of_lt_of_le hx (nI_pos' ha))))
theorem zx_ge {x : Int32} {a : Nat} (hx : x < 0) (ha : a < 2147483648) : (x ≤ nI a) = True := eq_true (Int32.le_of_lt (Int32.lt_of_lt_of_le hx (nI_pos' ha)))
theorem zx_0 {x : Int32} (hx : x < 0) : (x = 0) = False := eq_false (fun h => by subst h; exact absurd hx (by decide))
theorem zx_0le {x : Int32} (hx : x < 0) : (0 ≤ x) = False := eq_false (fun h => Int32.lt_irrefl (Int32.lt_of_lt_of_le hx h))
