/-! ===== flat memory: the heap as rows of numbers with a fixed description ===== -/
def fm_v (d : Nat) (x : Int32) : Value := match d with
  | 0 => .int x
  | 1 => if x < 0 then .null else .ref x.toNatClampNeg
  | q + 2 => .ref q
def fm_e (x : Int32) : Option Nat := if x < 0 then none else some x.toNatClampNeg
abbrev fm_D := Nat × Nat × List Nat
abbrev fm_M := Nat → Nat → Int32
/-- a cell: 0 an object, 1 numbers, 2 references -/
def fm_c (D : fm_D) (f : Nat → Int32) : ix_C := match D with
  | (0, c, ds) => .inr (c, ds.mapIdx (fun k d => fm_v d (f k)))
  | (1, t, ds) => .inl (t, ds.headD 0, .inl f)
  | (_, t, ds) => .inl (t, ds.headD 0, .inr (.inr (.inr (.inr (fun i => fm_e (f i))))))
def fm_h (μ : fm_M) (T : List fm_D) : ix_H := T.mapIdx (fun k D => fm_c D (μ k))
def fm_r (μ : fm_M) (r : Nat) (f : Nat → Int32) : fm_M := fun r' => if r' = r then f else μ r'
def fm_u (μ : fm_M) (r k : Nat) (x : Int32) : fm_M := fm_r μ r (upd (μ r) k x)
theorem fm_at {μ : fm_M} {T : List fm_D} {r : Nat} {D : fm_D} (hT : T[r]? = some D) : ix_at (fm_h μ T) r = some (fm_c D (μ r)) := by
  simp [ix_at, fm_h, List.getElem?_mapIdx, hT]
theorem fm_len {μ : fm_M} {T : List fm_D} : (fm_h μ T).length = T.length := by simp [fm_h]
theorem fm_up {μ : fm_M} {T : List fm_D} {r : Nat} {D : fm_D} {f : Nat → Int32} {c : ix_C} (hT : T[r]? = some D) (hc : c = fm_c D f) : ix_up (fm_h μ T) r c = fm_h (fm_r μ r f) T := by
  subst hc
  have hl : r < T.length := (List.getElem?_eq_some_iff.mp hT).1
  apply List.ext_getElem?
  intro i
  unfold ix_up fm_h
  rw [List.getElem?_set, List.getElem?_mapIdx, List.getElem?_mapIdx, List.length_mapIdx]
  by_cases hi : r = i
  · subst hi
    rw [if_pos rfl, if_pos hl, hT]
    simp [fm_r]
  · rw [if_neg hi]
    have hi' : ¬ i = r := fun e => hi e.symm
    simp [fm_r, hi']
theorem fm_app {μ : fm_M} {T : List fm_D} {D : fm_D} {f : Nat → Int32} {c : ix_C} (hc : c = fm_c D f) : fm_h μ T ++ [c] = fm_h (fm_r μ T.length f) (T ++ [D]) := by
  subst hc
  apply List.ext_getElem?
  intro i
  unfold fm_h
  rw [List.getElem?_mapIdx, List.getElem?_append, List.getElem?_append, List.getElem?_mapIdx, List.length_mapIdx]
  by_cases hi : i < T.length
  · rw [if_pos hi, if_pos hi]
    have hi' : ¬ i = T.length := by omega
    simp [fm_r, hi']
  · rw [if_neg hi, if_neg hi]
    by_cases h0 : i = T.length
    · subst h0
      simp [fm_r]
    · have h1 : i - T.length ≠ 0 := by omega
      obtain ⟨m, hm⟩ : ∃ m, i - T.length = m + 1 := ⟨i - T.length - 1, by omega⟩
      rw [hm]
      simp
-- reading and writing memory
theorem fm_rs {μ : fm_M} {r : Nat} {f : Nat → Int32} : fm_r μ r f r = f := if_pos rfl
theorem fm_rn {μ : fm_M} {r r' : Nat} {f : Nat → Int32} (h : r' ≠ r) : fm_r μ r f r' = μ r' := if_neg h
theorem fm_us {μ : fm_M} {r k : Nat} {x : Int32} : fm_u μ r k x r k = x := by simp [fm_u, fm_r, upd]
theorem fm_uk {μ : fm_M} {r k k' : Nat} {x : Int32} (h : k' ≠ k) : fm_u μ r k x r k' = μ r k' := by simp [fm_u, fm_r, upd, h]
theorem fm_un {μ : fm_M} {r r' k : Nat} {x : Int32} (h : r' ≠ r) : fm_u μ r k x r' = μ r' := by simp [fm_u, fm_r, h]
theorem fm_uu {μ : fm_M} {r k : Nat} {x : Int32} : fm_u μ r k x r = upd (μ r) k x := by simp [fm_u, fm_r]
theorem fm_uid {μ : fm_M} {r k : Nat} {x : Int32} (h : μ r k = x) : fm_u μ r k x = μ := by
  subst h
  funext a b
  simp only [fm_u, fm_r, upd]
  split
  · rename_i e
    subst e
    by_cases hb : b = k
    · subst hb
      simp [upd]
    · simp [upd, hb]
  · rfl
-- the rows over a heap
section FM
variable {μ : fm_M} {T : List fm_D} {r k c : Nat} {cs ds : List Nat}
theorem fm_mi {ds : List Nat} {f : Nat → Int32} {k d : Nat} (hd : ds[k]? = some d) : (ds.mapIdx (fun k d => fm_v d (f k)))[k]? = some (fm_v d (f k)) := by
  simp [List.getElem?_mapIdx, hd]
theorem fm_ms {ds : List Nat} {f : Nat → Int32} {k d : Nat} {x : Int32} {v : Value} (hd : ds[k]? = some d) (hv : v = fm_v d x) : (ds.mapIdx (fun k d => fm_v d (f k))).set k v = ds.mapIdx (fun k' d => fm_v d (upd f k x k')) := by
  subst hv
  have hl : k < ds.length := (List.getElem?_eq_some_iff.mp hd).1
  apply List.ext_getElem?
  intro i
  rw [List.getElem?_set, List.getElem?_mapIdx, List.getElem?_mapIdx, List.length_mapIdx]
  by_cases hi : k = i
  · subst hi
    rw [if_pos rfl, if_pos hl, hd]
    simp [upd]
  · rw [if_neg hi]
    have hi' : ¬ i = k := fun e => hi e.symm
    simp [upd, hi']
theorem fm_g {d : Nat} (hT : T[r]? = some (0, c, ds)) (hc : ix_isin cs c = true) (hd : ds[k]? = some d) : ix_g (fm_h μ T) r cs k = some (fm_v d (μ r k)) := by
  unfold ix_g
  rw [fm_at hT]
  simp only [fm_c]
  rw [if_pos hc]
  exact fm_mi hd
theorem fm_gI (hT : T[r]? = some (0, c, ds)) (hc : ix_isin cs c = true) (hd : ds[k]? = some 0) : ix_g (fm_h μ T) r cs k = some (.int (μ r k)) := fm_g hT hc hd
theorem fm_gR {q : Nat} (hT : T[r]? = some (0, c, ds)) (hc : ix_isin cs c = true) (hd : ds[k]? = some (q + 2)) : ix_g (fm_h μ T) r cs k = some (.ref q) := fm_g hT hc hd
theorem fm_gV {q : Nat} (hT : T[r]? = some (0, c, ds)) (hc : ix_isin cs c = true) (hd : ds[k]? = some 1) (hq : μ r k = nI q) (h31 : q < 2147483648) : ix_g (fm_h μ T) r cs k = some (.ref q) := by
  rw [fm_g hT hc hd, hq]
  have h1 : ¬ nI q < 0 := nI_pos h31
  have h2 : q < 2 ^ 31 := h31
  simp only [fm_v, if_neg h1, nI_clamp h2]
theorem fm_s {d : Nat} {x : Int32} {v : Value} (hT : T[r]? = some (0, c, ds)) (hc : ix_isin cs c = true) (hd : ds[k]? = some d) (hv : v = fm_v d x) : ix_s (fm_h μ T) r cs k v = some (fm_h (fm_u μ r k x) T) := by
  unfold ix_s
  rw [fm_at hT]
  simp only [fm_c]
  have hl : k < (ds.mapIdx (fun k d => fm_v d (μ r k))).length := by
    rw [List.length_mapIdx]
    exact (List.getElem?_eq_some_iff.mp hd).1
  rw [if_pos ⟨hc, hl⟩, fm_up (D := (0, c, ds)) (f := upd (μ r) k x) hT (by simp only [fm_c]; rw [fm_ms hd hv])]
  rfl
theorem fm_sI {x : Int32} (hT : T[r]? = some (0, c, ds)) (hc : ix_isin cs c = true) (hd : ds[k]? = some 0) : ix_s (fm_h μ T) r cs k (.int x) = some (fm_h (fm_u μ r k x) T) := fm_s hT hc hd rfl
theorem fm_sV {q : Nat} (hT : T[r]? = some (0, c, ds)) (hc : ix_isin cs c = true) (hd : ds[k]? = some 1) (h31 : q < 2147483648) : ix_s (fm_h μ T) r cs k (.ref q) = some (fm_h (fm_u μ r k (nI q)) T) := fm_s hT hc hd (by
  have h1 : ¬ nI q < 0 := nI_pos h31
  have h2 : q < 2 ^ 31 := h31
  simp only [fm_v, if_neg h1, nI_clamp h2])
theorem fm_cls (hT : T[r]? = some (0, c, ds)) : ix_cls (fm_h μ T) r = some c := by
  unfold ix_cls
  rw [fm_at hT]
  rfl
theorem fm_ra {t n : Nat} (hT : T[r]? = some (1, t, [n])) (hk : k < n) (h31 : k < 2147483648) : ix_ra (fm_h μ T) r t (nI k) = some (μ r k) := by
  have h1 : k < 2 ^ 31 := h31
  unfold ix_ra
  rw [fm_at hT]
  simp only [fm_c, nI_clamp h1, List.headD_cons]
  rw [if_pos ⟨trivial, nI_pos' h1, hk⟩]
theorem fm_wa {t n : Nat} {x : Int32} (hT : T[r]? = some (1, t, [n])) (hk : k < n) (h31 : k < 2147483648) : ix_wa (fm_h μ T) r t (nI k) x = some (fm_h (fm_u μ r k x) T) := by
  have h1 : k < 2 ^ 31 := h31
  unfold ix_wa
  rw [fm_at hT]
  simp only [fm_c, nI_clamp h1, List.headD_cons]
  rw [if_pos ⟨trivial, nI_pos' h1, hk⟩]
  exact congrArg some ((fm_up (D := (1, t, [n])) (f := upd (μ r) k x) hT rfl).trans rfl)
theorem fm_al {t n : Nat} (hT : T[r]? = some (1, t, [n])) (ht : t < 2) : ix_al (fm_h μ T) r = some n := by
  unfold ix_al
  rw [fm_at hT]
  simp only [fm_c, List.headD_cons]
  exact if_pos ht
theorem fm_alq {t n : Nat} (hT : T[r]? = some (2, t, [n])) (h2 : 2 ≤ t) (h5 : t < 5) : ix_al (fm_h μ T) r = some n := by
  unfold ix_al
  rw [fm_at hT]
  simp only [fm_c, List.headD_cons]
  exact if_pos ⟨h2, h5⟩
theorem fm_rq {t n : Nat} (hT : T[r]? = some (2, t, [n])) (h2 : 2 ≤ t) (h5 : t < 5) (hk : k < n) (h31 : k < 2147483648) : ix_rq (fm_h μ T) r (nI k) = some (fm_e (μ r k)) := by
  have h1 : k < 2 ^ 31 := h31
  unfold ix_rq
  rw [fm_at hT]
  simp only [fm_c, nI_clamp h1, List.headD_cons]
  rw [if_pos ⟨h2, h5, nI_pos' h1, hk⟩]
theorem fm_eq {q : Nat} (h31 : q < 2147483648) : fm_e (nI q) = some q := by
  have h1 : ¬ nI q < 0 := nI_pos h31
  have h2 : q < 2 ^ 31 := h31
  simp only [fm_e, if_neg h1, nI_clamp h2]
theorem fm_wq {t n v cv : Nat} (hT : T[r]? = some (2, t, [n])) (hv : ix_cls (fm_h μ T) v = some cv) (hc : ix_okst t cv = true) (h2 : 2 ≤ t) (h5 : t < 5) (hk : k < n) (h31 : k < 2147483648) (v31 : v < 2147483648) : ix_wq (fm_h μ T) r (nI k) v = some (fm_h (fm_u μ r k (nI v)) T) := by
  have h1 : k < 2 ^ 31 := h31
  unfold ix_wq
  rw [fm_at hT, hv]
  simp only [fm_c, nI_clamp h1, List.headD_cons]
  rw [if_pos ⟨hc, h2, h5, nI_pos' h1, hk⟩]
  refine congrArg some ((fm_up (D := (2, t, [n])) (f := upd (μ r) k (nI v)) hT ?_).trans rfl)
  simp only [fm_c, List.headD_cons]
  have e : va_up (fun i => fm_e (μ r i)) k (some v) = fun i => fm_e (upd (μ r) k (nI v) i) := by
    funext i
    simp only [va_up, upd]
    split
    · exact (fm_eq v31).symm
    · rfl
  rw [e]
theorem fm_cp {a b n0 n1 m : Nat} (ha : T[a]? = some (1, 0, [n0])) (hb : T[b]? = some (1, 0, [n1])) (hm0 : m ≤ n0) (hm1 : m ≤ n1) (h31 : m < 2147483648) : ix_cpyh (fm_h μ T) a b (nI 0) (nI 0) (nI m) = some (fm_h (fm_r μ b (fun i => if i < m then μ a i else μ b i)) T) := by
  have h1 : m < 2 ^ 31 := h31
  unfold ix_cpyh
  rw [fm_at ha, fm_at hb]
  simp only [fm_c, nI_clamp h1, List.headD_cons, nI_clamp (show 0 < 2 ^ 31 by decide), Nat.zero_add]
  rw [if_pos ⟨trivial, trivial, nI_pos' (by decide), nI_pos' (by decide), nI_pos' h1, hm0, hm1⟩]
  refine congrArg some (fm_up (D := (1, 0, [n1])) hb ?_)
  simp only [fm_c, List.headD_cons]
  have e : va_cpy (μ a) (μ b) 0 0 m = fun i => if i < m then μ a i else μ b i := by
    funext i
    simp [va_cpy]
  rw [e]
end FM
