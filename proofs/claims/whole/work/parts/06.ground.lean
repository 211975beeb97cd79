/-! ===== the interpreter's heap in the machine's; what stays true of the start ===== -/
def ix_tv (base : Nat) (κ : Nat → Value) (v : Value) : Value := match v with
  | .ref k => .ref (base + k)
  | .retAddr q => κ q
  | v => v
def ix_tc (base : Nat) (ca : Nat → ClassId) (κ : Nat → Value) (c : ix_C) : va_E := match c with
  | .inr (ci, fs) => .inr (ci, fs.map (ix_tv base κ))
  | .inl (t, n, .inl f) => .inl (ca t, n, .inl f)
  | .inl (t, n, .inr (.inr (.inr (.inr f)))) => .inl (ca t, n, .inr (.inr (.inr (.inr (fun j => (f j).map (fun k => base + k))))))
  | .inl (t, n, .inr x) => .inl (ca t, n, .inr x)
def ix_ws (base : Nat) (ca : Nat → ClassId) (κ : Nat → Value) (h : ix_H) : va_W := h.mapIdx (fun k c => (base + k, ix_tc base ca κ c))
theorem ix_ws_at {base : Nat} {ca : Nat → ClassId} {κ : Nat → Value} {h : ix_H} {r : Nat} {c : ix_C} (e : ix_at h r = some c) : (ix_ws base ca κ h)[r]? = some (base + r, ix_tc base ca κ c) := by
  unfold ix_ws
  rw [List.getElem?_mapIdx, show h[r]? = some c from e]
  rfl
theorem ix_ws_len {base : Nat} {ca : Nat → ClassId} {κ : Nat → Value} {h : ix_H} : (ix_ws base ca κ h).length = h.length := by simp [ix_ws]
theorem ix_ws_up {base : Nat} {ca : Nat → ClassId} {κ : Nat → Value} {h : ix_H} {r : Nat} {c : ix_C} : ix_ws base ca κ (ix_up h r c) = (ix_ws base ca κ h).set r (base + r, ix_tc base ca κ c) := by
  refine List.ext_getElem? fun k => ?_
  unfold ix_ws ix_up
  rw [List.getElem?_mapIdx]
  by_cases hk : k = r
  · subst hk
    by_cases hl : k < h.length
    · rw [List.getElem?_set_self hl, List.getElem?_set_self (by simpa using hl)]
      rfl
    · rw [List.getElem?_eq_none (by simpa using Nat.le_of_not_lt hl), List.getElem?_eq_none (by simpa using Nat.le_of_not_lt hl)]
      rfl
  · rw [List.getElem?_set_ne (Ne.symm hk), List.getElem?_set_ne (Ne.symm hk), List.getElem?_mapIdx]
theorem ix_ws_app {base : Nat} {ca : Nat → ClassId} {κ : Nat → Value} {h : ix_H} {c : ix_C} : ix_ws base ca κ (h ++ [c]) = ix_ws base ca κ h ++ [(base + h.length, ix_tc base ca κ c)] := by
  unfold ix_ws
  rw [List.mapIdx_concat]
theorem ix_wD {base : Nat} {ca : Nat → ClassId} {κ : Nat → Value} {h : ix_H} : va_D (fun q => base ≤ q) (ix_ws base ca κ h) := by
  have key : ∀ (k : Nat) (q : Nat × va_E), (ix_ws base ca κ h)[k]? = some q → q.1 = base + k := by
    intro k q hq
    unfold ix_ws at hq
    rw [List.getElem?_mapIdx] at hq
    cases hc : h[k]? with
    | none => rw [hc] at hq; cases hq
    | some c => rw [hc] at hq; cases hq; rfl
  refine ⟨fun i j p q hp hq e => ?_, fun k q hq => ?_⟩
  · have h1 := key i p hp
    have h2 := key j q hq
    omega
  · have h1 := key k q hq
    show base ≤ q.1
    omega
/-- the machine's heap is at least as long -/
theorem ix_ws_size {base : Nat} {ca : Nat → ClassId} {κ : Nat → Value} {h : ix_H} {D : va_G} {H : Heap} (hb : base ≤ H.size) (hP : va_P D ix_cl (ix_ws base ca κ h) H) : base + h.length ≤ H.size := by
  cases hn : h.length with
  | zero => omega
  | succ n =>
    obtain ⟨c, hc⟩ : ∃ c, h[n]? = some c := ⟨h[n], List.getElem?_eq_getElem (by omega)⟩
    have := (hP n _ (ix_ws_at (base := base) (ca := ca) (κ := κ) hc)).lt
    simp only at this
    omega
def ix_tys (ca : Nat → ClassId) : List (ClassId × FieldType) := [(ca 0, .int), (ca 1, .boolean), (ca 2, .object "TreeToTree$Tree"), (ca 3, .object "TreeToTree$Spot"), (ca 4, .object "TreeToTree$Park")]
/-- what holds at the start of all, and stays -/
def ix_G (base : Nat) (D : va_G) (ca : Nat → ClassId) (κ : Nat → Value) (X : ix_X) (U : State) (H : Heap) : Prop :=
  va_K D ix_cl (ix_tys ca) U ∧ (∀ w ∈ ix_nws, va_Nw w U) ∧ (∀ q ∈ ix_ncs, va_Nc q.1 q.2 U) ∧ (∀ t, va_AO (ix_aC t) U) ∧
  va_Z "java/lang/String" "COMPACT_STRINGS" "Z" (.int 1) (fun q => base ≤ q) U H ∧
  va_Z "jdk/internal/util/Preconditions" "SIOOBE_FORMATTER" "Ljava/util/function/BiFunction;" (κ 1) (fun q => base ≤ q) U H ∧
  (∃ adK adV : Nat → Nat, (∀ i, i < 6 → κ (2 + 2 * i) = .ref (adK i) ∧ κ (3 + 2 * i) = .ref (adV i)) ∧ vk_S 6 (ix_txt.map List.length) ix_txt adK adV (fun q => base ≤ q) U H) ∧
  (∀ e ∈ ix_lits, ∃ a : Nat, κ (2 + 2 * e.2.2.2) = .ref a ∧ vk_R e.1 e.2.1 e.2.2.1 a U) ∧
  (∃ b : Nat, κ 0 = .ref b ∧ va_X b X.1 X.2 U H ∧ b < base ∧ b < H.size) ∧
  ∀ q, κ q = .null ∨ ∃ a : Nat, κ q = .ref a
theorem ix_nws_warm {s U : State} (hW : s.WarmedH U.vm) (h : ∀ w ∈ ix_nws, va_Nw w s) : ∀ w ∈ ix_nws, va_Nw w U := by
  intro w hw
  have h1 := h w hw
  simp only [ix_nws, List.mem_cons, List.not_mem_nil, or_false] at hw
  rcases hw with rfl | rfl | rfl | rfl | rfl | rfl | rfl | rfl | rfl | rfl | rfl | rfl | rfl | rfl | rfl | rfl | rfl | rfl | rfl | rfl | rfl | rfl | rfl | rfl | rfl | rfl | rfl | rfl | rfl | rfl | rfl | rfl | rfl | rfl <;>
    first | exact va_Nw.warmF hW h1 | exact va_Nw.warmM hW h1 | exact va_Nw.warmD hW h1 | exact va_Nw.warmC hW h1
theorem ix_G.move {base : Nat} {D : va_G} {ca : Nat → ClassId} {κ : Nat → Value} {X : ix_X} {s U : State} {H H1 : Heap} (h : ix_G base D ca κ X s H) (hW : s.WarmedH U.vm) (hz : H.size ≤ H1.size) (hq : ∀ q : Nat, q < H.size → ¬ base ≤ q → H1[q]? = H[q]?) : ix_G base D ca κ X U H1 := by
  obtain ⟨g1, g2, g3, g4, g5, g6, ⟨adK, adV, g7, g8⟩, g9, ⟨b, g10, g11, g12, g13⟩, g14⟩ := h
  have hvm := hW.alike
  refine ⟨g1.moved hvm, ix_nws_warm hW g2, fun q hq => (g3 q hq).moved hvm, fun t => (g4 t).moved hvm, (g5.moved hvm).kept hq, (g6.moved hvm).kept hq, ⟨adK, adV, g7, (g8.moved hvm).kept hq⟩, fun e he => ?_, ⟨b, g10, (g11.moved hvm).kept (hq b g13 (by omega)), g12, by omega⟩, g14⟩
  obtain ⟨a, e1, e2⟩ := g9 e he
  exact ⟨a, e1, e2.warm hW⟩
/-- the locals -/
def ix_lh (base : Nat) (κ : Nat → Value) (j : Nat) (L : ix_L) (ls : Array Slot) : Prop :=
  ls.size = ix_mx j ∧ lv_wf ls ∧ L.length = ix_mx j ∧ (∀ (k : Nat) (v : Value), L[k]? = some (some v) → ls[k]? = some (.val (ix_tv base κ v))) ∧ ∀ (k : Nat) (v : Value), L[k]? = some (some v) → v.category = 2 → k ∈ ix_lg j
def ix_lv (base : Nat) (κ : Nat → Value) (L : ix_L) : List (Nat × Value) := (List.range L.length).filterMap (fun k => match L[k]? with
  | some (some v) => some (k, ix_tv base κ v)
  | _ => none)
theorem ix_lv_mem {base : Nat} {κ : Nat → Value} {L : ix_L} {k : Nat} {v : Value} (h : L[k]? = some (some v)) : (k, ix_tv base κ v) ∈ ix_lv base κ L := by
  unfold ix_lv
  rw [List.mem_filterMap]
  exact ⟨k, List.mem_range.mpr (List.getElem?_eq_some_iff.mp h).1, by rw [h]⟩
theorem ix_lv_of {base : Nat} {κ : Nat → Value} {L : ix_L} {q : Nat × Value} (h : q ∈ ix_lv base κ L) : ∃ v, L[q.1]? = some (some v) ∧ q.2 = ix_tv base κ v := by
  unfold ix_lv at h
  rw [List.mem_filterMap] at h
  obtain ⟨k, -, hk⟩ := h
  cases hL : L[k]? with
  | none => rw [hL] at hk; cases hk
  | some o =>
    rw [hL] at hk
    cases o with
    | none => cases hk
    | some v =>
      cases hk
      exact ⟨v, hL, rfl⟩
theorem ix_lh.has {base : Nat} {κ : Nat → Value} {j : Nat} {L : ix_L} {ls : Array Slot} (h : ix_lh base κ j L ls) : lv_has ls (ix_mx j) (ix_lv base κ L) := by
  refine ⟨h.1, h.2.1, fun q hq => ?_⟩
  obtain ⟨v, h1, h2⟩ := ix_lv_of hq
  rw [h2]
  exact h.2.2.2.1 _ _ h1
theorem ix_tv_cat {base : Nat} {κ : Nat → Value} {v : Value} (hκ : ∀ q, κ q = .null ∨ ∃ a : Nat, κ q = .ref a) : (ix_tv base κ v).category = v.category := by
  cases v with
  | retAddr q => rcases hκ q with h | ⟨a, h⟩ <;> simp [ix_tv, h, Value.category]
  | _ => rfl
theorem ix_wt_tv {base : Nat} {κ : Nat → Value} (hκ : ∀ q, κ q = .null ∨ ∃ a : Nat, κ q = .ref a) (st : List Value) : ((st.map (ix_tv base κ)).map fun v => v.category).sum = ix_wt st := by
  unfold ix_wt
  rw [List.map_map]
  congr 1
  exact List.map_congr_left fun v _ => ix_tv_cat hκ
/-- behind a store of one slot -/
theorem ix_lh.set1 {base : Nat} {κ : Nat → Value} {j i : Nat} {L : ix_L} {ls ls' : Array Slot} {v w : Value} (h : ix_lh base κ j L ls) (hκ : ∀ q, κ q = .null ∨ ∃ a : Nat, κ q = .ref a) (hw : w = ix_tv base κ v) (hc : v.category = 1) (h2 : ∀ k ∈ ix_lg j, k + 1 ≠ i)
    (h' : lv_has ls' (ix_mx j) ((i, w) :: (ix_lv base κ L).filter (fun q => !(q.1 == i) && !(q.1 + 1 == i && q.2.category == 2)))) : ix_lh base κ j (L.set i (some v)) ls' := by
  subst hw
  refine ⟨h'.1, h'.2.1, by rw [List.length_set]; exact h.2.2.1, fun k u hk => ?_, fun k u hk hu => ?_⟩
  · by_cases hki : k = i
    · subst hki
      have hlt : k < L.length := by
        have := (List.getElem?_eq_some_iff.mp hk).1
        rwa [List.length_set] at this
      rw [List.getElem?_set_self hlt] at hk
      cases hk
      exact h'.2.2 _ List.mem_cons_self
    · rw [List.getElem?_set_ne (Ne.symm hki)] at hk
      refine h'.2.2 (k, ix_tv base κ u) (List.mem_cons_of_mem _ (List.mem_filter.mpr ⟨ix_lv_mem hk, ?_⟩))
      have hcat : ¬ (k + 1 = i ∧ (ix_tv base κ u).category = 2) := by
        rintro ⟨e1, e2⟩
        rw [ix_tv_cat hκ] at e2
        exact h2 k (h.2.2.2.2 k u hk e2) e1
      simp only [Bool.and_eq_true, Bool.not_eq_true', beq_eq_false_iff_ne, ne_eq, Bool.and_eq_false_iff]
      refine ⟨hki, ?_⟩
      by_cases e1 : k + 1 = i
      · exact Or.inr fun e2 => hcat ⟨e1, e2⟩
      · exact Or.inl e1
  · by_cases hki : k = i
    · subst hki
      have hlt : k < L.length := by
        have := (List.getElem?_eq_some_iff.mp hk).1
        rwa [List.length_set] at this
      rw [List.getElem?_set_self hlt] at hk
      cases hk
      omega
    · rw [List.getElem?_set_ne (Ne.symm hki)] at hk
      exact h.2.2.2.2 k u hk hu
theorem ix_lh.set2 {base : Nat} {κ : Nat → Value} {j i : Nat} {L : ix_L} {ls ls' : Array Slot} {x : Int64} (h : ix_lh base κ j L ls) (hκ : ∀ q, κ q = .null ∨ ∃ a : Nat, κ q = .ref a) (hi : i ∈ ix_lg j) (h2 : ∀ k ∈ ix_lg j, k + 1 ≠ i)
    (h' : lv_has ls' (ix_mx j) ((i, Value.long x) :: (ix_lv base κ L).filter (fun q => !(q.1 == i) && (!(q.1 == i + 1) && !(q.1 + 1 == i && q.2.category == 2))))) : ix_lh base κ j ((L.set i (some (.long x))).set (i + 1) none) ls' := by
  have key : ∀ (k : Nat) (u : Value), ((L.set i (some (.long x))).set (i + 1) none)[k]? = some (some u) → (k = i ∧ u = .long x) ∨ (k ≠ i ∧ k ≠ i + 1 ∧ L[k]? = some (some u)) := by
    intro k u hk
    by_cases hk1 : k = i + 1
    · subst hk1
      have hlt : i + 1 < (L.set i (some (.long x))).length := by
        have := (List.getElem?_eq_some_iff.mp hk).1
        rwa [List.length_set] at this
      rw [List.getElem?_set_self hlt] at hk
      cases hk
    · rw [List.getElem?_set_ne (Ne.symm hk1)] at hk
      by_cases hki : k = i
      · subst hki
        have hlt : k < L.length := by
          have := (List.getElem?_eq_some_iff.mp hk).1
          rwa [List.length_set] at this
        rw [List.getElem?_set_self hlt] at hk
        cases hk
        exact Or.inl ⟨rfl, rfl⟩
      · rw [List.getElem?_set_ne (Ne.symm hki)] at hk
        exact Or.inr ⟨hki, hk1, hk⟩
  refine ⟨h'.1, h'.2.1, by rw [List.length_set, List.length_set]; exact h.2.2.1, fun k u hk => ?_, fun k u hk hu => ?_⟩
  · rcases key k u hk with ⟨rfl, rfl⟩ | ⟨a, b, c⟩
    · exact h'.2.2 _ List.mem_cons_self
    · refine h'.2.2 (k, ix_tv base κ u) (List.mem_cons_of_mem _ (List.mem_filter.mpr ⟨ix_lv_mem c, ?_⟩))
      have hcat : ¬ (k + 1 = i ∧ (ix_tv base κ u).category = 2) := by
        rintro ⟨e1, e2⟩
        rw [ix_tv_cat hκ] at e2
        exact h2 k (h.2.2.2.2 k u c e2) e1
      simp only [Bool.and_eq_true, Bool.not_eq_true', beq_eq_false_iff_ne, ne_eq, Bool.and_eq_false_iff]
      refine ⟨a, b, ?_⟩
      by_cases e1 : k + 1 = i
      · exact Or.inr fun e2 => hcat ⟨e1, e2⟩
      · exact Or.inl e1
  · rcases key k u hk with ⟨rfl, rfl⟩ | ⟨a, b, c⟩
    · exact hi
    · exact h.2.2.2.2 k u c hu
/-- at a method's entry -/
theorem ix_lgok_at {j : Nat} : ∀ (L : ix_L) (o : Nat), ix_lgok j o L = true → ∀ (k : Nat) (v : Value), L[k]? = some (some v) → v.category = 2 → (∃ x, v = .long x) ∧ o + k ∈ ix_lg j := by
  intro L
  induction L with
  | nil => intro o _ k v hk; simp at hk
  | cons a r ih =>
    intro o h k v hk hv
    cases k with
    | zero =>
      rw [List.getElem?_cons_zero] at hk
      cases hk
      cases v with
      | long x =>
        simp only [ix_lgok, Bool.and_eq_true, List.contains_iff_mem] at h
        exact ⟨⟨x, rfl⟩, h.1⟩
      | double x => simp [ix_lgok] at h
      | _ => simp [Value.category] at hv
    | succ k =>
      rw [List.getElem?_cons_succ] at hk
      have hr : ix_lgok j (o + 1) r = true := by
        cases a with
        | none => simpa [ix_lgok] using h
        | some w =>
          cases w with
          | long x => simp only [ix_lgok, Bool.and_eq_true] at h; exact h.2
          | double x => simp [ix_lgok] at h
          | _ => simpa [ix_lgok] using h
      obtain ⟨h1, h2⟩ := ih (o + 1) hr k v hk hv
      exact ⟨h1, by rw [show o + (k + 1) = o + 1 + k by omega]; exact h2⟩
theorem ix_sp_args {base : Nat} {κ : Nat → Value} (hκ : ∀ q, κ q = .null ∨ ∃ a : Nat, κ q = .ref a) {j : Nat} : ∀ (as : List Value) (o : Nat) (o' : Nat), ix_lgok j o' (ix_sp as) = true → (lg_sl (as.map (ix_tv base κ))).length = (ix_sp as).length ∧ ∀ (k : Nat) (v : Value), (ix_sp as)[k]? = some (some v) → (o + k, ix_tv base κ v) ∈ lv_args o (as.map (ix_tv base κ)) := by
  intro as
  induction as with
  | nil => intro o o' _; exact ⟨rfl, fun k v hk => by simp [ix_sp] at hk⟩
  | cons a r ih =>
    intro o o' h
    have hd : ∀ x, a ≠ .double x := by
      rintro x rfl
      simp [ix_sp, ix_lgok] at h
    by_cases ha : ∃ x, a = .long x
    · obtain ⟨x, rfl⟩ := ha
      have h2 : ix_lgok j (o' + 1 + 1) (ix_sp r) = true := by
        simp only [ix_sp, ix_lgok, Bool.and_eq_true] at h
        exact h.2
      obtain ⟨e1, e2⟩ := ih (o + 2) (o' + 1 + 1) h2
      have es : lg_sl ((Value.long x :: r).map (ix_tv base κ)) = .val (.long x) :: .second :: lg_sl (r.map (ix_tv base κ)) := by simp [lg_sl, ix_tv, Value.category]
      refine ⟨by rw [es]; simp [ix_sp, e1], fun k v hk => ?_⟩
      have ea : lv_args o ((Value.long x :: r).map (ix_tv base κ)) = (o, .long x) :: lv_args (o + 2) (r.map (ix_tv base κ)) := by simp [lv_args, ix_tv, Value.category]
      rw [ea]
      match k, hk with
      | 0, hk => cases hk; exact List.mem_cons_self
      | 1, hk => cases hk
      | k + 2, hk =>
        have := e2 k v hk
        rw [show o + (k + 2) = o + 2 + k by omega]
        exact List.mem_cons_of_mem _ this
    · have ha1 : a.category = 1 := by
        cases a with
        | long x => exact absurd ⟨x, rfl⟩ ha
        | double x => exact absurd rfl (hd x)
        | _ => rfl
      have es0 : ix_sp (a :: r) = some a :: ix_sp r := by
        cases a with
        | long x => exact absurd ⟨x, rfl⟩ ha
        | _ => rfl
      have h2 : ix_lgok j (o' + 1) (ix_sp r) = true := by
        rw [es0] at h
        cases a with
        | long x => exact absurd ⟨x, rfl⟩ ha
        | double x => exact absurd rfl (hd x)
        | _ => simpa [ix_lgok] using h
      obtain ⟨e1, e2⟩ := ih (o + 1) (o' + 1) h2
      have hc : ¬ (ix_tv base κ a).category = 2 := by rw [ix_tv_cat hκ, ha1]; decide
      have es : lg_sl ((a :: r).map (ix_tv base κ)) = .val (ix_tv base κ a) :: lg_sl (r.map (ix_tv base κ)) := by simp [lg_sl, hc]
      refine ⟨by rw [es, es0]; simp [e1], fun k v hk => ?_⟩
      have ea : lv_args o ((a :: r).map (ix_tv base κ)) = (o, ix_tv base κ a) :: lv_args (o + 1) (r.map (ix_tv base κ)) := by simp [lv_args, hc]
      rw [ea]
      rw [es0] at hk
      match k, hk with
      | 0, hk => cases hk; exact List.mem_cons_self
      | k + 1, hk =>
        have := e2 k v hk
        rw [show o + (k + 1) = o + 1 + k by omega]
        exact List.mem_cons_of_mem _ this
theorem ix_lh.entry {base : Nat} {κ : Nat → Value} (hκ : ∀ q, κ q = .null ∨ ∃ a : Nat, κ q = .ref a) {j : Nat} {as : List Value} {L : ix_L} (h : ix_ent j as = some L) :
    ix_lh base κ j L ((lg_sl (as.map (ix_tv base κ)) ++ List.replicate (ix_mx j - (lg_sl (as.map (ix_tv base κ))).length) Slot.unset).toArray) := by
  unfold ix_ent at h
  split at h
  · rename_i hc
    obtain ⟨h1, h2⟩ := hc
    cases h
    obtain ⟨e1, e2⟩ := ix_sp_args (base := base) hκ as 0 0 h2
    have hl := lv_entry (as.map (ix_tv base κ)) (n := ix_mx j) (by omega)
    refine ⟨hl.1, hl.2.1, by simp; omega, fun k v hk => ?_, fun k v hk hv => ?_⟩
    · by_cases hk2 : k < (ix_sp as).length
      · rw [List.getElem?_append_left hk2] at hk
        have := hl.2.2 _ (e2 k v hk)
        simpa using this
      · rw [List.getElem?_append_right (by omega)] at hk
        rw [List.getElem?_replicate] at hk
        split at hk <;> cases hk
    · by_cases hk2 : k < (ix_sp as).length
      · rw [List.getElem?_append_left hk2] at hk
        have := (ix_lgok_at _ _ h2 k v hk hv).2
        simpa using this
      · rw [List.getElem?_append_right (by omega)] at hk
        rw [List.getElem?_replicate] at hk
        split at hk <;> cases hk
  · cases h
