/-! ===== every instruction of the interpreter is the machine's ===== -/
def ix_le (h h' : ix_H) : Prop := h.length ≤ h'.length ∧ ix_hz h ≤ ix_hz h'
def ix_rok (j pc : Nat) (v : Option Value) : Prop := match v with
  | none => decode (ix_cc j) pc = .ok (.return_, 1) ∧ ix_rt j = none
  | some (.int x) => decode (ix_cc j) pc = .ok (.ireturn, 1) ∧ ∃ ty, ix_rt j = some ty ∧ (ty = .int ∨ narrow ty (.int x) = .int x)
  | some (.long _) => decode (ix_cc j) pc = .ok (.lreturn, 1) ∧ ix_rt j = some .long
  | some w => decode (ix_cc j) pc = .ok (.areturn, 1) ∧ (w = .null ∨ ∃ a, w = .ref a) ∧ ∃ n, ix_rt j = some (.object n)
/-- what an instruction's effect says of the machine -/
def ix_S1 (E : ix_E) (pc : Nat) (L : ix_L) (st : List Value) (h : ix_H) (a : ix_A) : Prop := match a with
  | none => True
  | some (.inl v) => st = v.toList ∧ ix_rok (ix_Ej E) pc v
  | some (.inr (.inl (pc', L', st', h'))) => ix_le h h' ∧ ∀ cells slots, cells + (h'.length - h.length) ≤ (ix_ER E).cells → slots + (ix_hz h' - ix_hz h) ≤ (ix_ER E).slots → ix_V E (cells + (h'.length - h.length)) (slots + (ix_hz h' - ix_hz h)) pc' L' st' h' → ix_V E cells slots pc L st h
  | some (.inr (.inr (j', as, pc', L', st', h'))) => h' = h ∧ j' < 236 ∧ ∀ d v h2 cells slots, ix_Mt (ix_EX E) d j' as h v h2 → h.length ≤ h2.length → d + 2 ≤ (ix_ER E).frames → 40 * (d + 2) ≤ (ix_ER E).locals → cells + (h2.length - h.length) ≤ (ix_ER E).cells → slots + (ix_hz h2 - ix_hz h) ≤ (ix_ER E).slots →
      ix_V E (cells + (h2.length - h.length)) (slots + (ix_hz h2 - ix_hz h)) pc' L' (v.toList ++ st') h2 → ix_V E cells slots pc L st h
theorem ix_hz_up {h : ix_H} {r : Nat} {c c' : ix_C} (e : ix_at h r = some c) (hc : ix_cz c' = ix_cz c) : ix_hz (ix_up h r c') = ix_hz h := by
  unfold ix_hz ix_up
  rw [List.map_set]
  congr 1
  rw [hc]
  refine List.ext_getElem? fun k => ?_
  by_cases hk : k = r
  · subst hk
    have hl : k < h.length := (List.getElem?_eq_some_iff.mp e).1
    rw [List.getElem?_set_self (by simpa using hl), List.getElem?_map, show h[k]? = some c from e]
    rfl
  · rw [List.getElem?_set_ne (Ne.symm hk)]
theorem ix_hz_app {h : ix_H} {c : ix_C} : ix_hz (h ++ [c]) = ix_hz h + ix_cz c := by simp [ix_hz]
theorem ix_tg_eq {pc t : Nat} {off : Int} (h : ix_tg pc off = some t) : (pc : Int) + off = (t : Int) := by
  unfold ix_tg at h
  split at h
  · rename_i a ha; cases h; exact ha
  · cases h
section ONE
variable {E : ix_E} {pc pc' : Nat} {L L' : ix_L} {st st' : List Value} {h h' : ix_H}
theorem s1_none : ix_S1 E pc L st h none := trivial
theorem s1_nx (k : ∀ cells slots, cells ≤ (ix_ER E).cells → slots ≤ (ix_ER E).slots → ix_V E cells slots pc' L' st' h → ix_V E cells slots pc L st h) : ix_S1 E pc L st h (ix_nx pc' L' st' h) := ⟨⟨Nat.le_refl _, Nat.le_refl _⟩, fun cells slots h1 h2 q => by
  rw [Nat.sub_self, Nat.add_zero] at h1 q
  rw [Nat.sub_self, Nat.add_zero] at h2 q
  exact k cells slots h1 h2 q⟩
theorem s1_up (e1 : h'.length = h.length) (e2 : ix_hz h' = ix_hz h) (k : ∀ cells slots, ix_V E cells slots pc' L' st' h' → ix_V E cells slots pc L st h) : ix_S1 E pc L st h (ix_nx pc' L' st' h') := ⟨⟨by omega, by omega⟩, fun cells slots _ _ q => by
  rw [e1, Nat.sub_self, Nat.add_zero, e2, Nat.sub_self, Nat.add_zero] at q
  exact k cells slots q⟩
theorem s1_new {c : ix_C} {n : Nat} (hn : ix_cz c = n) (k : ∀ cells slots, cells + 1 ≤ (ix_ER E).cells → slots + n ≤ (ix_ER E).slots → ix_V E (cells + 1) (slots + n) pc' L' st' (h ++ [c]) → ix_V E cells slots pc L st h) : ix_S1 E pc L st h (ix_nx pc' L' st' (h ++ [c])) := by
  refine ⟨⟨by simp, by rw [ix_hz_app]; omega⟩, fun cells slots h1 h2 q => ?_⟩
  rw [ix_hz_app, hn, show ix_hz h + n - ix_hz h = n by omega] at h2 q
  rw [List.length_append, show h.length + [c].length - h.length = 1 by simp] at h1 q
  exact k cells slots h1 h2 q
theorem s1_i1 {f : Int32 → List Value → ix_A} (k : ∀ x r, st = .int x :: r → ix_S1 E pc L st h (f x r)) : ix_S1 E pc L st h (ix_i1 st f) := by
  unfold ix_i1
  split
  · exact k _ _ rfl
  · trivial
theorem s1_i2 {f : Int32 → Int32 → List Value → ix_A} (k : ∀ x y r, st = .int y :: .int x :: r → ix_S1 E pc L st h (f x y r)) : ix_S1 E pc L st h (ix_i2 st f) := by
  unfold ix_i2
  split
  · exact k _ _ _ rfl
  · trivial
theorem s1_l1 {f : Int64 → List Value → ix_A} (k : ∀ x r, st = .long x :: r → ix_S1 E pc L st h (f x r)) : ix_S1 E pc L st h (ix_l1 st f) := by
  unfold ix_l1
  split
  · exact k _ _ rfl
  · trivial
theorem s1_l2 {f : Int64 → Int64 → List Value → ix_A} (k : ∀ x y r, st = .long y :: .long x :: r → ix_S1 E pc L st h (f x y r)) : ix_S1 E pc L st h (ix_l2 st f) := by
  unfold ix_l2
  split
  · exact k _ _ _ rfl
  · trivial
theorem s1_li {f : Int64 → Int32 → List Value → ix_A} (k : ∀ x y r, st = .int y :: .long x :: r → ix_S1 E pc L st h (f x y r)) : ix_S1 E pc L st h (ix_li st f) := by
  unfold ix_li
  split
  · exact k _ _ _ rfl
  · trivial
theorem s1_ld {i t : Nat} {f : Value → ix_A} (k : ∀ v, L[i]? = some (some v) → ix_kd v = t → ix_S1 E pc L st h (f v)) : ix_S1 E pc L st h (ix_ld L i t f) := by
  unfold ix_ld
  split
  · rename_i v hv
    split
    · exact k v hv (by assumption)
    · trivial
  · trivial
theorem s1_ovl {α : Type} {o : Option α} {f : α → ix_A} (k : ∀ v, o = some v → ix_S1 E pc L st h (f v)) : ix_S1 E pc L st h (ix_ovl o f) := by
  unfold ix_ovl
  split
  · exact k _ rfl
  · trivial
theorem s1_ohp {o : Option ix_H} {f : ix_H → ix_A} (k : ∀ v, o = some v → ix_S1 E pc L st h (f v)) : ix_S1 E pc L st h (ix_ohp o f) := by
  unfold ix_ohp
  split
  · exact k _ rfl
  · trivial
theorem s1_if {P : Prop} [Decidable P] {a b : ix_A} (k1 : P → ix_S1 E pc L st h a) (k2 : ¬ P → ix_S1 E pc L st h b) : ix_S1 E pc L st h (if P then a else b) := by
  split
  · exact k1 (by assumption)
  · exact k2 (by assumption)
theorem s1_jmp {off : Int} (k : ∀ t : Nat, (pc : Int) + off = (t : Int) → ∀ cells slots, ix_V E cells slots t L' st' h → ix_V E cells slots pc L st h) : ix_S1 E pc L st h (ix_jmp pc off L' st' h) := by
  unfold ix_jmp ix_tg
  cases e : (pc : Int) + off with
  | ofNat t => exact s1_nx fun c s _ _ q => k t e c s q
  | negSucc t => exact trivial
theorem s1_so {j i t : Nat} {st0 : List Value} {f : ix_L → List Value → ix_A} (k : ∀ v r, st0 = v :: r → ix_kd v = t → t ≠ 1 → i < L.length → (∀ q ∈ ix_lg j, q + 1 ≠ i) → ix_S1 E pc L st h (f (L.set i (some v)) r)) : ix_S1 E pc L st h (ix_so j L i t st0 f) := by
  unfold ix_so
  split
  · rename_i v r
    split
    · rename_i hc
      exact k v r rfl hc.1 hc.2.1 hc.2.2.1 hc.2.2.2.2
    · trivial
  · trivial
theorem s1_sl {j i : Nat} {f : ix_L → List Value → ix_A} (k : ∀ x r, st = .long x :: r → i + 1 < L.length → i ∈ ix_lg j → (∀ q ∈ ix_lg j, q + 1 ≠ i) → ix_S1 E pc L st h (f ((L.set i (some (.long x))).set (i + 1) none) r)) : ix_S1 E pc L st h (ix_sl j L i st f) := by
  unfold ix_sl
  split
  · rename_i x r
    split
    · rename_i hc
      exact k x r rfl hc.1 hc.2.1 hc.2.2.2
    · trivial
  · trivial
theorem s1_pop {n : Nat} {f : List Value → List Value → ix_A} (k : ∀ as r, st = as.reverse ++ r → as.length = n → ix_wt r ≤ 8 → ix_S1 E pc L st h (f as r)) : ix_S1 E pc L st h (ix_pop n st f) := by
  unfold ix_pop
  split
  · rename_i hc
    exact k _ _ (by rw [List.reverse_reverse, List.take_append_drop]) (by rw [List.length_reverse, List.length_take]; omega) hc.2
  · trivial
theorem s1_inv0 (C : ix_Cx E) {i : Nat} (hd : decode (ix_cc (ix_Ej E)) pc = .ok (.invokestatic i, 3)) : ix_S1 E pc L st h (ix_inv pc 0 (ix_ca (ix_o (ix_Ej E)) i) L st h) := by
  unfold ix_inv
  split
  · rename_i k n tg hca
    rw [if_pos rfl]
    refine s1_if (fun hk => ?_) (fun _ => s1_if (fun hk => ?_) (fun _ => s1_if (fun hk => ?_) (fun _ => s1_if (fun hk => ?_) (fun _ => s1_if (fun hk => ?_) (fun _ => s1_none)))))
    · subst hk
      split
      · rename_i x j' y tg'
        have hj : j' < 236 := by
          have hchk := ix_ca_chk hca
          rw [ix_k0, List.all_cons, Bool.and_eq_true] at hchk
          exact (ix_mok_inv (j := j') (n := n) hchk.1).1
        refine s1_pop fun as r e hn hw => ⟨rfl, hj, fun d v h2 cells slots hM hm f1 f2 f3 f4 q => ?_⟩
        subst e
        exact sv_static C hd hca hM hm hn hw f1 f2 f3 f4 q
      · exact s1_none
    · subst hk
      split
      · rename_i m dp b sp a r
        refine s1_if (fun hw => s1_ohp fun h' hh => ?_) (fun _ => s1_none)
        obtain ⟨n0, f, n1, g, h1, h2, -, -, -, -, -, e9⟩ := ix_cpyh_inv hh
        exact s1_up (by rw [e9, ix_up, List.length_set]) (by rw [e9]; exact ix_hz_up h2 rfl) fun c s q => sv_copy C hd hca hw hh q
      · exact s1_none
    · subst hk
      split
      · exact s1_if (fun hw => s1_nx fun c s f1 f2 q => sv_max C hd hca hw f1 f2 q) (fun _ => s1_none)
      · exact s1_none
    · subst hk
      split
      · exact s1_if (fun hw => s1_nx fun c s f1 f2 q => sv_min C hd hca hw f1 f2 q) (fun _ => s1_none)
      · exact s1_none
    · subst hk
      split
      · exact s1_if (fun hw => s1_nx fun c s f1 f2 q => sv_abs C hd hca hw f1 f2 q) (fun _ => s1_none)
      · exact s1_none
  · exact s1_none
theorem s1_inv1 (C : ix_Cx E) {i : Nat} (hd : decode (ix_cc (ix_Ej E)) pc = .ok (.invokespecial i, 3)) : ix_S1 E pc L st h (ix_inv pc 1 (ix_ca (ix_o (ix_Ej E)) i) L st h) := by
  unfold ix_inv
  split
  · rename_i k n tg hca
    rw [if_neg (by decide), if_pos rfl]
    refine s1_if (fun hk => ?_) (fun _ => s1_if (fun hk => ?_) (fun _ => s1_if (fun hk => ?_) (fun _ => s1_none)))
    · split
      · rename_i x j' y tg'
        have hj : j' < 236 := by
          have hchk := ix_ca_chk hca
          rcases hk with rfl | rfl
          · rw [ix_k1, List.all_cons] at hchk
            simp only [Bool.and_eq_true] at hchk
            exact (ix_mok_inv hchk.1.1.1).1
          · rw [ix_k2, List.all_cons] at hchk
            simp only [Bool.and_eq_true] at hchk
            exact (ix_mok_inv hchk.1.1.1.1).1
        refine s1_pop fun as r e hn hw => ?_
        split
        · rename_i b as'
          split
          · refine ⟨rfl, hj, fun d v h2 cells slots hM hm f1 f2 f3 f4 q => ?_⟩
            subst e
            exact sv_init C hk hd hca hM hm (by simpa using hn) hw f1 f2 f3 f4 q
          · exact s1_none
        · exact s1_none
      · exact s1_none
    · refine s1_pop fun as r e hn hw => ?_
      split
      · rename_i b as'
        refine s1_ovl fun c hc => s1_ovl fun q0 hq => ?_
        have hj : q0.2.1 < 236 := by
          have hchk := ix_ca_chk hca
          have hqm := List.mem_of_find?_eq_some hq
          rcases hk with rfl | rfl
          · rw [ix_k3] at hchk
            have := List.all_eq_true.mp hchk _ hqm
            simp only [Bool.and_eq_true] at this
            exact (ix_mok_inv this.1.1).1
          · rw [ix_k9] at hchk
            have := List.all_eq_true.mp hchk _ hqm
            simp only [Bool.and_eq_true] at this
            exact (ix_mok_inv this.1.1).1
        refine ⟨rfl, hj, fun d v h2 cells slots hM hm f1 f2 f3 f4 q => ?_⟩
        subst e
        exact sv_super C hk hd hca hc hq hM hm (by simpa using hn) hw f1 f2 f3 f4 q
      · exact s1_none
    · subst hk
      split
      · exact s1_if (fun hw => s1_nx fun c s _ _ q => sv_objInit C hd hca hw q) (fun _ => s1_none)
      · exact s1_none
  · exact s1_none
theorem s1_inv2 (C : ix_Cx E) {i : Nat} (hd : decode (ix_cc (ix_Ej E)) pc = .ok (.invokevirtual i, 3)) : ix_S1 E pc L st h (ix_inv pc 2 (ix_ca (ix_o (ix_Ej E)) i) L st h) := by
  unfold ix_inv
  split
  · rename_i k n tg hca
    rw [if_neg (by decide), if_neg (by decide)]
    refine s1_if (fun hk => ?_) (fun _ => s1_if (fun hk => ?_) (fun _ => s1_none))
    · subst hk
      refine s1_pop fun as r e hn hw => ?_
      split
      · rename_i b as'
        refine s1_ovl fun c hc => s1_ovl fun q0 hq => ?_
        have hj : q0.2.1 < 236 := by
          have hchk := ix_ca_chk hca
          have hqm := List.mem_of_find?_eq_some hq
          rw [ix_k4] at hchk
          have := List.all_eq_true.mp hchk _ hqm
          unfold ix_tchk at this
          simp only [Bool.and_eq_true] at this
          exact (ix_mok_inv this.1.1).1
        refine ⟨rfl, hj, fun d v h2 cells slots hM hm f1 f2 f3 f4 q => ?_⟩
        subst e
        exact sv_virt C hd hca hc hq hM hm (by simpa using hn) hw f1 f2 f3 f4 q
      · exact s1_none
    · subst hk
      split
      · rename_i x j' y tg'
        have hj : j' < 236 := by
          have hchk := ix_ca_chk hca
          rw [ix_k6, List.all_cons] at hchk
          simp only [Bool.and_eq_true] at hchk
          exact (ix_mok_inv hchk.1.1).1
        refine s1_pop fun as r e hn hw => ?_
        split
        · rename_i q as'
          refine s1_if (fun hc => ?_) (fun _ => s1_none)
          obtain ⟨t, ht, rfl⟩ : ∃ t, t < 6 ∧ q = 2 + 2 * t := ⟨(q - 2) / 2, by omega, by omega⟩
          refine ⟨rfl, hj, fun d v h2 cells slots hM hm f1 f2 f3 f4 q => ?_⟩
          subst e
          exact sv_text C ht hd hca hM hm (by simpa using hn) hw f1 f2 f3 f4 q
        · exact s1_none
      · exact s1_none
  · exact s1_none
set_option maxHeartbeats 4000000 in
theorem ix_one (C : ix_Cx E) : ix_S1 E pc L st h (ix_act (ix_EX E) (ix_Ej E) pc L st h) := by
  unfold ix_act
  cases hd : decode (ix_cc (ix_Ej E)) pc with
  | error _ => exact trivial
  | ok q =>
    obtain ⟨i, n⟩ := q
    refine s1_if (fun hn => ?_) (fun _ => s1_none)
    cases i with
    | aconst_null  =>
      obtain rfl : n = 1 := by simpa [ix_ln] using hn
      exact s1_nx fun c s _ _ q => sv_null C hd q
    | iconst k =>
      obtain rfl : n = 1 := by simpa [ix_ln] using hn
      exact s1_nx fun c s _ _ q => sv_iconst C hd q
    | bipush k =>
      obtain rfl : n = 2 := by simpa [ix_ln] using hn
      exact s1_nx fun c s _ _ q => sv_bipush C hd q
    | sipush k =>
      obtain rfl : n = 3 := by simpa [ix_ln] using hn
      exact s1_nx fun c s _ _ q => sv_sipush C hd q
    | lconst k =>
      obtain rfl : n = 1 := by simpa [ix_ln] using hn
      exact s1_nx fun c s _ _ q => sv_lconst C hd q
    | ldc k =>
      obtain rfl : n = 2 := by simpa [ix_ln] using hn
      refine s1_ovl fun v hv => s1_if (fun _ => s1_none) (fun hk => s1_nx fun c s _ _ q => sv_ldc C hd hv hk q)
    | ldc2_w k =>
      obtain rfl : n = 3 := by simpa [ix_ln] using hn
      refine s1_ovl fun v hv => s1_if (fun hk => s1_nx fun c s _ _ q => sv_ldc2 C hd hv hk q) (fun _ => s1_none)
    | iload k =>
      obtain rfl : n = 2 := by simpa [ix_ln] using hn
      refine s1_ld fun v hv hk => ?_
      cases v with
      | int x => exact s1_nx fun c s _ _ q => sv_iload C hd hv q
      | _ => simp [ix_kd] at hk
    | iload_n k =>
      obtain rfl : n = 1 := by simpa [ix_ln] using hn
      refine s1_ld fun v hv hk => ?_
      cases v with
      | int x => exact s1_nx fun c s _ _ q => sv_iload_n C hd hv q
      | _ => simp [ix_kd] at hk
    | lload k =>
      obtain rfl : n = 2 := by simpa [ix_ln] using hn
      refine s1_ld fun v hv hk => ?_
      cases v with
      | long x => exact s1_nx fun c s _ _ q => sv_lload C hd hv q
      | _ => simp [ix_kd] at hk
    | lload_n k =>
      obtain rfl : n = 1 := by simpa [ix_ln] using hn
      refine s1_ld fun v hv hk => ?_
      cases v with
      | long x => exact s1_nx fun c s _ _ q => sv_lload_n C hd hv q
      | _ => simp [ix_kd] at hk
    | aload k =>
      obtain rfl : n = 2 := by simpa [ix_ln] using hn
      exact s1_ld fun v hv hk => s1_nx fun c s _ _ q => sv_aload C hd hv hk q
    | aload_n k =>
      obtain rfl : n = 1 := by simpa [ix_ln] using hn
      exact s1_ld fun v hv hk => s1_nx fun c s _ _ q => sv_aload_n C hd hv hk q
    | istore k =>
      obtain rfl : n = 2 := by simpa [ix_ln] using hn
      simp only [ix_do]
      refine s1_so fun v r e hk _ hi h2 => ?_
      subst e
      cases v with
      | int x => exact s1_nx fun c s _ _ q => sv_istore C hd hi h2 q
      | _ => simp [ix_kd] at hk
    | istore_n k =>
      obtain rfl : n = 1 := by simpa [ix_ln] using hn
      simp only [ix_do]
      refine s1_so fun v r e hk _ hi h2 => ?_
      subst e
      cases v with
      | int x => exact s1_nx fun c s _ _ q => sv_istore_n C hd hi h2 q
      | _ => simp [ix_kd] at hk
    | astore k =>
      obtain rfl : n = 2 := by simpa [ix_ln] using hn
      simp only [ix_do]
      refine s1_so fun v r e hk _ hi h2 => ?_
      subst e
      exact s1_nx fun c s _ _ q => sv_astore C hd hk hi h2 q
    | astore_n k =>
      obtain rfl : n = 1 := by simpa [ix_ln] using hn
      simp only [ix_do]
      refine s1_so fun v r e hk _ hi h2 => ?_
      subst e
      exact s1_nx fun c s _ _ q => sv_astore_n C hd hk hi h2 q
    | lstore k =>
      obtain rfl : n = 2 := by simpa [ix_ln] using hn
      simp only [ix_do]
      refine s1_sl fun x r e hi h1 h2 => ?_
      subst e
      exact s1_nx fun c s _ _ q => sv_lstore C hd hi h1 h2 q
    | lstore_n k =>
      obtain rfl : n = 1 := by simpa [ix_ln] using hn
      simp only [ix_do]
      refine s1_sl fun x r e hi h1 h2 => ?_
      subst e
      exact s1_nx fun c s _ _ q => sv_lstore_n C hd hi h1 h2 q
    | iinc k m =>
      obtain rfl : n = 3 := by simpa [ix_ln] using hn
      refine s1_ld fun v hv hk => ?_
      cases v with
      | int x =>
        refine s1_so fun u r e hk2 _ hi h2 => ?_
        cases e
        exact s1_nx fun c s _ _ q => sv_iinc C hd hv h2 q
      | _ => simp [ix_kd] at hk
    | iadd  =>
      obtain rfl : n = 1 := by simpa [ix_ln] using hn
      refine s1_i2 fun x y r e => ?_
      subst e
      exact s1_nx fun c s _ _ q => sv_iadd C hd q
    | isub  =>
      obtain rfl : n = 1 := by simpa [ix_ln] using hn
      refine s1_i2 fun x y r e => ?_
      subst e
      exact s1_nx fun c s _ _ q => sv_isub C hd q
    | imul  =>
      obtain rfl : n = 1 := by simpa [ix_ln] using hn
      refine s1_i2 fun x y r e => ?_
      subst e
      exact s1_nx fun c s _ _ q => sv_imul C hd q
    | iand  =>
      obtain rfl : n = 1 := by simpa [ix_ln] using hn
      refine s1_i2 fun x y r e => ?_
      subst e
      exact s1_nx fun c s _ _ q => sv_iand C hd q
    | ior  =>
      obtain rfl : n = 1 := by simpa [ix_ln] using hn
      refine s1_i2 fun x y r e => ?_
      subst e
      exact s1_nx fun c s _ _ q => sv_ior C hd q
    | ixor  =>
      obtain rfl : n = 1 := by simpa [ix_ln] using hn
      refine s1_i2 fun x y r e => ?_
      subst e
      exact s1_nx fun c s _ _ q => sv_ixor C hd q
    | ishl  =>
      obtain rfl : n = 1 := by simpa [ix_ln] using hn
      refine s1_i2 fun x y r e => ?_
      subst e
      exact s1_nx fun c s _ _ q => sv_ishl C hd q
    | ishr  =>
      obtain rfl : n = 1 := by simpa [ix_ln] using hn
      refine s1_i2 fun x y r e => ?_
      subst e
      exact s1_nx fun c s _ _ q => sv_ishr C hd q
    | idiv  =>
      obtain rfl : n = 1 := by simpa [ix_ln] using hn
      refine s1_i2 fun x y r e => s1_if (fun _ => s1_none) (fun hy => ?_)
      subst e
      exact s1_nx fun c s _ _ q => sv_idiv C hd hy q
    | irem  =>
      obtain rfl : n = 1 := by simpa [ix_ln] using hn
      refine s1_i2 fun x y r e => s1_if (fun _ => s1_none) (fun hy => ?_)
      subst e
      exact s1_nx fun c s _ _ q => sv_irem C hd hy q
    | ineg  =>
      obtain rfl : n = 1 := by simpa [ix_ln] using hn
      refine s1_i1 fun x r e => ?_
      subst e
      exact s1_nx fun c s _ _ q => sv_ineg C hd q
    | i2l  =>
      obtain rfl : n = 1 := by simpa [ix_ln] using hn
      refine s1_i1 fun x r e => ?_
      subst e
      exact s1_nx fun c s _ _ q => sv_i2l C hd q
    | i2b  =>
      obtain rfl : n = 1 := by simpa [ix_ln] using hn
      refine s1_i1 fun x r e => ?_
      subst e
      exact s1_nx fun c s _ _ q => sv_i2b C hd q
    | i2c  =>
      obtain rfl : n = 1 := by simpa [ix_ln] using hn
      refine s1_i1 fun x r e => ?_
      subst e
      exact s1_nx fun c s _ _ q => sv_i2c C hd q
    | l2i  =>
      obtain rfl : n = 1 := by simpa [ix_ln] using hn
      refine s1_l1 fun x r e => ?_
      subst e
      exact s1_nx fun c s _ _ q => sv_l2i C hd q
    | ladd  =>
      obtain rfl : n = 1 := by simpa [ix_ln] using hn
      refine s1_l2 fun x y r e => ?_
      subst e
      exact s1_nx fun c s _ _ q => sv_ladd C hd q
    | land  =>
      obtain rfl : n = 1 := by simpa [ix_ln] using hn
      refine s1_l2 fun x y r e => ?_
      subst e
      exact s1_nx fun c s _ _ q => sv_land C hd q
    | lor  =>
      obtain rfl : n = 1 := by simpa [ix_ln] using hn
      refine s1_l2 fun x y r e => ?_
      subst e
      exact s1_nx fun c s _ _ q => sv_lor C hd q
    | lxor  =>
      obtain rfl : n = 1 := by simpa [ix_ln] using hn
      refine s1_l2 fun x y r e => ?_
      subst e
      exact s1_nx fun c s _ _ q => sv_lxor C hd q
    | lcmp  =>
      obtain rfl : n = 1 := by simpa [ix_ln] using hn
      refine s1_l2 fun x y r e => ?_
      subst e
      exact s1_nx fun c s _ _ q => sv_lcmp C hd q
    | ldiv  =>
      obtain rfl : n = 1 := by simpa [ix_ln] using hn
      refine s1_l2 fun x y r e => s1_if (fun _ => s1_none) (fun hy => ?_)
      subst e
      exact s1_nx fun c s _ _ q => sv_ldiv C hd hy q
    | lrem  =>
      obtain rfl : n = 1 := by simpa [ix_ln] using hn
      refine s1_l2 fun x y r e => s1_if (fun _ => s1_none) (fun hy => ?_)
      subst e
      exact s1_nx fun c s _ _ q => sv_lrem C hd hy q
    | lshl  =>
      obtain rfl : n = 1 := by simpa [ix_ln] using hn
      refine s1_li fun x y r e => ?_
      subst e
      exact s1_nx fun c s _ _ q => sv_lshl C hd q
    | lshr  =>
      obtain rfl : n = 1 := by simpa [ix_ln] using hn
      refine s1_li fun x y r e => ?_
      subst e
      exact s1_nx fun c s _ _ q => sv_lshr C hd q
    | dup  =>
      obtain rfl : n = 1 := by simpa [ix_ln] using hn
      simp only [ix_do]
      split
      · exact s1_if (fun hc => s1_nx fun c s _ _ q => sv_dup C hd hc q) (fun _ => s1_none)
      · exact s1_none
    | pop  =>
      obtain rfl : n = 1 := by simpa [ix_ln] using hn
      simp only [ix_do]
      split
      · exact s1_if (fun hc => s1_nx fun c s _ _ q => sv_pop C hd hc q) (fun _ => s1_none)
      · exact s1_none
    | dup_x1  =>
      obtain rfl : n = 1 := by simpa [ix_ln] using hn
      simp only [ix_do]
      split
      · exact s1_if (fun hc => s1_nx fun c s _ _ q => sv_dup_x1 C hd hc.1 hc.2 q) (fun _ => s1_none)
      · exact s1_none
    | dup2  =>
      obtain rfl : n = 1 := by simpa [ix_ln] using hn
      simp only [ix_do]
      split
      · exact s1_if (fun hc => s1_nx fun c s _ _ q => sv_dup2 C hd hc.1 hc.2 q) (fun _ => s1_none)
      · exact s1_none
    | goto off =>
      obtain rfl : n = 3 := by simpa [ix_ln] using hn
      exact s1_jmp fun t ht c s q => sv_goto C hd ht q
    | ifCond cc off =>
      obtain rfl : n = 3 := by simpa [ix_ln] using hn
      refine s1_ovl fun t ht => s1_i1 fun x r e => ?_
      have ht := ix_tg_eq ht
      subst e
      cases cc with
      | eq => exact s1_if (fun hc => s1_nx fun c s _ _ q => sv_if_eq C hd ht (fun _ => q) (fun z => absurd (of_decide_eq_true hc) z)) (fun hc => s1_nx fun c s _ _ q => sv_if_eq C hd ht (fun z => absurd (decide_eq_true z) hc) (fun _ => q))
      | ne => exact s1_if (fun hc => s1_nx fun c s _ _ q => sv_if_ne C hd ht (fun _ => q) (fun z => absurd z (of_decide_eq_true hc))) (fun hc => s1_nx fun c s _ _ q => sv_if_ne C hd ht (fun z => absurd (decide_eq_true z) hc) (fun _ => q))
      | lt => exact s1_if (fun hc => s1_nx fun c s _ _ q => sv_if_lt C hd ht (fun _ => q) (fun z => absurd (of_decide_eq_true hc) z)) (fun hc => s1_nx fun c s _ _ q => sv_if_lt C hd ht (fun z => absurd (decide_eq_true z) hc) (fun _ => q))
      | ge => exact s1_if (fun hc => s1_nx fun c s _ _ q => sv_if_ge C hd ht (fun _ => q) (fun z => absurd (of_decide_eq_true hc) z)) (fun hc => s1_nx fun c s _ _ q => sv_if_ge C hd ht (fun z => absurd (decide_eq_true z) hc) (fun _ => q))
      | gt => exact s1_if (fun hc => s1_nx fun c s _ _ q => sv_if_gt C hd ht (fun _ => q) (fun z => absurd (of_decide_eq_true hc) z)) (fun hc => s1_nx fun c s _ _ q => sv_if_gt C hd ht (fun z => absurd (decide_eq_true z) hc) (fun _ => q))
      | le => exact s1_if (fun hc => s1_nx fun c s _ _ q => sv_if_le C hd ht (fun _ => q) (fun z => absurd (of_decide_eq_true hc) z)) (fun hc => s1_nx fun c s _ _ q => sv_if_le C hd ht (fun z => absurd (decide_eq_true z) hc) (fun _ => q))
    | if_icmp cc off =>
      obtain rfl : n = 3 := by simpa [ix_ln] using hn
      refine s1_ovl fun t ht => s1_i2 fun x y r e => ?_
      have ht := ix_tg_eq ht
      subst e
      cases cc with
      | eq => exact s1_if (fun hc => s1_nx fun c s _ _ q => sv_icmp_eq C hd ht (fun _ => q) (fun z => absurd (of_decide_eq_true hc) z)) (fun hc => s1_nx fun c s _ _ q => sv_icmp_eq C hd ht (fun z => absurd (decide_eq_true z) hc) (fun _ => q))
      | ne => exact s1_if (fun hc => s1_nx fun c s _ _ q => sv_icmp_ne C hd ht (fun _ => q) (fun z => absurd z (of_decide_eq_true hc))) (fun hc => s1_nx fun c s _ _ q => sv_icmp_ne C hd ht (fun z => absurd (decide_eq_true z) hc) (fun _ => q))
      | lt => exact s1_if (fun hc => s1_nx fun c s _ _ q => sv_icmp_lt C hd ht (fun _ => q) (fun z => absurd (of_decide_eq_true hc) z)) (fun hc => s1_nx fun c s _ _ q => sv_icmp_lt C hd ht (fun z => absurd (decide_eq_true z) hc) (fun _ => q))
      | ge => exact s1_if (fun hc => s1_nx fun c s _ _ q => sv_icmp_ge C hd ht (fun _ => q) (fun z => absurd (of_decide_eq_true hc) z)) (fun hc => s1_nx fun c s _ _ q => sv_icmp_ge C hd ht (fun z => absurd (decide_eq_true z) hc) (fun _ => q))
      | gt => exact s1_if (fun hc => s1_nx fun c s _ _ q => sv_icmp_gt C hd ht (fun _ => q) (fun z => absurd (of_decide_eq_true hc) z)) (fun hc => s1_nx fun c s _ _ q => sv_icmp_gt C hd ht (fun z => absurd (decide_eq_true z) hc) (fun _ => q))
      | le => exact s1_if (fun hc => s1_nx fun c s _ _ q => sv_icmp_le C hd ht (fun _ => q) (fun z => absurd (of_decide_eq_true hc) z)) (fun hc => s1_nx fun c s _ _ q => sv_icmp_le C hd ht (fun z => absurd (decide_eq_true z) hc) (fun _ => q))
    | ifnull off =>
      obtain rfl : n = 3 := by simpa [ix_ln] using hn
      simp only [ix_do]
      split
      · exact s1_jmp fun t ht c s q => sv_ifnullN C hd ht q
      · exact s1_nx fun c s _ _ q => sv_ifnull C hd q
      · exact s1_none
    | ifnonnull off =>
      obtain rfl : n = 3 := by simpa [ix_ln] using hn
      simp only [ix_do]
      split
      · exact s1_nx fun c s _ _ q => sv_ifnonnullN C hd q
      · exact s1_jmp fun t ht c s q => sv_ifnonnull C hd ht q
      · exact s1_none
    | tableswitch dd lo hi offs =>
      refine s1_i1 fun x r e => ?_
      subst e
      refine s1_if (fun hx => s1_jmp fun t ht c s q => sv_tabOut C hd hx ht q) (fun hx => s1_ovl fun off ho => s1_jmp fun t ht c s q => sv_tabIn C hd (fun z => hx (Or.inl z)) (fun z => hx (Or.inr z)) ho ht q)
    | lookupswitch dd ps =>
      refine s1_i1 fun x r e => ?_
      subst e
      exact s1_if (fun hp => s1_jmp fun t ht c s q => sv_lookup C hd hp ht q) (fun _ => s1_none)
    | getstatic k =>
      obtain rfl : n = 3 := by simpa [ix_ln] using hn
      exact s1_ovl fun v hv => s1_nx fun c s _ _ q => sv_getstatic C hd hv q
    | getfield k =>
      obtain rfl : n = 3 := by simpa [ix_ln] using hn
      simp only [ix_do]
      split
      · rename_i r st'
        exact s1_ovl fun e he => s1_if (fun hk => s1_ovl fun v hv => s1_nx fun c s _ _ q => sv_getfield C hd he hk hv q) (fun _ => s1_none)
      · rename_i q0 st'
        refine s1_if (fun hc => ?_) (fun _ => s1_none)
        obtain ⟨t, ht, rfl⟩ : ∃ t, t < 6 ∧ q0 = 2 + 2 * t := ⟨(q0 - 2) / 2, by omega, by omega⟩
        refine s1_ovl fun e he => s1_if (fun hk => ?_) (fun _ => s1_if (fun hk => s1_nx fun c s _ _ q => sv_tcoder C ht hd he hk q) (fun _ => s1_none))
        rw [show 2 + 2 * t + 1 = 3 + 2 * t by omega]
        exact s1_nx fun c s _ _ q => sv_tvalue C ht hd he hk q
      · exact s1_none
    | putfield k =>
      obtain rfl : n = 3 := by simpa [ix_ln] using hn
      simp only [ix_do]
      split
      · rename_i v r st'
        refine s1_ovl fun e he => s1_if (fun hk => s1_ohp fun h' hh => ?_) (fun _ => s1_none)
        obtain ⟨c0, fs, h1, -, h3, -, -, e9⟩ := ix_pf_inv hh
        exact s1_up (by rw [e9, ix_up, List.length_set]) (by rw [e9]; exact ix_hz_up h1 (by simp [ix_cz])) fun c s q => sv_putfield C hd he hk hh q
      · exact s1_none
    | iaload  =>
      obtain rfl : n = 1 := by simpa [ix_ln] using hn
      simp only [ix_do]
      split
      · exact s1_ovl fun x hx => s1_nx fun c s _ _ q => sv_iaload C hd hx q
      · exact s1_if (fun hc => s1_nx fun c s _ _ q => sv_saload C hd hc.1 hc.2 q) (fun _ => s1_none)
      · exact s1_none
    | baload  =>
      obtain rfl : n = 1 := by simpa [ix_ln] using hn
      simp only [ix_do]
      split
      · exact s1_ovl fun x hx => s1_nx fun c s _ _ q => sv_baload C hd hx q
      · exact s1_ovl fun x hx => s1_nx fun c s _ _ q => sv_tbaload C hd hx q
      · exact s1_none
    | aaload  =>
      obtain rfl : n = 1 := by simpa [ix_ln] using hn
      simp only [ix_do]
      split
      · exact s1_ovl fun x hx => s1_nx fun c s _ _ q => sv_aaload C hd hx q
      · exact s1_none
    | iastore  =>
      obtain rfl : n = 1 := by simpa [ix_ln] using hn
      simp only [ix_do]
      split
      · refine s1_ohp fun h' hh => ?_
        obtain ⟨n0, f, h1, -, e9⟩ := ix_wa_inv hh
        exact s1_up (by rw [e9, ix_up, List.length_set]) (by rw [e9]; exact ix_hz_up h1 rfl) fun c s q => sv_iastore C hd hh q
      · exact s1_none
    | bastore  =>
      obtain rfl : n = 1 := by simpa [ix_ln] using hn
      simp only [ix_do]
      split
      · refine s1_if (fun hx => s1_ohp fun h' hh => ?_) (fun _ => s1_none)
        obtain ⟨n0, f, h1, -, e9⟩ := ix_wa_inv hh
        exact s1_up (by rw [e9, ix_up, List.length_set]) (by rw [e9]; exact ix_hz_up h1 rfl) fun c s q => sv_bastore C hd hx hh q
      · exact s1_none
    | aastore  =>
      obtain rfl : n = 1 := by simpa [ix_ln] using hn
      simp only [ix_do]
      split
      · refine s1_ohp fun h' hh => ?_
        obtain ⟨t, n0, f, c0, fs, h1, -, -, -, e9⟩ := ix_wq_inv hh
        exact s1_up (by rw [e9, ix_up, List.length_set]) (by rw [e9]; exact ix_hz_up h1 rfl) fun c s q => sv_aastore C hd hh q
      · exact s1_none
    | arraylength  =>
      obtain rfl : n = 1 := by simpa [ix_ln] using hn
      simp only [ix_do]
      split
      · exact s1_ovl fun x hx => s1_nx fun c s _ _ q => sv_alen C hd hx q
      · rename_i q0 r
        refine s1_if (fun hc => ?_) (fun _ => s1_if (fun hc => ?_) (fun _ => s1_none))
        · subst hc
          exact s1_nx fun c s _ _ q => sv_slen C hd q
        · obtain ⟨t, ht, rfl⟩ : ∃ t, t < 6 ∧ q0 = 3 + 2 * t := ⟨(q0 - 3) / 2, by omega, by omega⟩
          rw [show (3 + 2 * t - 3) / 2 = t by omega]
          exact s1_nx fun c s _ _ q => sv_tlen C ht hd q
      · exact s1_none
    | newarray ty =>
      obtain rfl : n = 2 := by simpa [ix_ln] using hn
      refine s1_i1 fun x r e => s1_if (fun hc => ?_) (fun _ => s1_none)
      subst e
      cases ty with
      | int => exact s1_new rfl fun c s f1 f2 q => sv_newint C hd hc.1 hc.2 f1 f2 q
      | boolean => exact s1_new rfl fun c s f1 f2 q => sv_newbool C hd hc.1 hc.2 f1 f2 q
      | _ => exact s1_none
    | anewarray k =>
      obtain rfl : n = 3 := by simpa [ix_ln] using hn
      refine s1_i1 fun x r e => s1_if (fun hc => s1_ovl fun t ht => ?_) (fun _ => s1_none)
      subst e
      exact s1_new rfl fun c s f1 f2 q => sv_anew C hd ht hc.1 hc.2 f1 f2 q
    | new k =>
      obtain rfl : n = 3 := by simpa [ix_ln] using hn
      exact s1_ovl fun t ht => s1_new (by simp [ix_cz]) fun c s f1 f2 q => sv_new C hd ht f1 f2 q
    | instanceof k =>
      obtain rfl : n = 3 := by simpa [ix_ln] using hn
      simp only [ix_do]
      split
      · exact s1_ovl fun e he => s1_ovl fun c0 hc => s1_if (fun hm => s1_nx fun c s _ _ q => sv_instYes C hd he hc hm q) (fun _ => s1_if (fun hm => s1_nx fun c s _ _ q => sv_instNo C hd he hc hm q) (fun _ => s1_none))
      · exact s1_none
    | checkcast k =>
      obtain rfl : n = 3 := by simpa [ix_ln] using hn
      simp only [ix_do]
      split
      · exact s1_ovl fun e he => s1_ovl fun c0 hc => s1_if (fun hm => s1_nx fun c s _ _ q => sv_cast C hd he hc hm q) (fun _ => s1_none)
      · exact s1_none
    | invokestatic k =>
      obtain rfl : n = 3 := by simpa [ix_ln] using hn
      exact s1_inv0 C hd
    | invokespecial k =>
      obtain rfl : n = 3 := by simpa [ix_ln] using hn
      exact s1_inv1 C hd
    | invokevirtual k =>
      obtain rfl : n = 3 := by simpa [ix_ln] using hn
      exact s1_inv2 C hd
    | ireturn  =>
      obtain rfl : n = 1 := by simpa [ix_ln] using hn
      simp only [ix_do, ix_retI]
      split
      · split
        · rename_i ty hty
          exact s1_if (fun hc => ⟨rfl, hd, ty, hty, hc⟩) (fun _ => s1_none)
        · exact s1_none
      · exact s1_none
    | lreturn  =>
      obtain rfl : n = 1 := by simpa [ix_ln] using hn
      simp only [ix_do]
      split
      · exact s1_if (fun hc => ⟨rfl, hd, hc⟩) (fun _ => s1_none)
      · exact s1_none
    | areturn  =>
      obtain rfl : n = 1 := by simpa [ix_ln] using hn
      simp only [ix_do, ix_retA]
      split
      · rename_i v
        refine s1_if (fun hk => ?_) (fun _ => s1_none)
        cases v with
        | null =>
          simp only
          split
          · rename_i nn hnn
            exact ⟨rfl, hd, Or.inl rfl, nn, hnn⟩
          · exact s1_none
        | ref a =>
          simp only
          split
          · rename_i nn hnn
            exact ⟨rfl, hd, Or.inr ⟨a, rfl⟩, nn, hnn⟩
          · exact s1_none
        | retAddr q => exact s1_none
        | _ => simp [ix_kd] at hk
      · exact s1_none
    | return_  =>
      obtain rfl : n = 1 := by simpa [ix_ln] using hn
      simp only [ix_do]
      split
      · exact s1_if (fun hc => ⟨rfl, hd, hc⟩) (fun _ => s1_none)
      · exact s1_none
    | _ => exact trivial
end ONE
