/-! ===== the rows of the instructions, in the interpreter's words ===== -/
abbrev ix_E : Type := Program × Launch × Env × Room × State × MethodId × Array Value × List Frame × Method × Code × (State → Prop) × Nat × Nat × va_G × (Nat → ClassId) × (Nat → Value) × ix_X
abbrev ix_Ej (E : ix_E) : Nat := E.2.2.2.2.2.2.2.2.2.2.2.1
abbrev ix_ER (E : ix_E) : Room := E.2.2.2.1
abbrev ix_EX (E : ix_E) : ix_X := E.2.2.2.2.2.2.2.2.2.2.2.2.2.2.2.2
def ix_Cx (E : ix_E) : Prop := match E with
  | (p, _, _, R, s, m, args, _, meth, c, _, j, base, D, ca, κ, X) => p.tables.exec = Jvm.exec ∧ c.code = ix_cc j ∧ c.maxLocals = ix_mx j ∧ s.vm.findClass (ix_R (ix_o j)) = some m.cls ∧ (∀ w ∈ ix_W, w.before args s = true) ∧ ix_G base D ca κ X s s.heap ∧ base ≤ s.heap.size ∧ ((ix_y j).name = "<init>" → meth.name = "<init>") ∧ 1 ≤ R.frames ∧ 40 ≤ R.locals
def ix_V (E : ix_E) (cells slots pc : Nat) (L : ix_L) (st : List Value) (h : ix_H) : Prop := match E with
  | (p, l, e, R, s, m, args, below, meth, c, Q, j, base, D, ca, κ, _) => s.heap.size + cells = base + h.length → ∀ (H : Heap) (locs : List Loc) (ls : Array Slot), va_P D ix_cl (ix_ws base ca κ h) H → va_S (fun q => base ≤ q) s.heap H locs → ix_lh base κ j L ls →
    W p l e R s m args below meth c H locs cells slots Q (F0 m pc ls (st.map (ix_tv base κ)))
theorem ix_Wsz {p : Program} {l : Launch} {e : Env} {R : Room} {s : State} {m : MethodId} {args : Array Value} {below : List Frame} {meth : Method} {c : Code} {H : Heap} {locs : List Loc} {cells slots : Nat} {Q : State → Prop} {g : JFrame} (k : H.size ≤ s.heap.size + cells → W p l e R s m args below meth c H locs cells slots Q g) : W p l e R s m args below meth c H locs cells slots Q g := fun T hT X => k (hT ▸ X.heapSize) T hT X
section VROWS
variable {E : ix_E} {cells slots pc : Nat} {L : ix_L} {st : List Value} {h : ix_H}
theorem sv_null (C : ix_Cx E) (hd : decode (ix_cc (ix_Ej E)) pc = .ok (.aconst_null, 1)) (k : ix_V E cells slots (pc + 1) L (.null :: st) (h)) : ix_V E cells slots pc L (st) (h) := by
  obtain ⟨p, l, e, R, s, m, args, below, meth, c, Q, j, base, D, ca, κ, X⟩ := E
  intro hz H locs ls hP hS hl
  exact lv_null C.1 C.2.1 hd (k hz H locs ls hP hS hl)
theorem sv_iconst (C : ix_Cx E) {n : Int} (hd : decode (ix_cc (ix_Ej E)) pc = .ok (.iconst n, 1)) (k : ix_V E cells slots (pc + 1) L (.int (Int32.ofInt n) :: st) (h)) : ix_V E cells slots pc L (st) (h) := by
  obtain ⟨p, l, e, R, s, m, args, below, meth, c, Q, j, base, D, ca, κ, X⟩ := E
  intro hz H locs ls hP hS hl
  exact lv_iconst C.1 C.2.1 hd rfl (k hz H locs ls hP hS hl)
theorem sv_bipush (C : ix_Cx E) {n : Int} (hd : decode (ix_cc (ix_Ej E)) pc = .ok (.bipush n, 2)) (k : ix_V E cells slots (pc + 2) L (.int (Int8.ofInt n).toInt32 :: st) (h)) : ix_V E cells slots pc L (st) (h) := by
  obtain ⟨p, l, e, R, s, m, args, below, meth, c, Q, j, base, D, ca, κ, X⟩ := E
  intro hz H locs ls hP hS hl
  exact lv_bipush C.1 C.2.1 hd rfl (k hz H locs ls hP hS hl)
theorem sv_sipush (C : ix_Cx E) {n : Int} (hd : decode (ix_cc (ix_Ej E)) pc = .ok (.sipush n, 3)) (k : ix_V E cells slots (pc + 3) L (.int (Int16.ofInt n).toInt32 :: st) (h)) : ix_V E cells slots pc L (st) (h) := by
  obtain ⟨p, l, e, R, s, m, args, below, meth, c, Q, j, base, D, ca, κ, X⟩ := E
  intro hz H locs ls hP hS hl
  exact lv_sipush C.1 C.2.1 hd rfl (k hz H locs ls hP hS hl)
theorem sv_lconst (C : ix_Cx E) {n : Fin 2} (hd : decode (ix_cc (ix_Ej E)) pc = .ok (.lconst n, 1)) (k : ix_V E cells slots (pc + 1) L (.long (Int64.ofNat (n : Nat)) :: st) (h)) : ix_V E cells slots pc L (st) (h) := by
  obtain ⟨p, l, e, R, s, m, args, below, meth, c, Q, j, base, D, ca, κ, X⟩ := E
  intro hz H locs ls hP hS hl
  exact lv_lconst C.1 C.2.1 hd rfl (k hz H locs ls hP hS hl)
theorem sv_iload_n (C : ix_Cx E) {i : Fin 4} {x : Int32} (hd : decode (ix_cc (ix_Ej E)) pc = .ok (.iload_n i, 1)) (hx : L[(i : Nat)]? = some (some (.int x))) (k : ix_V E cells slots (pc + 1) L (.int x :: st) (h)) : ix_V E cells slots pc L (st) (h) := by
  obtain ⟨p, l, e, R, s, m, args, below, meth, c, Q, j, base, D, ca, κ, X⟩ := E
  intro hz H locs ls hP hS hl
  exact lv_iload_n C.1 C.2.1 hd rfl (hl.2.2.2.1 _ _ hx) (k hz H locs ls hP hS hl)
theorem sv_iload (C : ix_Cx E) {i : Nat} {x : Int32} (hd : decode (ix_cc (ix_Ej E)) pc = .ok (.iload i, 2)) (hx : L[i]? = some (some (.int x))) (k : ix_V E cells slots (pc + 2) L (.int x :: st) (h)) : ix_V E cells slots pc L (st) (h) := by
  obtain ⟨p, l, e, R, s, m, args, below, meth, c, Q, j, base, D, ca, κ, X⟩ := E
  intro hz H locs ls hP hS hl
  exact lv_iload C.1 C.2.1 hd (hl.2.2.2.1 _ _ hx) (k hz H locs ls hP hS hl)
theorem sv_lload_n (C : ix_Cx E) {i : Fin 4} {x : Int64} (hd : decode (ix_cc (ix_Ej E)) pc = .ok (.lload_n i, 1)) (hx : L[(i : Nat)]? = some (some (.long x))) (k : ix_V E cells slots (pc + 1) L (.long x :: st) (h)) : ix_V E cells slots pc L (st) (h) := by
  obtain ⟨p, l, e, R, s, m, args, below, meth, c, Q, j, base, D, ca, κ, X⟩ := E
  intro hz H locs ls hP hS hl
  exact lv_lload_n C.1 C.2.1 hd rfl (hl.2.2.2.1 _ _ hx) (k hz H locs ls hP hS hl)
theorem sv_lload (C : ix_Cx E) {i : Nat} {x : Int64} (hd : decode (ix_cc (ix_Ej E)) pc = .ok (.lload i, 2)) (hx : L[i]? = some (some (.long x))) (k : ix_V E cells slots (pc + 2) L (.long x :: st) (h)) : ix_V E cells slots pc L (st) (h) := by
  obtain ⟨p, l, e, R, s, m, args, below, meth, c, Q, j, base, D, ca, κ, X⟩ := E
  intro hz H locs ls hP hS hl
  exact lv_lload C.1 C.2.1 hd (hl.2.2.2.1 _ _ hx) (k hz H locs ls hP hS hl)
theorem sv_aload_n (C : ix_Cx E) {i : Fin 4} {v : Value} (hd : decode (ix_cc (ix_Ej E)) pc = .ok (.aload_n i, 1)) (hx : L[(i : Nat)]? = some (some v)) (hv : ix_kd v = 2) (k : ix_V E cells slots (pc + 1) L (v :: st) (h)) : ix_V E cells slots pc L (st) (h) := by
  obtain ⟨p, l, e, R, s, m, args, below, meth, c, Q, j, base, D, ca, κ, X⟩ := E
  intro hz H locs ls hP hS hl
  have hv0 := hl.2.2.2.1 _ _ hx
  have hk := k hz H locs ls hP hS hl
  have hv2 : ix_tv base κ v = .null ∨ ∃ a : Nat, ix_tv base κ v = .ref a := by
    cases v with
    | null => exact Or.inl rfl
    | ref a => exact Or.inr ⟨_, rfl⟩
    | retAddr q => exact C.2.2.2.2.2.1.2.2.2.2.2.2.2.2.2 q
    | _ => simp [ix_kd] at hv
  rw [List.map_cons] at hk
  rcases hv2 with e1 | ⟨a, e1⟩
  · rw [e1] at hk hv0
    exact lv_aload_nN C.1 C.2.1 hd rfl hv0 hk
  · rw [e1] at hk hv0
    exact lv_aload_n C.1 C.2.1 hd rfl hv0 hk
theorem sv_aload (C : ix_Cx E) {i : Nat} {v : Value} (hd : decode (ix_cc (ix_Ej E)) pc = .ok (.aload i, 2)) (hx : L[i]? = some (some v)) (hv : ix_kd v = 2) (k : ix_V E cells slots (pc + 2) L (v :: st) (h)) : ix_V E cells slots pc L (st) (h) := by
  obtain ⟨p, l, e, R, s, m, args, below, meth, c, Q, j, base, D, ca, κ, X⟩ := E
  intro hz H locs ls hP hS hl
  have hv0 := hl.2.2.2.1 _ _ hx
  have hk := k hz H locs ls hP hS hl
  have hv2 : ix_tv base κ v = .null ∨ ∃ a : Nat, ix_tv base κ v = .ref a := by
    cases v with
    | null => exact Or.inl rfl
    | ref a => exact Or.inr ⟨_, rfl⟩
    | retAddr q => exact C.2.2.2.2.2.1.2.2.2.2.2.2.2.2.2 q
    | _ => simp [ix_kd] at hv
  rw [List.map_cons] at hk
  rcases hv2 with e1 | ⟨a, e1⟩
  · rw [e1] at hk hv0
    exact lv_aloadN C.1 C.2.1 hd hv0 hk
  · rw [e1] at hk hv0
    exact lv_aload C.1 C.2.1 hd hv0 hk
theorem sv_istore_n (C : ix_Cx E) {i : Fin 4} {x : Int32} (hd : decode (ix_cc (ix_Ej E)) pc = .ok (.istore_n i, 1)) (hi : (i : Nat) < L.length) (h2 : ∀ q ∈ ix_lg (ix_Ej E), q + 1 ≠ (i : Nat)) (k : ix_V E cells slots (pc + 1) (L.set (i : Nat) (some (.int x))) (st) (h)) : ix_V E cells slots pc L (.int x :: st) (h) := by
  obtain ⟨p, l, e, R, s, m, args, below, meth, c, Q, j, base, D, ca, κ, X⟩ := E
  intro hz H locs ls hP hS hl
  exact lv_istore_n C.1 C.2.1 hd rfl hl.has (by rw [← hl.2.2.1]; exact hi) rfl fun ls' hl' => k hz H locs ls' hP hS (hl.set1 C.2.2.2.2.2.1.2.2.2.2.2.2.2.2.2 rfl rfl h2 hl')
theorem sv_istore (C : ix_Cx E) {i : Nat} {x : Int32} (hd : decode (ix_cc (ix_Ej E)) pc = .ok (.istore i, 2)) (hi : i < L.length) (h2 : ∀ q ∈ ix_lg (ix_Ej E), q + 1 ≠ i) (k : ix_V E cells slots (pc + 2) (L.set i (some (.int x))) (st) (h)) : ix_V E cells slots pc L (.int x :: st) (h) := by
  obtain ⟨p, l, e, R, s, m, args, below, meth, c, Q, j, base, D, ca, κ, X⟩ := E
  intro hz H locs ls hP hS hl
  exact lv_istore C.1 C.2.1 hd hl.has (by rw [← hl.2.2.1]; exact hi) rfl fun ls' hl' => k hz H locs ls' hP hS (hl.set1 C.2.2.2.2.2.1.2.2.2.2.2.2.2.2.2 rfl rfl h2 hl')
theorem sv_lstore_n (C : ix_Cx E) {i : Fin 4} {x : Int64} (hd : decode (ix_cc (ix_Ej E)) pc = .ok (.lstore_n i, 1)) (hi : (i : Nat) + 1 < L.length) (h1 : (i : Nat) ∈ ix_lg (ix_Ej E)) (h2 : ∀ q ∈ ix_lg (ix_Ej E), q + 1 ≠ (i : Nat)) (k : ix_V E cells slots (pc + 1) ((L.set (i : Nat) (some (.long x))).set ((i : Nat) + 1) none) (st) (h)) : ix_V E cells slots pc L (.long x :: st) (h) := by
  obtain ⟨p, l, e, R, s, m, args, below, meth, c, Q, j, base, D, ca, κ, X⟩ := E
  intro hz H locs ls hP hS hl
  exact lv_lstore_n C.1 C.2.1 hd rfl hl.has (by rw [← hl.2.2.1]; exact hi) rfl fun ls' hl' => k hz H locs ls' hP hS (hl.set2 C.2.2.2.2.2.1.2.2.2.2.2.2.2.2.2 h1 h2 hl')
theorem sv_lstore (C : ix_Cx E) {i : Nat} {x : Int64} (hd : decode (ix_cc (ix_Ej E)) pc = .ok (.lstore i, 2)) (hi : i + 1 < L.length) (h1 : i ∈ ix_lg (ix_Ej E)) (h2 : ∀ q ∈ ix_lg (ix_Ej E), q + 1 ≠ i) (k : ix_V E cells slots (pc + 2) ((L.set i (some (.long x))).set (i + 1) none) (st) (h)) : ix_V E cells slots pc L (.long x :: st) (h) := by
  obtain ⟨p, l, e, R, s, m, args, below, meth, c, Q, j, base, D, ca, κ, X⟩ := E
  intro hz H locs ls hP hS hl
  exact lv_lstore C.1 C.2.1 hd hl.has (by rw [← hl.2.2.1]; exact hi) rfl fun ls' hl' => k hz H locs ls' hP hS (hl.set2 C.2.2.2.2.2.1.2.2.2.2.2.2.2.2.2 h1 h2 hl')
theorem sv_astore_n (C : ix_Cx E) {i : Fin 4} {v : Value} (hd : decode (ix_cc (ix_Ej E)) pc = .ok (.astore_n i, 1)) (hv : ix_kd v = 2) (hi : (i : Nat) < L.length) (h2 : ∀ q ∈ ix_lg (ix_Ej E), q + 1 ≠ (i : Nat)) (k : ix_V E cells slots (pc + 1) (L.set (i : Nat) (some v)) (st) (h)) : ix_V E cells slots pc L (v :: st) (h) := by
  obtain ⟨p, l, e, R, s, m, args, below, meth, c, Q, j, base, D, ca, κ, X⟩ := E
  intro hz H locs ls hP hS hl
  have hκ := C.2.2.2.2.2.1.2.2.2.2.2.2.2.2.2
  have hc : v.category = 1 := by cases v <;> first | rfl | simp [ix_kd] at hv
  have hv2 : ix_tv base κ v = .null ∨ ∃ a : Nat, ix_tv base κ v = .ref a := by
    cases v with
    | null => exact Or.inl rfl
    | ref a => exact Or.inr ⟨_, rfl⟩
    | retAddr q => exact hκ q
    | _ => simp [ix_kd] at hv
  rw [List.map_cons]
  rcases hv2 with e1 | ⟨a, e1⟩
  · rw [e1]
    exact lv_astore_nN C.1 C.2.1 hd rfl hl.has (by rw [← hl.2.2.1]; exact hi) rfl fun ls' hl' => k hz H locs ls' hP hS (hl.set1 hκ e1.symm hc h2 hl')
  · rw [e1]
    exact lv_astore_n C.1 C.2.1 hd rfl hl.has (by rw [← hl.2.2.1]; exact hi) rfl fun ls' hl' => k hz H locs ls' hP hS (hl.set1 hκ e1.symm hc h2 hl')
theorem sv_astore (C : ix_Cx E) {i : Nat} {v : Value} (hd : decode (ix_cc (ix_Ej E)) pc = .ok (.astore i, 2)) (hv : ix_kd v = 2) (hi : i < L.length) (h2 : ∀ q ∈ ix_lg (ix_Ej E), q + 1 ≠ i) (k : ix_V E cells slots (pc + 2) (L.set i (some v)) (st) (h)) : ix_V E cells slots pc L (v :: st) (h) := by
  obtain ⟨p, l, e, R, s, m, args, below, meth, c, Q, j, base, D, ca, κ, X⟩ := E
  intro hz H locs ls hP hS hl
  have hκ := C.2.2.2.2.2.1.2.2.2.2.2.2.2.2.2
  have hc : v.category = 1 := by cases v <;> first | rfl | simp [ix_kd] at hv
  have hv2 : ix_tv base κ v = .null ∨ ∃ a : Nat, ix_tv base κ v = .ref a := by
    cases v with
    | null => exact Or.inl rfl
    | ref a => exact Or.inr ⟨_, rfl⟩
    | retAddr q => exact hκ q
    | _ => simp [ix_kd] at hv
  rw [List.map_cons]
  rcases hv2 with e1 | ⟨a, e1⟩
  · rw [e1]
    exact lv_astoreN C.1 C.2.1 hd hl.has (by rw [← hl.2.2.1]; exact hi) rfl fun ls' hl' => k hz H locs ls' hP hS (hl.set1 hκ e1.symm hc h2 hl')
  · rw [e1]
    exact lv_astore C.1 C.2.1 hd hl.has (by rw [← hl.2.2.1]; exact hi) rfl fun ls' hl' => k hz H locs ls' hP hS (hl.set1 hκ e1.symm hc h2 hl')
theorem sv_iinc (C : ix_Cx E) {i : Nat} {n : Int} {x : Int32} (hd : decode (ix_cc (ix_Ej E)) pc = .ok (.iinc i n, 3)) (hx : L[i]? = some (some (.int x))) (h2 : ∀ q ∈ ix_lg (ix_Ej E), q + 1 ≠ i) (k : ix_V E cells slots (pc + 3) (L.set i (some (.int (x + Int32.ofInt n)))) (st) (h)) : ix_V E cells slots pc L (st) (h) := by
  obtain ⟨p, l, e, R, s, m, args, below, meth, c, Q, j, base, D, ca, κ, X⟩ := E
  intro hz H locs ls hP hS hl
  obtain ⟨a, ha⟩ := List.getElem?_of_mem (ix_lv_mem (base := base) (κ := κ) hx)
  exact lv_iinc C.1 C.2.1 hd hl.has ha rfl (by rw [← hl.2.2.1]; exact (List.getElem?_eq_some_iff.mp hx).1) rfl fun ls' hl' => k hz H locs ls' hP hS (hl.set1 C.2.2.2.2.2.1.2.2.2.2.2.2.2.2.2 rfl rfl h2 hl')
theorem sv_iadd (C : ix_Cx E) {x y : Int32} (hd : decode (ix_cc (ix_Ej E)) pc = .ok (.iadd, 1)) (k : ix_V E cells slots (pc + 1) L (.int (x + y) :: st) (h)) : ix_V E cells slots pc L (.int y :: .int x :: st) (h) := by
  obtain ⟨p, l, e, R, s, m, args, below, meth, c, Q, j, base, D, ca, κ, X⟩ := E
  intro hz H locs ls hP hS hl
  exact lv_iadd C.1 C.2.1 hd (k hz H locs ls hP hS hl)
theorem sv_isub (C : ix_Cx E) {x y : Int32} (hd : decode (ix_cc (ix_Ej E)) pc = .ok (.isub, 1)) (k : ix_V E cells slots (pc + 1) L (.int (x - y) :: st) (h)) : ix_V E cells slots pc L (.int y :: .int x :: st) (h) := by
  obtain ⟨p, l, e, R, s, m, args, below, meth, c, Q, j, base, D, ca, κ, X⟩ := E
  intro hz H locs ls hP hS hl
  exact lv_isub C.1 C.2.1 hd (k hz H locs ls hP hS hl)
theorem sv_imul (C : ix_Cx E) {x y : Int32} (hd : decode (ix_cc (ix_Ej E)) pc = .ok (.imul, 1)) (k : ix_V E cells slots (pc + 1) L (.int (x * y) :: st) (h)) : ix_V E cells slots pc L (.int y :: .int x :: st) (h) := by
  obtain ⟨p, l, e, R, s, m, args, below, meth, c, Q, j, base, D, ca, κ, X⟩ := E
  intro hz H locs ls hP hS hl
  exact lv_imul C.1 C.2.1 hd (k hz H locs ls hP hS hl)
theorem sv_iand (C : ix_Cx E) {x y : Int32} (hd : decode (ix_cc (ix_Ej E)) pc = .ok (.iand, 1)) (k : ix_V E cells slots (pc + 1) L (.int (x &&& y) :: st) (h)) : ix_V E cells slots pc L (.int y :: .int x :: st) (h) := by
  obtain ⟨p, l, e, R, s, m, args, below, meth, c, Q, j, base, D, ca, κ, X⟩ := E
  intro hz H locs ls hP hS hl
  exact lv_iand C.1 C.2.1 hd (k hz H locs ls hP hS hl)
theorem sv_ior (C : ix_Cx E) {x y : Int32} (hd : decode (ix_cc (ix_Ej E)) pc = .ok (.ior, 1)) (k : ix_V E cells slots (pc + 1) L (.int (x ||| y) :: st) (h)) : ix_V E cells slots pc L (.int y :: .int x :: st) (h) := by
  obtain ⟨p, l, e, R, s, m, args, below, meth, c, Q, j, base, D, ca, κ, X⟩ := E
  intro hz H locs ls hP hS hl
  exact lv_ior C.1 C.2.1 hd (k hz H locs ls hP hS hl)
theorem sv_ixor (C : ix_Cx E) {x y : Int32} (hd : decode (ix_cc (ix_Ej E)) pc = .ok (.ixor, 1)) (k : ix_V E cells slots (pc + 1) L (.int (x ^^^ y) :: st) (h)) : ix_V E cells slots pc L (.int y :: .int x :: st) (h) := by
  obtain ⟨p, l, e, R, s, m, args, below, meth, c, Q, j, base, D, ca, κ, X⟩ := E
  intro hz H locs ls hP hS hl
  exact lv_ixor C.1 C.2.1 hd (k hz H locs ls hP hS hl)
theorem sv_ishl (C : ix_Cx E) {x y : Int32} (hd : decode (ix_cc (ix_Ej E)) pc = .ok (.ishl, 1)) (k : ix_V E cells slots (pc + 1) L (.int (x <<< (y &&& 31)) :: st) (h)) : ix_V E cells slots pc L (.int y :: .int x :: st) (h) := by
  obtain ⟨p, l, e, R, s, m, args, below, meth, c, Q, j, base, D, ca, κ, X⟩ := E
  intro hz H locs ls hP hS hl
  exact lv_ishl C.1 C.2.1 hd (k hz H locs ls hP hS hl)
theorem sv_ishr (C : ix_Cx E) {x y : Int32} (hd : decode (ix_cc (ix_Ej E)) pc = .ok (.ishr, 1)) (k : ix_V E cells slots (pc + 1) L (.int (x >>> (y &&& 31)) :: st) (h)) : ix_V E cells slots pc L (.int y :: .int x :: st) (h) := by
  obtain ⟨p, l, e, R, s, m, args, below, meth, c, Q, j, base, D, ca, κ, X⟩ := E
  intro hz H locs ls hP hS hl
  exact lv_ishr C.1 C.2.1 hd (k hz H locs ls hP hS hl)
theorem sv_idiv (C : ix_Cx E) {x y : Int32} (hd : decode (ix_cc (ix_Ej E)) pc = .ok (.idiv, 1)) (hy : ¬ y = 0) (k : ix_V E cells slots (pc + 1) L (.int (x / y) :: st) (h)) : ix_V E cells slots pc L (.int y :: .int x :: st) (h) := by
  obtain ⟨p, l, e, R, s, m, args, below, meth, c, Q, j, base, D, ca, κ, X⟩ := E
  intro hz H locs ls hP hS hl
  exact lv_idiv C.1 C.2.1 hd hy (k hz H locs ls hP hS hl)
theorem sv_irem (C : ix_Cx E) {x y : Int32} (hd : decode (ix_cc (ix_Ej E)) pc = .ok (.irem, 1)) (hy : ¬ y = 0) (k : ix_V E cells slots (pc + 1) L (.int (x - x / y * y) :: st) (h)) : ix_V E cells slots pc L (.int y :: .int x :: st) (h) := by
  obtain ⟨p, l, e, R, s, m, args, below, meth, c, Q, j, base, D, ca, κ, X⟩ := E
  intro hz H locs ls hP hS hl
  exact lv_irem C.1 C.2.1 hd hy (k hz H locs ls hP hS hl)
theorem sv_ladd (C : ix_Cx E) {x y : Int64} (hd : decode (ix_cc (ix_Ej E)) pc = .ok (.ladd, 1)) (k : ix_V E cells slots (pc + 1) L (.long (x + y) :: st) (h)) : ix_V E cells slots pc L (.long y :: .long x :: st) (h) := by
  obtain ⟨p, l, e, R, s, m, args, below, meth, c, Q, j, base, D, ca, κ, X⟩ := E
  intro hz H locs ls hP hS hl
  exact lv_ladd C.1 C.2.1 hd (k hz H locs ls hP hS hl)
theorem sv_land (C : ix_Cx E) {x y : Int64} (hd : decode (ix_cc (ix_Ej E)) pc = .ok (.land, 1)) (k : ix_V E cells slots (pc + 1) L (.long (x &&& y) :: st) (h)) : ix_V E cells slots pc L (.long y :: .long x :: st) (h) := by
  obtain ⟨p, l, e, R, s, m, args, below, meth, c, Q, j, base, D, ca, κ, X⟩ := E
  intro hz H locs ls hP hS hl
  exact lv_land C.1 C.2.1 hd (k hz H locs ls hP hS hl)
theorem sv_lor (C : ix_Cx E) {x y : Int64} (hd : decode (ix_cc (ix_Ej E)) pc = .ok (.lor, 1)) (k : ix_V E cells slots (pc + 1) L (.long (x ||| y) :: st) (h)) : ix_V E cells slots pc L (.long y :: .long x :: st) (h) := by
  obtain ⟨p, l, e, R, s, m, args, below, meth, c, Q, j, base, D, ca, κ, X⟩ := E
  intro hz H locs ls hP hS hl
  exact lv_lor C.1 C.2.1 hd (k hz H locs ls hP hS hl)
theorem sv_lxor (C : ix_Cx E) {x y : Int64} (hd : decode (ix_cc (ix_Ej E)) pc = .ok (.lxor, 1)) (k : ix_V E cells slots (pc + 1) L (.long (x ^^^ y) :: st) (h)) : ix_V E cells slots pc L (.long y :: .long x :: st) (h) := by
  obtain ⟨p, l, e, R, s, m, args, below, meth, c, Q, j, base, D, ca, κ, X⟩ := E
  intro hz H locs ls hP hS hl
  exact lv_lxor C.1 C.2.1 hd (k hz H locs ls hP hS hl)
theorem sv_ldiv (C : ix_Cx E) {x y : Int64} (hd : decode (ix_cc (ix_Ej E)) pc = .ok (.ldiv, 1)) (hy : ¬ y = 0) (k : ix_V E cells slots (pc + 1) L (.long (x / y) :: st) (h)) : ix_V E cells slots pc L (.long y :: .long x :: st) (h) := by
  obtain ⟨p, l, e, R, s, m, args, below, meth, c, Q, j, base, D, ca, κ, X⟩ := E
  intro hz H locs ls hP hS hl
  exact lv_ldiv C.1 C.2.1 hd hy (k hz H locs ls hP hS hl)
theorem sv_lrem (C : ix_Cx E) {x y : Int64} (hd : decode (ix_cc (ix_Ej E)) pc = .ok (.lrem, 1)) (hy : ¬ y = 0) (k : ix_V E cells slots (pc + 1) L (.long (x - x / y * y) :: st) (h)) : ix_V E cells slots pc L (.long y :: .long x :: st) (h) := by
  obtain ⟨p, l, e, R, s, m, args, below, meth, c, Q, j, base, D, ca, κ, X⟩ := E
  intro hz H locs ls hP hS hl
  exact lv_lrem C.1 C.2.1 hd hy (k hz H locs ls hP hS hl)
theorem sv_ineg (C : ix_Cx E) {x : Int32} (hd : decode (ix_cc (ix_Ej E)) pc = .ok (.ineg, 1)) (k : ix_V E cells slots (pc + 1) L (.int (-x) :: st) (h)) : ix_V E cells slots pc L (.int x :: st) (h) := by
  obtain ⟨p, l, e, R, s, m, args, below, meth, c, Q, j, base, D, ca, κ, X⟩ := E
  intro hz H locs ls hP hS hl
  exact lv_ineg C.1 C.2.1 hd (k hz H locs ls hP hS hl)
theorem sv_lcmp (C : ix_Cx E) {x y : Int64} (hd : decode (ix_cc (ix_Ej E)) pc = .ok (.lcmp, 1)) (k : ix_V E cells slots (pc + 1) L (.int (lg_cmp x y) :: st) (h)) : ix_V E cells slots pc L (.long y :: .long x :: st) (h) := by
  obtain ⟨p, l, e, R, s, m, args, below, meth, c, Q, j, base, D, ca, κ, X⟩ := E
  intro hz H locs ls hP hS hl
  exact W.lcmp C.1 C.2.1 hd (k hz H locs ls hP hS hl)
theorem sv_lshl (C : ix_Cx E) {x : Int64} {y : Int32} (hd : decode (ix_cc (ix_Ej E)) pc = .ok (.lshl, 1)) (k : ix_V E cells slots (pc + 1) L (.long (x <<< (y.toInt64 &&& 63)) :: st) (h)) : ix_V E cells slots pc L (.int y :: .long x :: st) (h) := by
  obtain ⟨p, l, e, R, s, m, args, below, meth, c, Q, j, base, D, ca, κ, X⟩ := E
  intro hz H locs ls hP hS hl
  exact lv_lshl C.1 C.2.1 hd rfl (k hz H locs ls hP hS hl)
theorem sv_lshr (C : ix_Cx E) {x : Int64} {y : Int32} (hd : decode (ix_cc (ix_Ej E)) pc = .ok (.lshr, 1)) (k : ix_V E cells slots (pc + 1) L (.long (x >>> (y.toInt64 &&& 63)) :: st) (h)) : ix_V E cells slots pc L (.int y :: .long x :: st) (h) := by
  obtain ⟨p, l, e, R, s, m, args, below, meth, c, Q, j, base, D, ca, κ, X⟩ := E
  intro hz H locs ls hP hS hl
  exact lv_lshr C.1 C.2.1 hd rfl (k hz H locs ls hP hS hl)
theorem sv_i2l (C : ix_Cx E) {x : Int32} (hd : decode (ix_cc (ix_Ej E)) pc = .ok (.i2l, 1)) (k : ix_V E cells slots (pc + 1) L (.long (x.toInt64) :: st) (h)) : ix_V E cells slots pc L (.int x :: st) (h) := by
  obtain ⟨p, l, e, R, s, m, args, below, meth, c, Q, j, base, D, ca, κ, X⟩ := E
  intro hz H locs ls hP hS hl
  exact lv_i2l C.1 C.2.1 hd rfl (k hz H locs ls hP hS hl)
theorem sv_l2i (C : ix_Cx E) {x : Int64} (hd : decode (ix_cc (ix_Ej E)) pc = .ok (.l2i, 1)) (k : ix_V E cells slots (pc + 1) L (.int (x.toInt32) :: st) (h)) : ix_V E cells slots pc L (.long x :: st) (h) := by
  obtain ⟨p, l, e, R, s, m, args, below, meth, c, Q, j, base, D, ca, κ, X⟩ := E
  intro hz H locs ls hP hS hl
  exact lv_l2i C.1 C.2.1 hd rfl (k hz H locs ls hP hS hl)
theorem sv_i2b (C : ix_Cx E) {x : Int32} (hd : decode (ix_cc (ix_Ej E)) pc = .ok (.i2b, 1)) (k : ix_V E cells slots (pc + 1) L (.int (x.toInt8.toInt32) :: st) (h)) : ix_V E cells slots pc L (.int x :: st) (h) := by
  obtain ⟨p, l, e, R, s, m, args, below, meth, c, Q, j, base, D, ca, κ, X⟩ := E
  intro hz H locs ls hP hS hl
  exact lv_i2b C.1 C.2.1 hd rfl (k hz H locs ls hP hS hl)
theorem sv_i2c (C : ix_Cx E) {x : Int32} (hd : decode (ix_cc (ix_Ej E)) pc = .ok (.i2c, 1)) (k : ix_V E cells slots (pc + 1) L (.int (x.toUInt32 % 65536).toInt32 :: st) (h)) : ix_V E cells slots pc L (.int x :: st) (h) := by
  obtain ⟨p, l, e, R, s, m, args, below, meth, c, Q, j, base, D, ca, κ, X⟩ := E
  intro hz H locs ls hP hS hl
  exact lv_i2c C.1 C.2.1 hd rfl (k hz H locs ls hP hS hl)
theorem sv_dup (C : ix_Cx E) {v : Value} (hd : decode (ix_cc (ix_Ej E)) pc = .ok (.dup, 1)) (hv : v.category = 1) (k : ix_V E cells slots (pc + 1) L (v :: v :: st) (h)) : ix_V E cells slots pc L (v :: st) (h) := by
  obtain ⟨p, l, e, R, s, m, args, below, meth, c, Q, j, base, D, ca, κ, X⟩ := E
  intro hz H locs ls hP hS hl
  exact lv_dup C.1 C.2.1 hd (by rw [ix_tv_cat C.2.2.2.2.2.1.2.2.2.2.2.2.2.2.2]; exact hv) (k hz H locs ls hP hS hl)
theorem sv_pop (C : ix_Cx E) {v : Value} (hd : decode (ix_cc (ix_Ej E)) pc = .ok (.pop, 1)) (hv : v.category = 1) (k : ix_V E cells slots (pc + 1) L (st) (h)) : ix_V E cells slots pc L (v :: st) (h) := by
  obtain ⟨p, l, e, R, s, m, args, below, meth, c, Q, j, base, D, ca, κ, X⟩ := E
  intro hz H locs ls hP hS hl
  exact lv_pop C.1 C.2.1 hd (by rw [ix_tv_cat C.2.2.2.2.2.1.2.2.2.2.2.2.2.2.2]; exact hv) (k hz H locs ls hP hS hl)
theorem sv_dup_x1 (C : ix_Cx E) {v w : Value} (hd : decode (ix_cc (ix_Ej E)) pc = .ok (.dup_x1, 1)) (hv : v.category = 1) (hw : w.category = 1) (k : ix_V E cells slots (pc + 1) L (v :: w :: v :: st) (h)) : ix_V E cells slots pc L (v :: w :: st) (h) := by
  obtain ⟨p, l, e, R, s, m, args, below, meth, c, Q, j, base, D, ca, κ, X⟩ := E
  intro hz H locs ls hP hS hl
  exact lv_dup_x1 C.1 C.2.1 hd (by rw [ix_tv_cat C.2.2.2.2.2.1.2.2.2.2.2.2.2.2.2]; exact hv) (by rw [ix_tv_cat C.2.2.2.2.2.1.2.2.2.2.2.2.2.2.2]; exact hw) (k hz H locs ls hP hS hl)
theorem sv_dup2 (C : ix_Cx E) {v w : Value} (hd : decode (ix_cc (ix_Ej E)) pc = .ok (.dup2, 1)) (hv : v.category = 1) (hw : w.category = 1) (k : ix_V E cells slots (pc + 1) L (v :: w :: v :: w :: st) (h)) : ix_V E cells slots pc L (v :: w :: st) (h) := by
  obtain ⟨p, l, e, R, s, m, args, below, meth, c, Q, j, base, D, ca, κ, X⟩ := E
  intro hz H locs ls hP hS hl
  exact lv_dup2_11 C.1 C.2.1 hd (by rw [ix_tv_cat C.2.2.2.2.2.1.2.2.2.2.2.2.2.2.2]; exact hv) (by rw [ix_tv_cat C.2.2.2.2.2.1.2.2.2.2.2.2.2.2.2]; exact hw) (k hz H locs ls hP hS hl)
theorem sv_goto (C : ix_Cx E) {off : Int} {t : Nat} (hd : decode (ix_cc (ix_Ej E)) pc = .ok (.goto off, 3)) (ht : (pc : Int) + off = (t : Int)) (k : ix_V E cells slots t L (st) (h)) : ix_V E cells slots pc L (st) (h) := by
  obtain ⟨p, l, e, R, s, m, args, below, meth, c, Q, j, base, D, ca, κ, X⟩ := E
  intro hz H locs ls hP hS hl
  exact lv_goto C.1 C.2.1 hd ht (k hz H locs ls hP hS hl)
theorem sv_if_eq (C : ix_Cx E) {x : Int32} {off : Int} {t : Nat} (hd : decode (ix_cc (ix_Ej E)) pc = .ok (.ifCond .eq off, 3)) (ht : (pc : Int) + off = (t : Int)) (kt : x = 0 → ix_V E cells slots t L (st) (h)) (kf : ¬ x = 0 → ix_V E cells slots (pc + 3) L (st) (h)) : ix_V E cells slots pc L (.int x :: st) (h) := by
  obtain ⟨p, l, e, R, s, m, args, below, meth, c, Q, j, base, D, ca, κ, X⟩ := E
  intro hz H locs ls hP hS hl
  exact lv_if_eq C.1 C.2.1 hd ht (fun q => kt q hz H locs ls hP hS hl) (fun q => kf q hz H locs ls hP hS hl)
theorem sv_icmp_eq (C : ix_Cx E) {x y : Int32} {off : Int} {t : Nat} (hd : decode (ix_cc (ix_Ej E)) pc = .ok (.if_icmp .eq off, 3)) (ht : (pc : Int) + off = (t : Int)) (kt : x = y → ix_V E cells slots t L (st) (h)) (kf : ¬ x = y → ix_V E cells slots (pc + 3) L (st) (h)) : ix_V E cells slots pc L (.int y :: .int x :: st) (h) := by
  obtain ⟨p, l, e, R, s, m, args, below, meth, c, Q, j, base, D, ca, κ, X⟩ := E
  intro hz H locs ls hP hS hl
  exact lv_icmp_eq C.1 C.2.1 hd ht (fun q => kt q hz H locs ls hP hS hl) (fun q => kf q hz H locs ls hP hS hl)
theorem sv_if_ne (C : ix_Cx E) {x : Int32} {off : Int} {t : Nat} (hd : decode (ix_cc (ix_Ej E)) pc = .ok (.ifCond .ne off, 3)) (ht : (pc : Int) + off = (t : Int)) (kt : ¬ x = 0 → ix_V E cells slots t L (st) (h)) (kf : x = 0 → ix_V E cells slots (pc + 3) L (st) (h)) : ix_V E cells slots pc L (.int x :: st) (h) := by
  obtain ⟨p, l, e, R, s, m, args, below, meth, c, Q, j, base, D, ca, κ, X⟩ := E
  intro hz H locs ls hP hS hl
  exact lv_if_ne C.1 C.2.1 hd ht (fun q => kt q hz H locs ls hP hS hl) (fun q => kf q hz H locs ls hP hS hl)
theorem sv_icmp_ne (C : ix_Cx E) {x y : Int32} {off : Int} {t : Nat} (hd : decode (ix_cc (ix_Ej E)) pc = .ok (.if_icmp .ne off, 3)) (ht : (pc : Int) + off = (t : Int)) (kt : ¬ x = y → ix_V E cells slots t L (st) (h)) (kf : x = y → ix_V E cells slots (pc + 3) L (st) (h)) : ix_V E cells slots pc L (.int y :: .int x :: st) (h) := by
  obtain ⟨p, l, e, R, s, m, args, below, meth, c, Q, j, base, D, ca, κ, X⟩ := E
  intro hz H locs ls hP hS hl
  exact lv_icmp_ne C.1 C.2.1 hd ht (fun q => kt q hz H locs ls hP hS hl) (fun q => kf q hz H locs ls hP hS hl)
theorem sv_if_lt (C : ix_Cx E) {x : Int32} {off : Int} {t : Nat} (hd : decode (ix_cc (ix_Ej E)) pc = .ok (.ifCond .lt off, 3)) (ht : (pc : Int) + off = (t : Int)) (kt : x < 0 → ix_V E cells slots t L (st) (h)) (kf : ¬ x < 0 → ix_V E cells slots (pc + 3) L (st) (h)) : ix_V E cells slots pc L (.int x :: st) (h) := by
  obtain ⟨p, l, e, R, s, m, args, below, meth, c, Q, j, base, D, ca, κ, X⟩ := E
  intro hz H locs ls hP hS hl
  exact lv_if_lt C.1 C.2.1 hd ht (fun q => kt q hz H locs ls hP hS hl) (fun q => kf q hz H locs ls hP hS hl)
theorem sv_icmp_lt (C : ix_Cx E) {x y : Int32} {off : Int} {t : Nat} (hd : decode (ix_cc (ix_Ej E)) pc = .ok (.if_icmp .lt off, 3)) (ht : (pc : Int) + off = (t : Int)) (kt : x < y → ix_V E cells slots t L (st) (h)) (kf : ¬ x < y → ix_V E cells slots (pc + 3) L (st) (h)) : ix_V E cells slots pc L (.int y :: .int x :: st) (h) := by
  obtain ⟨p, l, e, R, s, m, args, below, meth, c, Q, j, base, D, ca, κ, X⟩ := E
  intro hz H locs ls hP hS hl
  exact lv_icmp_lt C.1 C.2.1 hd ht (fun q => kt q hz H locs ls hP hS hl) (fun q => kf q hz H locs ls hP hS hl)
theorem sv_if_ge (C : ix_Cx E) {x : Int32} {off : Int} {t : Nat} (hd : decode (ix_cc (ix_Ej E)) pc = .ok (.ifCond .ge off, 3)) (ht : (pc : Int) + off = (t : Int)) (kt : 0 ≤ x → ix_V E cells slots t L (st) (h)) (kf : ¬ 0 ≤ x → ix_V E cells slots (pc + 3) L (st) (h)) : ix_V E cells slots pc L (.int x :: st) (h) := by
  obtain ⟨p, l, e, R, s, m, args, below, meth, c, Q, j, base, D, ca, κ, X⟩ := E
  intro hz H locs ls hP hS hl
  exact lv_if_ge C.1 C.2.1 hd ht (fun q => kt q hz H locs ls hP hS hl) (fun q => kf q hz H locs ls hP hS hl)
theorem sv_icmp_ge (C : ix_Cx E) {x y : Int32} {off : Int} {t : Nat} (hd : decode (ix_cc (ix_Ej E)) pc = .ok (.if_icmp .ge off, 3)) (ht : (pc : Int) + off = (t : Int)) (kt : y ≤ x → ix_V E cells slots t L (st) (h)) (kf : ¬ y ≤ x → ix_V E cells slots (pc + 3) L (st) (h)) : ix_V E cells slots pc L (.int y :: .int x :: st) (h) := by
  obtain ⟨p, l, e, R, s, m, args, below, meth, c, Q, j, base, D, ca, κ, X⟩ := E
  intro hz H locs ls hP hS hl
  exact lv_icmp_ge C.1 C.2.1 hd ht (fun q => kt q hz H locs ls hP hS hl) (fun q => kf q hz H locs ls hP hS hl)
theorem sv_if_gt (C : ix_Cx E) {x : Int32} {off : Int} {t : Nat} (hd : decode (ix_cc (ix_Ej E)) pc = .ok (.ifCond .gt off, 3)) (ht : (pc : Int) + off = (t : Int)) (kt : 0 < x → ix_V E cells slots t L (st) (h)) (kf : ¬ 0 < x → ix_V E cells slots (pc + 3) L (st) (h)) : ix_V E cells slots pc L (.int x :: st) (h) := by
  obtain ⟨p, l, e, R, s, m, args, below, meth, c, Q, j, base, D, ca, κ, X⟩ := E
  intro hz H locs ls hP hS hl
  exact lv_if_gt C.1 C.2.1 hd ht (fun q => kt q hz H locs ls hP hS hl) (fun q => kf q hz H locs ls hP hS hl)
theorem sv_icmp_gt (C : ix_Cx E) {x y : Int32} {off : Int} {t : Nat} (hd : decode (ix_cc (ix_Ej E)) pc = .ok (.if_icmp .gt off, 3)) (ht : (pc : Int) + off = (t : Int)) (kt : y < x → ix_V E cells slots t L (st) (h)) (kf : ¬ y < x → ix_V E cells slots (pc + 3) L (st) (h)) : ix_V E cells slots pc L (.int y :: .int x :: st) (h) := by
  obtain ⟨p, l, e, R, s, m, args, below, meth, c, Q, j, base, D, ca, κ, X⟩ := E
  intro hz H locs ls hP hS hl
  exact lv_icmp_gt C.1 C.2.1 hd ht (fun q => kt q hz H locs ls hP hS hl) (fun q => kf q hz H locs ls hP hS hl)
theorem sv_if_le (C : ix_Cx E) {x : Int32} {off : Int} {t : Nat} (hd : decode (ix_cc (ix_Ej E)) pc = .ok (.ifCond .le off, 3)) (ht : (pc : Int) + off = (t : Int)) (kt : x ≤ 0 → ix_V E cells slots t L (st) (h)) (kf : ¬ x ≤ 0 → ix_V E cells slots (pc + 3) L (st) (h)) : ix_V E cells slots pc L (.int x :: st) (h) := by
  obtain ⟨p, l, e, R, s, m, args, below, meth, c, Q, j, base, D, ca, κ, X⟩ := E
  intro hz H locs ls hP hS hl
  exact lv_if_le C.1 C.2.1 hd ht (fun q => kt q hz H locs ls hP hS hl) (fun q => kf q hz H locs ls hP hS hl)
theorem sv_icmp_le (C : ix_Cx E) {x y : Int32} {off : Int} {t : Nat} (hd : decode (ix_cc (ix_Ej E)) pc = .ok (.if_icmp .le off, 3)) (ht : (pc : Int) + off = (t : Int)) (kt : x ≤ y → ix_V E cells slots t L (st) (h)) (kf : ¬ x ≤ y → ix_V E cells slots (pc + 3) L (st) (h)) : ix_V E cells slots pc L (.int y :: .int x :: st) (h) := by
  obtain ⟨p, l, e, R, s, m, args, below, meth, c, Q, j, base, D, ca, κ, X⟩ := E
  intro hz H locs ls hP hS hl
  exact lv_icmp_le C.1 C.2.1 hd ht (fun q => kt q hz H locs ls hP hS hl) (fun q => kf q hz H locs ls hP hS hl)
theorem sv_ifnullN (C : ix_Cx E) {off : Int} {t : Nat} (hd : decode (ix_cc (ix_Ej E)) pc = .ok (.ifnull off, 3)) (ht : (pc : Int) + off = (t : Int)) (k : ix_V E cells slots t L (st) (h)) : ix_V E cells slots pc L (.null :: st) (h) := by
  obtain ⟨p, l, e, R, s, m, args, below, meth, c, Q, j, base, D, ca, κ, X⟩ := E
  intro hz H locs ls hP hS hl
  exact lv_ifnullN C.1 C.2.1 hd ht (k hz H locs ls hP hS hl)
theorem sv_ifnull (C : ix_Cx E) {off : Int} {a : Nat} (hd : decode (ix_cc (ix_Ej E)) pc = .ok (.ifnull off, 3)) (k : ix_V E cells slots (pc + 3) L (st) (h)) : ix_V E cells slots pc L (.ref a :: st) (h) := by
  obtain ⟨p, l, e, R, s, m, args, below, meth, c, Q, j, base, D, ca, κ, X⟩ := E
  intro hz H locs ls hP hS hl
  exact lv_ifnull C.1 C.2.1 hd (k hz H locs ls hP hS hl)
theorem sv_ifnonnullN (C : ix_Cx E) {off : Int} (hd : decode (ix_cc (ix_Ej E)) pc = .ok (.ifnonnull off, 3)) (k : ix_V E cells slots (pc + 3) L (st) (h)) : ix_V E cells slots pc L (.null :: st) (h) := by
  obtain ⟨p, l, e, R, s, m, args, below, meth, c, Q, j, base, D, ca, κ, X⟩ := E
  intro hz H locs ls hP hS hl
  exact lv_ifnonnullN C.1 C.2.1 hd (k hz H locs ls hP hS hl)
theorem sv_ifnonnull (C : ix_Cx E) {off : Int} {a t : Nat} (hd : decode (ix_cc (ix_Ej E)) pc = .ok (.ifnonnull off, 3)) (ht : (pc : Int) + off = (t : Int)) (k : ix_V E cells slots t L (st) (h)) : ix_V E cells slots pc L (.ref a :: st) (h) := by
  obtain ⟨p, l, e, R, s, m, args, below, meth, c, Q, j, base, D, ca, κ, X⟩ := E
  intro hz H locs ls hP hS hl
  exact lv_ifnonnull C.1 C.2.1 hd ht (k hz H locs ls hP hS hl)
theorem sv_tabOut (C : ix_Cx E) {d lo hi : Int} {offs : Array Int} {n : Nat} {x : Int32} {t : Nat} (hd : decode (ix_cc (ix_Ej E)) pc = .ok (.tableswitch d lo hi offs, n)) (hx : x.toInt < lo ∨ hi < x.toInt) (ht : (pc : Int) + d = (t : Int)) (k : ix_V E cells slots t L (st) (h)) : ix_V E cells slots pc L (.int x :: st) (h) := by
  obtain ⟨p, l, e, R, s, m, args, below, meth, c, Q, j, base, D, ca, κ, X⟩ := E
  intro hz H locs ls hP hS hl
  exact lv_tableOut C.1 C.2.1 hd hx ht (k hz H locs ls hP hS hl)
theorem sv_tabIn (C : ix_Cx E) {d lo hi : Int} {offs : Array Int} {n : Nat} {x : Int32} {off : Int} {t : Nat} (hd : decode (ix_cc (ix_Ej E)) pc = .ok (.tableswitch d lo hi offs, n)) (h1 : ¬ x.toInt < lo) (h2 : ¬ hi < x.toInt) (ho : offs[(x.toInt - lo).toNat]? = some off) (ht : (pc : Int) + off = (t : Int)) (k : ix_V E cells slots t L (st) (h)) : ix_V E cells slots pc L (.int x :: st) (h) := by
  obtain ⟨p, l, e, R, s, m, args, below, meth, c, Q, j, base, D, ca, κ, X⟩ := E
  intro hz H locs ls hP hS hl
  exact lv_tableIn C.1 C.2.1 hd h1 h2 ho ht (k hz H locs ls hP hS hl)
theorem sv_lookup (C : ix_Cx E) {d : Int} {ps : Array (Int × Int)} {n : Nat} {x : Int32} {t : Nat} (hd : decode (ix_cc (ix_Ej E)) pc = .ok (.lookupswitch d ps, n)) (hp : (ps.toList.zip (ps.toList.drop 1)).all (fun (a, b) => a.1 < b.1) = true) (ht : (pc : Int) + Op.lookupswitch.offset ps.toList d x.toInt = (t : Int)) (k : ix_V E cells slots t L (st) (h)) : ix_V E cells slots pc L (.int x :: st) (h) := by
  obtain ⟨p, l, e, R, s, m, args, below, meth, c, Q, j, base, D, ca, κ, X⟩ := E
  intro hz H locs ls hP hS hl
  exact lv_lookup C.1 C.2.1 hd hp rfl ht (k hz H locs ls hP hS hl)
end VROWS
