/-! ===== equations of the interpreter, an instruction each: no binder, no condition where there needs none ===== -/
def ix_isin (cs : List Nat) (c : Nat) : Bool := cs.contains c
/-- a field -/
def ix_g (h : ix_H) (r : Nat) (cs : List Nat) (k : Nat) : Option Value := match ix_at h r with
  | some (.inr (c, fs)) => if ix_isin cs c = true then fs[k]? else none
  | _ => none
def ix_s (h : ix_H) (r : Nat) (cs : List Nat) (k : Nat) (v : Value) : Option ix_H := match ix_at h r with
  | some (.inr (c, fs)) => if ix_isin cs c = true ∧ k < fs.length then some (ix_up h r (.inr (c, fs.set k v))) else none
  | _ => none
theorem ix_g_eq (h : ix_H) (r : Nat) (cs : List Nat) (k : Nat) : ix_gf h r cs k = ix_g h r cs k := by
  unfold ix_gf ix_g ix_isin
  cases ix_at h r with
  | none => rfl
  | some c => cases c with
    | inl a => rfl
    | inr o => simp
/-- what a field's type asks of a value, for all classes that the reference reaches -/
def ix_sok (j : Nat) (cs : List Nat) (k : Nat) (t : FieldType) : Bool := cs.all (fun c => ix_fin j c k && decide (ix_ty c k = t))
theorem ix_s_eq {j : Nat} {h : ix_H} {r : Nat} {cs : List Nat} {k : Nat} {v : Value} {t : FieldType} (hs : ix_sok j cs k t = true) (hv : ix_vt t v = true) : ix_pf j h r cs k v = ix_s h r cs k v := by
  unfold ix_pf ix_s ix_isin
  cases ix_at h r with
  | none => rfl
  | some c => cases c with
    | inl a => rfl
    | inr o =>
      obtain ⟨c, fs⟩ := o
      simp only
      by_cases hc : c ∈ cs
      · have h1 := List.all_eq_true.mp hs c hc
        simp only [Bool.and_eq_true, decide_eq_true_eq] at h1
        simp [hc, h1.1, h1.2, hv]
      · simp [hc]
noncomputable def ix_pv (X : ix_X) (d j pc : Nat) (L : ix_L) (o : Option Value) (st : List Value) (h : ix_H) : Option (Option Value × ix_H) := match o with
  | some v => ix_sem X d j pc L (v :: st) h
  | none => none
noncomputable def ix_pi (X : ix_X) (d j pc : Nat) (L : ix_L) (o : Option Int32) (st : List Value) (h : ix_H) : Option (Option Value × ix_H) := match o with
  | some v => ix_sem X d j pc L (.int v :: st) h
  | none => none
noncomputable def ix_pn (X : ix_X) (d j pc : Nat) (L : ix_L) (o : Option Nat) (st : List Value) (h : ix_H) : Option (Option Value × ix_H) := match o with
  | some n => ix_sem X d j pc L (.int (Int32.ofNat n) :: st) h
  | none => none
noncomputable def ix_po (X : ix_X) (d j pc : Nat) (L : ix_L) (o : Option (Option Nat)) (st : List Value) (h : ix_H) : Option (Option Value × ix_H) := match o with
  | some v => ix_sem X d j pc L (va_rf v :: st) h
  | none => none
noncomputable def ix_ph (X : ix_X) (d j pc : Nat) (L : ix_L) (st : List Value) (o : Option ix_H) : Option (Option Value × ix_H) := match o with
  | some h => ix_sem X d j pc L st h
  | none => none
/-- a virtual call: the receiver's class picks the method -/
noncomputable def ix_cv (X : ix_X) (d : Nat) (oc : Option Nat) (tg : List (Nat × Nat × Nat)) (as : List Value) (h : ix_H) : Option (Option Value × ix_H) := match oc with
  | none => none
  | some c => match tg.find? (fun e => e.1 == c) with
    | none => none
    | some e => ix_call X d e.2.1 as h
theorem ix_pv_s {X : ix_X} {d j pc : Nat} {L : ix_L} {v : Value} {st : List Value} {h : ix_H} : ix_pv X d j pc L (some v) st h = ix_sem X d j pc L (v :: st) h := rfl
theorem ix_pi_s {X : ix_X} {d j pc : Nat} {L : ix_L} {v : Int32} {st : List Value} {h : ix_H} : ix_pi X d j pc L (some v) st h = ix_sem X d j pc L (.int v :: st) h := rfl
theorem ix_pn_s {X : ix_X} {d j pc : Nat} {L : ix_L} {n : Nat} {st : List Value} {h : ix_H} : ix_pn X d j pc L (some n) st h = ix_sem X d j pc L (.int (Int32.ofNat n) :: st) h := rfl
theorem ix_po_s {X : ix_X} {d j pc : Nat} {L : ix_L} {n : Nat} {st : List Value} {h : ix_H} : ix_po X d j pc L (some (some n)) st h = ix_sem X d j pc L (.ref n :: st) h := rfl
theorem ix_po_n {X : ix_X} {d j pc : Nat} {L : ix_L} {st : List Value} {h : ix_H} : ix_po X d j pc L (some none) st h = ix_sem X d j pc L (.null :: st) h := rfl
theorem ix_ph_s {X : ix_X} {d j pc : Nat} {L : ix_L} {st : List Value} {h : ix_H} : ix_ph X d j pc L st (some h) = ix_sem X d j pc L st h := rfl
theorem ix_wt4 {st : List Value} (h : st.length ≤ 4) : ix_wt st ≤ 8 := by
  have key : ∀ l : List Value, ix_wt l ≤ 2 * l.length := by
    intro l
    induction l with
    | nil => simp [ix_wt]
    | cons a l ih =>
      have h1 : a.category ≤ 2 := by cases a <;> simp [Value.category]
      simp only [ix_wt, List.map_cons, List.sum_cons, List.length_cons] at ih ⊢
      omega
  have := key st
  omega
section SX
variable {X : ix_X} {d j pc : Nat} {L : ix_L} {st : List Value} {h : ix_H}
theorem sx_do {i : Instr} {n : Nat} (hd : decode (ix_cc j) pc = .ok (i, n)) (hn : ix_ln i n = true) : ix_act X j pc L st h = ix_do X j pc i L st h := by
  unfold ix_act
  rw [hd]
  simp only [hn, if_true]
theorem sx_null (hd : decode (ix_cc j) pc = .ok (.aconst_null, 1)) : ix_sem X d j pc L st h = ix_sem X d j (pc + 1) L (.null :: st) h := sx_next (sx_do hd rfl)
theorem sx_iconst {n : Int} {v : Int32} (hd : decode (ix_cc j) pc = .ok (.iconst n, 1)) (hv : Int32.ofInt n = v) : ix_sem X d j pc L st h = ix_sem X d j (pc + 1) L (.int v :: st) h := by subst hv; exact sx_next (sx_do hd rfl)
theorem sx_bipush {n : Int} {v : Int32} (hd : decode (ix_cc j) pc = .ok (.bipush n, 2)) (hv : (Int8.ofInt n).toInt32 = v) : ix_sem X d j pc L st h = ix_sem X d j (pc + 2) L (.int v :: st) h := by subst hv; exact sx_next (sx_do hd rfl)
theorem sx_sipush {n : Int} {v : Int32} (hd : decode (ix_cc j) pc = .ok (.sipush n, 3)) (hv : (Int16.ofInt n).toInt32 = v) : ix_sem X d j pc L st h = ix_sem X d j (pc + 3) L (.int v :: st) h := by subst hv; exact sx_next (sx_do hd rfl)
theorem sx_lconst {n : Fin 2} {v : Int64} (hd : decode (ix_cc j) pc = .ok (.lconst n, 1)) (hv : Int64.ofNat (n : Nat) = v) : ix_sem X d j pc L st h = ix_sem X d j (pc + 1) L (.long v :: st) h := by subst hv; exact sx_next (sx_do hd rfl)
theorem sx_ldc {k : Nat} {v : Value} (hd : decode (ix_cc j) pc = .ok (.ldc k, 2)) (hv : ix_lc (ix_o j) k = some v) (hk : ix_kd v ≠ 1) : ix_sem X d j pc L st h = ix_sem X d j (pc + 2) L (v :: st) h := sx_next ((sx_do hd rfl).trans (by simp only [ix_do, hv, ix_ovl, if_neg hk]))
theorem sx_ldc2 {k : Nat} {v : Value} (hd : decode (ix_cc j) pc = .ok (.ldc2_w k, 3)) (hv : ix_lc (ix_o j) k = some v) (hk : ix_kd v = 1) : ix_sem X d j pc L st h = ix_sem X d j (pc + 3) L (v :: st) h := sx_next ((sx_do hd rfl).trans (by simp only [ix_do, hv, ix_ovl, if_pos hk]))
theorem sx_load {i : Instr} {n k t : Nat} {v : Value} (hd : decode (ix_cc j) pc = .ok (i, n)) (hi : i = .iload k ∧ n = 2 ∧ t = 0 ∨ i = .lload k ∧ n = 2 ∧ t = 1 ∨ i = .aload k ∧ n = 2 ∧ t = 2) (hl : L[k]? = some (some v)) (hv : ix_kd v = t) : ix_sem X d j pc L st h = ix_sem X d j (pc + n) L (v :: st) h := by
  rcases hi with ⟨rfl, rfl, rfl⟩ | ⟨rfl, rfl, rfl⟩ | ⟨rfl, rfl, rfl⟩ <;> exact sx_next ((sx_do hd rfl).trans (by simp only [ix_do, ix_ld, hl, if_pos hv]))
theorem sx_load_n {i : Instr} {k : Fin 4} {t : Nat} {v : Value} (hd : decode (ix_cc j) pc = .ok (i, 1)) (hi : i = .iload_n k ∧ t = 0 ∨ i = .lload_n k ∧ t = 1 ∨ i = .aload_n k ∧ t = 2) (hl : L[(k : Nat)]? = some (some v)) (hv : ix_kd v = t) : ix_sem X d j pc L st h = ix_sem X d j (pc + 1) L (v :: st) h := by
  rcases hi with ⟨rfl, rfl⟩ | ⟨rfl, rfl⟩ | ⟨rfl, rfl⟩ <;> exact sx_next ((sx_do hd rfl).trans (by simp only [ix_do, ix_ld, hl, if_pos hv]))
def ix_sto (j i : Nat) (n : Nat) : Bool := decide (i < n) && decide (i ∉ ix_lg j) && (ix_lg j).all (fun k => decide (k + 1 ≠ i))
theorem sx_store {i : Instr} {n k t : Nat} {v : Value} {L' : ix_L} (hd : decode (ix_cc j) pc = .ok (i, n)) (hi : i = .istore k ∧ n = 2 ∧ t = 0 ∨ i = .astore k ∧ n = 2 ∧ t = 2) (hv : ix_kd v = t) {nn : Nat} (hnn : L.length = nn) (hs : ix_sto j k nn = true) (hL : L.set k (some v) = L') : ix_sem X d j pc L (v :: st) h = ix_sem X d j (pc + n) L' st h := by
  subst hL
  subst hnn
  unfold ix_sto at hs
  simp only [Bool.and_eq_true, decide_eq_true_eq, List.all_eq_true] at hs
  rcases hi with ⟨rfl, rfl, rfl⟩ | ⟨rfl, rfl, rfl⟩ <;> refine sx_next ((sx_do hd rfl).trans ?_) <;> simp only [ix_do, ix_so] <;> rw [if_pos ⟨hv, by decide, hs.1.1, hs.1.2, hs.2⟩]
theorem sx_store_n {i : Instr} {k : Fin 4} {t : Nat} {v : Value} {L' : ix_L} (hd : decode (ix_cc j) pc = .ok (i, 1)) (hi : i = .istore_n k ∧ t = 0 ∨ i = .astore_n k ∧ t = 2) (hv : ix_kd v = t) {nn : Nat} (hnn : L.length = nn) (hs : ix_sto j (k : Nat) nn = true) (hL : L.set (k : Nat) (some v) = L') : ix_sem X d j pc L (v :: st) h = ix_sem X d j (pc + 1) L' st h := by
  subst hL
  subst hnn
  unfold ix_sto at hs
  simp only [Bool.and_eq_true, decide_eq_true_eq, List.all_eq_true] at hs
  rcases hi with ⟨rfl, rfl⟩ | ⟨rfl, rfl⟩ <;> refine sx_next ((sx_do hd rfl).trans ?_) <;> simp only [ix_do, ix_so] <;> rw [if_pos ⟨hv, by decide, hs.1.1, hs.1.2, hs.2⟩]
def ix_stl (j i : Nat) (n : Nat) : Bool := decide (i + 1 < n) && decide (i ∈ ix_lg j) && decide ((i + 1) ∉ ix_lg j) && (ix_lg j).all (fun k => decide (k + 1 ≠ i))
theorem sx_lstore {k : Nat} {x : Int64} {L' : ix_L} (hd : decode (ix_cc j) pc = .ok (.lstore k, 2)) {nn : Nat} (hnn : L.length = nn) (hs : ix_stl j k nn = true) (hL : (L.set k (some (.long x))).set (k + 1) none = L') : ix_sem X d j pc L (.long x :: st) h = ix_sem X d j (pc + 2) L' st h := by
  subst hL
  subst hnn
  unfold ix_stl at hs
  simp only [Bool.and_eq_true, decide_eq_true_eq, List.all_eq_true] at hs
  refine sx_next ((sx_do hd rfl).trans ?_)
  simp only [ix_do, ix_sl]
  rw [if_pos ⟨hs.1.1.1, hs.1.1.2, hs.1.2, hs.2⟩]
theorem sx_lstore_n {k : Fin 4} {x : Int64} {L' : ix_L} (hd : decode (ix_cc j) pc = .ok (.lstore_n k, 1)) {nn : Nat} (hnn : L.length = nn) (hs : ix_stl j (k : Nat) nn = true) (hL : (L.set (k : Nat) (some (.long x))).set ((k : Nat) + 1) none = L') : ix_sem X d j pc L (.long x :: st) h = ix_sem X d j (pc + 1) L' st h := by
  subst hL
  subst hnn
  unfold ix_stl at hs
  simp only [Bool.and_eq_true, decide_eq_true_eq, List.all_eq_true] at hs
  refine sx_next ((sx_do hd rfl).trans ?_)
  simp only [ix_do, ix_sl]
  rw [if_pos ⟨hs.1.1.1, hs.1.1.2, hs.1.2, hs.2⟩]
theorem sx_iinc {k : Nat} {n : Int} {x v : Int32} {L' : ix_L} (hd : decode (ix_cc j) pc = .ok (.iinc k n, 3)) (hl : L[k]? = some (some (.int x))) {nn : Nat} (hnn : L.length = nn) (hs : ix_sto j k nn = true) (hn : Int32.ofInt n = v) (hL : L.set k (some (.int (x + v))) = L') : ix_sem X d j pc L st h = ix_sem X d j (pc + 3) L' st h := by
  subst hL
  subst hn
  subst hnn
  unfold ix_sto at hs
  simp only [Bool.and_eq_true, decide_eq_true_eq, List.all_eq_true] at hs
  refine sx_next ((sx_do hd rfl).trans ?_)
  simp only [ix_do, ix_ld, hl, ix_kd, if_true, ix_so]
  rw [if_pos ⟨trivial, by decide, hs.1.1, hs.1.2, hs.2⟩]
theorem sx_iadd {x y : Int32} (hd : decode (ix_cc j) pc = .ok (.iadd, 1)) : ix_sem X d j pc L (.int y :: .int x :: st) h = ix_sem X d j (pc + 1) L (.int (x + y) :: st) h := sx_next (sx_do hd rfl)
theorem sx_isub {x y : Int32} (hd : decode (ix_cc j) pc = .ok (.isub, 1)) : ix_sem X d j pc L (.int y :: .int x :: st) h = ix_sem X d j (pc + 1) L (.int (x - y) :: st) h := sx_next (sx_do hd rfl)
theorem sx_imul {x y : Int32} (hd : decode (ix_cc j) pc = .ok (.imul, 1)) : ix_sem X d j pc L (.int y :: .int x :: st) h = ix_sem X d j (pc + 1) L (.int (x * y) :: st) h := sx_next (sx_do hd rfl)
theorem sx_iand {x y : Int32} (hd : decode (ix_cc j) pc = .ok (.iand, 1)) : ix_sem X d j pc L (.int y :: .int x :: st) h = ix_sem X d j (pc + 1) L (.int (x &&& y) :: st) h := sx_next (sx_do hd rfl)
theorem sx_ior {x y : Int32} (hd : decode (ix_cc j) pc = .ok (.ior, 1)) : ix_sem X d j pc L (.int y :: .int x :: st) h = ix_sem X d j (pc + 1) L (.int (x ||| y) :: st) h := sx_next (sx_do hd rfl)
theorem sx_ixor {x y : Int32} (hd : decode (ix_cc j) pc = .ok (.ixor, 1)) : ix_sem X d j pc L (.int y :: .int x :: st) h = ix_sem X d j (pc + 1) L (.int (x ^^^ y) :: st) h := sx_next (sx_do hd rfl)
theorem sx_ishl {x y : Int32} (hd : decode (ix_cc j) pc = .ok (.ishl, 1)) : ix_sem X d j pc L (.int y :: .int x :: st) h = ix_sem X d j (pc + 1) L (.int (x <<< (y &&& 31)) :: st) h := sx_next (sx_do hd rfl)
theorem sx_ishr {x y : Int32} (hd : decode (ix_cc j) pc = .ok (.ishr, 1)) : ix_sem X d j pc L (.int y :: .int x :: st) h = ix_sem X d j (pc + 1) L (.int (x >>> (y &&& 31)) :: st) h := sx_next (sx_do hd rfl)
theorem sx_idiv {x y : Int32} (hd : decode (ix_cc j) pc = .ok (.idiv, 1)) (hy : ¬ y = 0) : ix_sem X d j pc L (.int y :: .int x :: st) h = ix_sem X d j (pc + 1) L (.int (x / y) :: st) h := sx_next ((sx_do hd rfl).trans (by simp only [ix_do, ix_i2, if_neg hy]))
theorem sx_irem {x y : Int32} (hd : decode (ix_cc j) pc = .ok (.irem, 1)) (hy : ¬ y = 0) : ix_sem X d j pc L (.int y :: .int x :: st) h = ix_sem X d j (pc + 1) L (.int (x - x / y * y) :: st) h := sx_next ((sx_do hd rfl).trans (by simp only [ix_do, ix_i2, if_neg hy]))
theorem sx_ldiv {x y : Int64} (hd : decode (ix_cc j) pc = .ok (.ldiv, 1)) (hy : ¬ y = 0) : ix_sem X d j pc L (.long y :: .long x :: st) h = ix_sem X d j (pc + 1) L (.long (x / y) :: st) h := sx_next ((sx_do hd rfl).trans (by simp only [ix_do, ix_l2, if_neg hy]))
theorem sx_lrem {x y : Int64} (hd : decode (ix_cc j) pc = .ok (.lrem, 1)) (hy : ¬ y = 0) : ix_sem X d j pc L (.long y :: .long x :: st) h = ix_sem X d j (pc + 1) L (.long (x - x / y * y) :: st) h := sx_next ((sx_do hd rfl).trans (by simp only [ix_do, ix_l2, if_neg hy]))
theorem sx_ineg {x : Int32} (hd : decode (ix_cc j) pc = .ok (.ineg, 1)) : ix_sem X d j pc L (.int x :: st) h = ix_sem X d j (pc + 1) L (.int (-x) :: st) h := sx_next (sx_do hd rfl)
theorem sx_i2l {x : Int32} (hd : decode (ix_cc j) pc = .ok (.i2l, 1)) : ix_sem X d j pc L (.int x :: st) h = ix_sem X d j (pc + 1) L (.long x.toInt64 :: st) h := sx_next (sx_do hd rfl)
theorem sx_i2b {x : Int32} (hd : decode (ix_cc j) pc = .ok (.i2b, 1)) : ix_sem X d j pc L (.int x :: st) h = ix_sem X d j (pc + 1) L (.int x.toInt8.toInt32 :: st) h := sx_next (sx_do hd rfl)
theorem sx_i2c {x : Int32} (hd : decode (ix_cc j) pc = .ok (.i2c, 1)) : ix_sem X d j pc L (.int x :: st) h = ix_sem X d j (pc + 1) L (.int (x.toUInt32 % 65536).toInt32 :: st) h := sx_next (sx_do hd rfl)
theorem sx_ladd {x y : Int64} (hd : decode (ix_cc j) pc = .ok (.ladd, 1)) : ix_sem X d j pc L (.long y :: .long x :: st) h = ix_sem X d j (pc + 1) L (.long (x + y) :: st) h := sx_next (sx_do hd rfl)
theorem sx_land {x y : Int64} (hd : decode (ix_cc j) pc = .ok (.land, 1)) : ix_sem X d j pc L (.long y :: .long x :: st) h = ix_sem X d j (pc + 1) L (.long (x &&& y) :: st) h := sx_next (sx_do hd rfl)
theorem sx_lor {x y : Int64} (hd : decode (ix_cc j) pc = .ok (.lor, 1)) : ix_sem X d j pc L (.long y :: .long x :: st) h = ix_sem X d j (pc + 1) L (.long (x ||| y) :: st) h := sx_next (sx_do hd rfl)
theorem sx_lxor {x y : Int64} (hd : decode (ix_cc j) pc = .ok (.lxor, 1)) : ix_sem X d j pc L (.long y :: .long x :: st) h = ix_sem X d j (pc + 1) L (.long (x ^^^ y) :: st) h := sx_next (sx_do hd rfl)
theorem sx_lcmp {x y : Int64} (hd : decode (ix_cc j) pc = .ok (.lcmp, 1)) : ix_sem X d j pc L (.long y :: .long x :: st) h = ix_sem X d j (pc + 1) L (.int (lg_cmp x y) :: st) h := sx_next (sx_do hd rfl)
theorem sx_lshl {x : Int64} {y : Int32} (hd : decode (ix_cc j) pc = .ok (.lshl, 1)) : ix_sem X d j pc L (.int y :: .long x :: st) h = ix_sem X d j (pc + 1) L (.long (x <<< (y.toInt64 &&& 63)) :: st) h := sx_next (sx_do hd rfl)
theorem sx_lshr {x : Int64} {y : Int32} (hd : decode (ix_cc j) pc = .ok (.lshr, 1)) : ix_sem X d j pc L (.int y :: .long x :: st) h = ix_sem X d j (pc + 1) L (.long (x >>> (y.toInt64 &&& 63)) :: st) h := sx_next (sx_do hd rfl)
theorem sx_dup {v : Value} (hd : decode (ix_cc j) pc = .ok (.dup, 1)) (hv : v.category = 1) : ix_sem X d j pc L (v :: st) h = ix_sem X d j (pc + 1) L (v :: v :: st) h := sx_next ((sx_do hd rfl).trans (by simp only [ix_do, if_pos hv]))
theorem sx_pop {v : Value} (hd : decode (ix_cc j) pc = .ok (.pop, 1)) (hv : v.category = 1) : ix_sem X d j pc L (v :: st) h = ix_sem X d j (pc + 1) L st h := sx_next ((sx_do hd rfl).trans (by simp only [ix_do, if_pos hv]))
theorem sx_dup_x1 {v w : Value} (hd : decode (ix_cc j) pc = .ok (.dup_x1, 1)) (hv : v.category = 1 ∧ w.category = 1) : ix_sem X d j pc L (v :: w :: st) h = ix_sem X d j (pc + 1) L (v :: w :: v :: st) h := sx_next ((sx_do hd rfl).trans (by simp only [ix_do, if_pos hv]))
theorem sx_dup2 {v w : Value} (hd : decode (ix_cc j) pc = .ok (.dup2, 1)) (hv : v.category = 1 ∧ w.category = 1) : ix_sem X d j pc L (v :: w :: st) h = ix_sem X d j (pc + 1) L (v :: w :: v :: w :: st) h := sx_next ((sx_do hd rfl).trans (by simp only [ix_do, if_pos hv]))
theorem sx_jmp {i : Instr} {t : Nat} {off : Int} {n : Nat} {st' : List Value} (hd : decode (ix_cc j) pc = .ok (i, n)) (hn : ix_ln i n = true) (ht : ix_tg pc off = some t) (he : ix_do X j pc i L st h = ix_jmp pc off L st' h) : ix_sem X d j pc L st h = ix_sem X d j t L st' h := sx_next ((sx_do hd hn).trans (he.trans (by simp only [ix_jmp, ht])))
theorem sx_goto {t : Nat} {off : Int} (hd : decode (ix_cc j) pc = .ok (.goto off, 3)) (ht : ix_tg pc off = some t) : ix_sem X d j pc L st h = ix_sem X d j t L st h := sx_jmp hd rfl ht rfl
theorem sx_if {c : Jvm.ClassFile.Cond} {x : Int32} {t : Nat} {off : Int} {P : Prop} [Decidable P] (hd : decode (ix_cc j) pc = .ok (.ifCond c off, 3)) (ht : ix_tg pc off = some t) (hP : ix_cmp c x 0 = decide P) : ix_sem X d j pc L (.int x :: st) h = if P then ix_sem X d j t L st h else ix_sem X d j (pc + 3) L st h := by
  by_cases hp : P
  · rw [if_pos hp]
    exact sx_next ((sx_do hd rfl).trans (by simp only [ix_do, ht, ix_ovl, ix_i1, hP, decide_eq_true_eq, if_pos hp]))
  · rw [if_neg hp]
    exact sx_next ((sx_do hd rfl).trans (by simp only [ix_do, ht, ix_ovl, ix_i1, hP, decide_eq_true_eq, if_neg hp]))
theorem sx_icmp {c : Jvm.ClassFile.Cond} {x y : Int32} {t : Nat} {off : Int} {P : Prop} [Decidable P] (hd : decode (ix_cc j) pc = .ok (.if_icmp c off, 3)) (ht : ix_tg pc off = some t) (hP : ix_cmp c x y = decide P) : ix_sem X d j pc L (.int y :: .int x :: st) h = if P then ix_sem X d j t L st h else ix_sem X d j (pc + 3) L st h := by
  by_cases hp : P
  · rw [if_pos hp]
    exact sx_next ((sx_do hd rfl).trans (by simp only [ix_do, ht, ix_ovl, ix_i2, hP, decide_eq_true_eq, if_pos hp]))
  · rw [if_neg hp]
    exact sx_next ((sx_do hd rfl).trans (by simp only [ix_do, ht, ix_ovl, ix_i2, hP, decide_eq_true_eq, if_neg hp]))
theorem sx_ifnullN {t : Nat} {off : Int} (hd : decode (ix_cc j) pc = .ok (.ifnull off, 3)) (ht : ix_tg pc off = some t) : ix_sem X d j pc L (.null :: st) h = ix_sem X d j t L st h := sx_jmp hd rfl ht rfl
theorem sx_ifnull {a : Nat} {off : Int} (hd : decode (ix_cc j) pc = .ok (.ifnull off, 3)) : ix_sem X d j pc L (.ref a :: st) h = ix_sem X d j (pc + 3) L st h := sx_next (sx_do hd rfl)
theorem sx_ifnonnullN {off : Int} (hd : decode (ix_cc j) pc = .ok (.ifnonnull off, 3)) : ix_sem X d j pc L (.null :: st) h = ix_sem X d j (pc + 3) L st h := sx_next (sx_do hd rfl)
theorem sx_ifnonnull {a t : Nat} {off : Int} (hd : decode (ix_cc j) pc = .ok (.ifnonnull off, 3)) (ht : ix_tg pc off = some t) : ix_sem X d j pc L (.ref a :: st) h = ix_sem X d j t L st h := sx_jmp hd rfl ht rfl
theorem sx_tabOut {dd lo hi : Int} {offs : Array Int} {n t : Nat} {x : Int32} (hd : decode (ix_cc j) pc = .ok (.tableswitch dd lo hi offs, n)) (hx : x.toInt < lo ∨ hi < x.toInt) (ht : ix_tg pc dd = some t) : ix_sem X d j pc L (.int x :: st) h = ix_sem X d j t L st h := sx_jmp hd rfl ht (by simp only [ix_do, ix_i1, if_pos hx])
theorem sx_tabIn {dd lo hi off : Int} {offs : Array Int} {n t : Nat} {x : Int32} (hd : decode (ix_cc j) pc = .ok (.tableswitch dd lo hi offs, n)) (hx : ¬ (x.toInt < lo ∨ hi < x.toInt)) (ho : offs[(x.toInt - lo).toNat]? = some off) (ht : ix_tg pc off = some t) : ix_sem X d j pc L (.int x :: st) h = ix_sem X d j t L st h := sx_jmp hd rfl ht (by simp only [ix_do, ix_i1, if_neg hx, ix_ovl, ho])
theorem sx_lookup {dd : Int} {ps : Array (Int × Int)} {n t : Nat} {x : Int32} (hd : decode (ix_cc j) pc = .ok (.lookupswitch dd ps, n)) (hp : (ps.toList.zip (ps.toList.drop 1)).all (fun (a, b) => a.1 < b.1) = true) (ht : ix_tg pc (Op.lookupswitch.offset ps.toList dd x.toInt) = some t) : ix_sem X d j pc L (.int x :: st) h = ix_sem X d j t L st h := sx_jmp hd rfl ht (by simp only [ix_do, ix_i1, if_pos hp])
theorem sx_getstatic {k : Nat} {v : Value} (hd : decode (ix_cc j) pc = .ok (.getstatic k, 3)) (hv : ix_gs (ix_o j) k = some v) : ix_sem X d j pc L st h = ix_sem X d j (pc + 3) L (v :: st) h := sx_next ((sx_do hd rfl).trans (by simp only [ix_do, hv, ix_ovl]))
theorem sx_getfield {i k kd rc r : Nat} {cs : List Nat} (hd : decode (ix_cc j) pc = .ok (.getfield i, 3)) (hf : ix_fi (ix_o j) i = some (k, cs, kd, rc)) (hk : kd < 2) : ix_sem X d j pc L (.ref r :: st) h = ix_pv X d j (pc + 3) L (ix_g h r cs k) st h := by
  rw [← ix_g_eq]
  cases hg : ix_gf h r cs k with
  | some v => exact sx_next ((sx_do hd rfl).trans (by simp only [ix_do, hf, ix_ovl, if_pos hk, hg]))
  | none =>
    refine ix_opt_ext fun q => ?_
    rw [ix_sem_iff]
    constructor
    · rintro ⟨n, hn⟩
      cases n with
      | zero => simp [ix_run] at hn
      | succ n =>
        rw [ix_run, (sx_do (X := X) (L := L) (st := .ref r :: st) (h := h) hd rfl).trans (show _ = none by simp only [ix_do, hf, ix_ovl, if_pos hk, hg])] at hn
        simp at hn
    · intro z; cases z
theorem sx_none {i : Instr} {n : Nat} (hd : decode (ix_cc j) pc = .ok (i, n)) (hn : ix_ln i n = true) (he : ix_do X j pc i L st h = none) : ix_sem X d j pc L st h = none := by
  refine ix_opt_ext fun q => ?_
  rw [ix_sem_iff]
  constructor
  · rintro ⟨m, hm⟩
    cases m with
    | zero => simp [ix_run] at hm
    | succ m => rw [ix_run, (sx_do hd hn).trans he] at hm; simp at hm
  · intro z; cases z
theorem sx_tvalue {i rc k q : Nat} {cs : List Nat} (hd : decode (ix_cc j) pc = .ok (.getfield i, 3)) (hf : ix_fi (ix_o j) i = some (k, cs, 2, rc)) (hq : q % 2 = 0 ∧ 2 ≤ q ∧ q < 14) : ix_sem X d j pc L (.retAddr q :: st) h = ix_sem X d j (pc + 3) L (.retAddr (q + 1) :: st) h := sx_next ((sx_do hd rfl).trans (by simp only [ix_do, if_pos hq, hf, ix_ovl, if_true]))
theorem sx_tcoder {i rc k q : Nat} {cs : List Nat} (hd : decode (ix_cc j) pc = .ok (.getfield i, 3)) (hf : ix_fi (ix_o j) i = some (k, cs, 3, rc)) (hq : q % 2 = 0 ∧ 2 ≤ q ∧ q < 14) : ix_sem X d j pc L (.retAddr q :: st) h = ix_sem X d j (pc + 3) L (.int 0 :: st) h := sx_next ((sx_do hd rfl).trans (by simp only [ix_do, if_pos hq, hf, ix_ovl]; rfl))
theorem sx_putfield {i k kd rc r : Nat} {cs : List Nat} {t : FieldType} {v : Value} (hd : decode (ix_cc j) pc = .ok (.putfield i, 3)) (hf : ix_fi (ix_o j) i = some (k, cs, kd, rc)) (hk : kd < 2) (hs : ix_sok j cs k t = true) (hv : ix_vt t v = true) : ix_sem X d j pc L (v :: .ref r :: st) h = ix_ph X d j (pc + 3) L st (ix_s h r cs k v) := by
  rw [← ix_s_eq (j := j) hs hv]
  cases hg : ix_pf j h r cs k v with
  | some h' => exact sx_next ((sx_do hd rfl).trans (by simp only [ix_do, hf, ix_ovl, if_pos hk, hg, ix_ohp]))
  | none => exact sx_none hd rfl (by simp only [ix_do, hf, ix_ovl, if_pos hk, hg, ix_ohp])
theorem sx_iaload {a : Nat} {i : Int32} (hd : decode (ix_cc j) pc = .ok (.iaload, 1)) : ix_sem X d j pc L (.int i :: .ref a :: st) h = ix_pi X d j (pc + 1) L (ix_ra h a 0 i) st h := by
  cases hg : ix_ra h a 0 i with
  | some x => exact sx_next ((sx_do hd rfl).trans (by simp only [ix_do, hg, ix_ovl]))
  | none => exact sx_none hd rfl (by simp only [ix_do, hg, ix_ovl])
theorem sx_saload {i : Int32} (hd : decode (ix_cc j) pc = .ok (.iaload, 1)) (hi : 0 ≤ i ∧ i.toNatClampNeg < X.1) : ix_sem X d j pc L (.int i :: .retAddr 0 :: st) h = ix_sem X d j (pc + 1) L (.int (X.2 i.toNatClampNeg) :: st) h := sx_next ((sx_do hd rfl).trans (by simp only [ix_do, if_pos hi]))
theorem sx_baload {a : Nat} {i : Int32} (hd : decode (ix_cc j) pc = .ok (.baload, 1)) : ix_sem X d j pc L (.int i :: .ref a :: st) h = ix_pi X d j (pc + 1) L (ix_ra h a 1 i) st h := by
  cases hg : ix_ra h a 1 i with
  | some x => exact sx_next ((sx_do hd rfl).trans (by simp only [ix_do, hg, ix_ovl]))
  | none => exact sx_none hd rfl (by simp only [ix_do, hg, ix_ovl])
theorem sx_tbaload {q : Nat} {i : Int32} (hd : decode (ix_cc j) pc = .ok (.baload, 1)) : ix_sem X d j pc L (.int i :: .retAddr q :: st) h = ix_pi X d j (pc + 1) L (ix_by q i) st h := by
  cases hg : ix_by q i with
  | some x => exact sx_next ((sx_do hd rfl).trans (by simp only [ix_do, hg, ix_ovl]))
  | none => exact sx_none hd rfl (by simp only [ix_do, hg, ix_ovl])
theorem sx_aaload {a : Nat} {i : Int32} (hd : decode (ix_cc j) pc = .ok (.aaload, 1)) : ix_sem X d j pc L (.int i :: .ref a :: st) h = ix_po X d j (pc + 1) L (ix_rq h a i) st h := by
  cases hg : ix_rq h a i with
  | some x => exact sx_next ((sx_do hd rfl).trans (by simp only [ix_do, hg, ix_ovl]))
  | none => exact sx_none hd rfl (by simp only [ix_do, hg, ix_ovl])
theorem sx_iastore {a : Nat} {i x : Int32} (hd : decode (ix_cc j) pc = .ok (.iastore, 1)) : ix_sem X d j pc L (.int x :: .int i :: .ref a :: st) h = ix_ph X d j (pc + 1) L st (ix_wa h a 0 i x) := by
  cases hg : ix_wa h a 0 i x with
  | some x => exact sx_next ((sx_do hd rfl).trans (by simp only [ix_do, hg, ix_ohp]))
  | none => exact sx_none hd rfl (by simp only [ix_do, hg, ix_ohp])
theorem sx_bastore {a : Nat} {i x : Int32} (hd : decode (ix_cc j) pc = .ok (.bastore, 1)) (hx : x = 0 ∨ x = 1) : ix_sem X d j pc L (.int x :: .int i :: .ref a :: st) h = ix_ph X d j (pc + 1) L st (ix_wa h a 1 i x) := by
  cases hg : ix_wa h a 1 i x with
  | some x => exact sx_next ((sx_do hd rfl).trans (by simp only [ix_do, if_pos hx, hg, ix_ohp]))
  | none => exact sx_none hd rfl (by simp only [ix_do, if_pos hx, hg, ix_ohp])
theorem sx_aastore {a v : Nat} {i : Int32} (hd : decode (ix_cc j) pc = .ok (.aastore, 1)) : ix_sem X d j pc L (.ref v :: .int i :: .ref a :: st) h = ix_ph X d j (pc + 1) L st (ix_wq h a i v) := by
  cases hg : ix_wq h a i v with
  | some x => exact sx_next ((sx_do hd rfl).trans (by simp only [ix_do, hg, ix_ohp]))
  | none => exact sx_none hd rfl (by simp only [ix_do, hg, ix_ohp])
theorem sx_alen {a : Nat} (hd : decode (ix_cc j) pc = .ok (.arraylength, 1)) : ix_sem X d j pc L (.ref a :: st) h = ix_pn X d j (pc + 1) L (ix_al h a) st h := by
  cases hg : ix_al h a with
  | some x => exact sx_next ((sx_do hd rfl).trans (by simp only [ix_do, hg, ix_ovl]))
  | none => exact sx_none hd rfl (by simp only [ix_do, hg, ix_ovl])
theorem sx_slen (hd : decode (ix_cc j) pc = .ok (.arraylength, 1)) : ix_sem X d j pc L (.retAddr 0 :: st) h = ix_sem X d j (pc + 1) L (.int (Int32.ofNat X.1) :: st) h := sx_next (sx_do hd rfl)
theorem sx_tlen {q : Nat} (hd : decode (ix_cc j) pc = .ok (.arraylength, 1)) (hq : q % 2 = 1 ∧ 3 ≤ q ∧ q < 15) : ix_sem X d j pc L (.retAddr q :: st) h = ix_sem X d j (pc + 1) L (.int (Int32.ofNat (ix_tlen ((q - 3) / 2))) :: st) h := sx_next ((sx_do hd rfl).trans (by simp only [ix_do]; rw [if_neg (by omega), if_pos hq]))
theorem sx_newint {n : Int32} (hd : decode (ix_cc j) pc = .ok (.newarray .int, 2)) (hn : 0 ≤ n ∧ n.toNatClampNeg < 100000000) : ix_sem X d j pc L (.int n :: st) h = ix_sem X d j (pc + 2) L (.ref h.length :: st) (h ++ [.inl (0, n.toNatClampNeg, .inl (fun _ => 0))]) := sx_next ((sx_do hd rfl).trans (by simp only [ix_do, ix_i1, if_pos hn]))
theorem sx_newbool {n : Int32} (hd : decode (ix_cc j) pc = .ok (.newarray .boolean, 2)) (hn : 0 ≤ n ∧ n.toNatClampNeg < 100000000) : ix_sem X d j pc L (.int n :: st) h = ix_sem X d j (pc + 2) L (.ref h.length :: st) (h ++ [.inl (1, n.toNatClampNeg, .inl (fun _ => 0))]) := sx_next ((sx_do hd rfl).trans (by simp only [ix_do, ix_i1, if_pos hn]))
theorem sx_anew {k t : Nat} {n : Int32} (hd : decode (ix_cc j) pc = .ok (.anewarray k, 3)) (hk : ix_an (ix_o j) k = some t) (hn : 0 ≤ n ∧ n.toNatClampNeg < 100000000) : ix_sem X d j pc L (.int n :: st) h = ix_sem X d j (pc + 3) L (.ref h.length :: st) (h ++ [.inl (t, n.toNatClampNeg, .inr (.inr (.inr (.inr (fun _ => none)))))]) := sx_next ((sx_do hd rfl).trans (by simp only [ix_do, ix_i1, if_pos hn, hk, ix_ovl]))
theorem sx_new {k c : Nat} {fs : List Value} (hd : decode (ix_cc j) pc = .ok (.new k, 3)) (hk : ix_nw (ix_o j) k = some c) (hf : (List.range (ix_N c)).map (fun q => defaultValue (ix_ty c q)) = fs) : ix_sem X d j pc L st h = ix_sem X d j (pc + 3) L (.ref h.length :: st) (h ++ [.inr (c, fs)]) := by
  subst hf
  exact sx_next ((sx_do hd rfl).trans (by simp only [ix_do, hk, ix_ovl]))
theorem sx_inst {k r t : Nat} {ys ns : List Nat} (hd : decode (ix_cc j) pc = .ok (.instanceof k, 3)) (hk : ix_io (ix_o j) k = some (t, ys, ns)) {c : Nat} {v : Int32} (hc : ix_cls h r = some c) (hv : (if c ∈ ys then some (1 : Int32) else if c ∈ ns then some 0 else none) = some v) : ix_sem X d j pc L (.ref r :: st) h = ix_sem X d j (pc + 3) L (.int v :: st) h := by
  refine sx_next ((sx_do hd rfl).trans ?_)
  simp only [ix_do, hk, ix_ovl, hc]
  split at hv
  · rename_i h1
    cases hv
    rw [if_pos h1]
  · rename_i h1
    split at hv
    · rename_i h2
      cases hv
      rw [if_neg h1, if_pos h2]
    · cases hv
theorem sx_cast {k r t : Nat} {ys : List Nat} (hd : decode (ix_cc j) pc = .ok (.checkcast k, 3)) (hk : ix_ck (ix_o j) k = some (t, ys)) {c : Nat} (hc : ix_cls h r = some c) (hv : c ∈ ys) : ix_sem X d j pc L (.ref r :: st) h = ix_sem X d j (pc + 3) L (.ref r :: st) h := sx_next ((sx_do hd rfl).trans (by simp only [ix_do, hk, ix_ovl, hc, if_pos hv]))
theorem sx_popn {n : Nat} {as : List Value} {f : List Value → List Value → ix_A} (hn : as.length = n) (hw : ix_wt st ≤ 8) : ix_pop n (as.reverse ++ st) f = f as st := by
  have h1 : (as.reverse ++ st).take n = as.reverse := by rw [← hn, ← List.length_reverse]; simp
  have h2 : (as.reverse ++ st).drop n = st := by rw [← hn, ← List.length_reverse]; simp
  unfold ix_pop
  rw [h1, h2, if_pos ⟨by rw [List.length_append, List.length_reverse]; omega, hw⟩, List.reverse_reverse]
theorem sx_static {k n x j' y : Nat} {tg : List (Nat × Nat × Nat)} (as : List Value) {st0 : List Value} (hd : decode (ix_cc j) pc = .ok (.invokestatic k, 3)) (hk : ix_ca (ix_o j) k = some (0, n, (x, j', y) :: tg)) (hn : as.length = n) (hs : st0 = as.reverse ++ st) (hw : st.length ≤ 4) : ix_sem X (d + 1) j pc L st0 h = ix_bk X (d + 1) j (pc + 3) L st (ix_call X d j' as h) := by
  subst hs
  exact sx_call ((sx_do hd rfl).trans (by simp only [ix_do, hk, ix_inv, if_true]; exact sx_popn hn (ix_wt4 hw)))
theorem sx_max {k n : Nat} {x y : Int32} {tg : List (Nat × Nat × Nat)} (hd : decode (ix_cc j) pc = .ok (.invokestatic k, 3)) (hk : ix_ca (ix_o j) k = some (10, n, tg)) (hw : st.length ≤ 4) : ix_sem X d j pc L (.int y :: .int x :: st) h = ix_sem X d j (pc + 3) L (.int (if x < y then y else x) :: st) h := sx_next ((sx_do hd rfl).trans (by simp only [ix_do, hk, ix_inv]; exact if_pos (ix_wt4 hw)))
theorem sx_min {k n : Nat} {x y : Int32} {tg : List (Nat × Nat × Nat)} (hd : decode (ix_cc j) pc = .ok (.invokestatic k, 3)) (hk : ix_ca (ix_o j) k = some (11, n, tg)) (hw : st.length ≤ 4) : ix_sem X d j pc L (.int y :: .int x :: st) h = ix_sem X d j (pc + 3) L (.int (if y < x then y else x) :: st) h := sx_next ((sx_do hd rfl).trans (by simp only [ix_do, hk, ix_inv]; exact if_pos (ix_wt4 hw)))
theorem sx_abs {k n : Nat} {x : Int32} {tg : List (Nat × Nat × Nat)} (hd : decode (ix_cc j) pc = .ok (.invokestatic k, 3)) (hk : ix_ca (ix_o j) k = some (12, n, tg)) (hw : st.length ≤ 4) : ix_sem X d j pc L (.int x :: st) h = ix_sem X d j (pc + 3) L (.int (if 0 ≤ x then x else 0 - x) :: st) h := sx_next ((sx_do hd rfl).trans (by simp only [ix_do, hk, ix_inv]; exact if_pos (ix_wt4 hw)))
theorem sx_copy {k n a b : Nat} {sp dp m : Int32} {tg : List (Nat × Nat × Nat)} (hd : decode (ix_cc j) pc = .ok (.invokestatic k, 3)) (hk : ix_ca (ix_o j) k = some (8, n, tg)) (hw : st.length ≤ 4) : ix_sem X d j pc L (.int m :: .int dp :: .ref b :: .int sp :: .ref a :: st) h = ix_ph X d j (pc + 3) L st (ix_cpyh h a b sp dp m) := by
  have he : ix_do X j pc (.invokestatic k) L (.int m :: .int dp :: .ref b :: .int sp :: .ref a :: st) h = ix_ohp (ix_cpyh h a b sp dp m) fun h' => ix_nx (pc + 3) L st h' := by
    simp only [ix_do, hk, ix_inv]
    exact if_pos (ix_wt4 hw)
  cases hg : ix_cpyh h a b sp dp m with
  | some x => exact sx_next ((sx_do hd rfl).trans (he.trans (by simp only [hg, ix_ohp])))
  | none => exact sx_none hd rfl (he.trans (by simp only [hg, ix_ohp]))
theorem sx_init {k kk n x j' y b c : Nat} {tg : List (Nat × Nat × Nat)} (as : List Value) {st0 : List Value} (hkk : kk = 1 ∨ kk = 2) (hd : decode (ix_cc j) pc = .ok (.invokespecial k, 3)) (hk : ix_ca (ix_o j) k = some (kk, n, (x, j', y) :: tg)) (hn : as.length = n) (hs : st0 = (.ref b :: as).reverse ++ st) (hw : st.length ≤ 4) (hc : ix_cls h b = some c) : ix_sem X (d + 1) j pc L st0 h = ix_bk X (d + 1) j (pc + 3) L st (ix_call X d j' (.ref b :: as) h) := by
  subst hs
  refine sx_call ((sx_do hd rfl).trans ?_)
  simp only [ix_do, hk, ix_inv]
  rw [if_neg (by decide), if_pos trivial, if_pos hkk]
  refine (sx_popn (as := .ref b :: as) (n := n + 1) (by rw [List.length_cons, hn]) (ix_wt4 hw)).trans ?_
  simp only [hc]
theorem sx_super {k kk n b : Nat} {tg : List (Nat × Nat × Nat)} (as : List Value) {st0 : List Value} (hkk : kk = 3 ∨ kk = 9) (hd : decode (ix_cc j) pc = .ok (.invokespecial k, 3)) (hk : ix_ca (ix_o j) k = some (kk, n, tg)) (hn : as.length = n) (hs : st0 = (.ref b :: as).reverse ++ st) (hw : st.length ≤ 4) : ix_sem X (d + 1) j pc L st0 h = ix_bk X (d + 1) j (pc + 3) L st (ix_cv X d (ix_cls h b) tg (.ref b :: as) h) := by
  subst hs
  have he : ix_do X j pc (.invokespecial k) L ((.ref b :: as).reverse ++ st) h = ix_ovl (ix_cls h b) fun c => ix_ovl (tg.find? (fun e => e.1 == c)) fun e => ix_cal e.2.1 (.ref b :: as) (pc + 3) L st h := by
    simp only [ix_do, hk, ix_inv]
    rw [if_neg (by decide), if_pos trivial, if_neg (by omega), if_pos hkk]
    exact sx_popn (as := .ref b :: as) (n := n + 1) (by rw [List.length_cons, hn]) (ix_wt4 hw)
  cases hc : ix_cls h b with
  | none => exact sx_none hd rfl (he.trans (by rw [hc]; rfl))
  | some c =>
    simp only [ix_cv]
    cases hq : tg.find? (fun e => e.1 == c) with
    | none => exact sx_none hd rfl (he.trans (by rw [hc]; simp only [ix_ovl, hq]))
    | some e => exact sx_call ((sx_do hd rfl).trans (he.trans (by rw [hc]; simp only [ix_ovl, hq])))
theorem sx_objInit {k n b : Nat} {tg : List (Nat × Nat × Nat)} (hd : decode (ix_cc j) pc = .ok (.invokespecial k, 3)) (hk : ix_ca (ix_o j) k = some (7, n, tg)) (hw : st.length ≤ 4) : ix_sem X d j pc L (.ref b :: st) h = ix_sem X d j (pc + 3) L st h := sx_next ((sx_do hd rfl).trans (by simp only [ix_do, hk, ix_inv]; exact if_pos (ix_wt4 hw)))
theorem sx_virt {k n b : Nat} {tg : List (Nat × Nat × Nat)} (as : List Value) {st0 : List Value} (hd : decode (ix_cc j) pc = .ok (.invokevirtual k, 3)) (hk : ix_ca (ix_o j) k = some (4, n, tg)) (hn : as.length = n) (hs : st0 = (.ref b :: as).reverse ++ st) (hw : st.length ≤ 4) : ix_sem X (d + 1) j pc L st0 h = ix_bk X (d + 1) j (pc + 3) L st (ix_cv X d (ix_cls h b) tg (.ref b :: as) h) := by
  subst hs
  have he : ix_do X j pc (.invokevirtual k) L ((.ref b :: as).reverse ++ st) h = ix_ovl (ix_cls h b) fun c => ix_ovl (tg.find? (fun e => e.1 == c)) fun e => ix_cal e.2.1 (.ref b :: as) (pc + 3) L st h := by
    simp only [ix_do, hk, ix_inv]
    rw [if_neg (by decide), if_neg (by decide), if_pos trivial]
    exact sx_popn (as := .ref b :: as) (n := n + 1) (by rw [List.length_cons, hn]) (ix_wt4 hw)
  cases hc : ix_cls h b with
  | none => exact sx_none hd rfl (he.trans (by rw [hc]; rfl))
  | some c =>
    simp only [ix_cv]
    cases hq : tg.find? (fun e => e.1 == c) with
    | none => exact sx_none hd rfl (he.trans (by rw [hc]; simp only [ix_ovl, hq]))
    | some e => exact sx_call ((sx_do hd rfl).trans (he.trans (by rw [hc]; simp only [ix_ovl, hq])))
theorem sx_text {k n x j' y q : Nat} {tg : List (Nat × Nat × Nat)} (as : List Value) {st0 : List Value} (hd : decode (ix_cc j) pc = .ok (.invokevirtual k, 3)) (hk : ix_ca (ix_o j) k = some (6, n, (x, j', y) :: tg)) (hn : as.length = n) (hs : st0 = (.retAddr q :: as).reverse ++ st) (hw : st.length ≤ 4) (hq : q % 2 = 0 ∧ 2 ≤ q ∧ q < 14) : ix_sem X (d + 1) j pc L st0 h = ix_bk X (d + 1) j (pc + 3) L st (ix_call X d j' (.retAddr q :: as) h) := by
  subst hs
  refine sx_call ((sx_do hd rfl).trans ?_)
  simp only [ix_do, hk, ix_inv]
  rw [if_neg (by decide), if_neg (by decide), if_neg (by decide), if_pos trivial]
  refine (sx_popn (as := .retAddr q :: as) (n := n + 1) (by rw [List.length_cons, hn]) (ix_wt4 hw)).trans ?_
  exact if_pos hq
theorem sx_ireturn {v : Int32} {ty : FieldType} (hd : decode (ix_cc j) pc = .ok (.ireturn, 1)) (hr : ix_rt j = some ty) (hv : ty = .int ∨ narrow ty (.int v) = .int v) : ix_sem X d j pc L [.int v] h = some (some (.int v), h) := sx_ret ((sx_do hd rfl).trans (by simp only [ix_do, ix_retI, hr, if_pos hv]))
theorem sx_lreturn {v : Int64} (hd : decode (ix_cc j) pc = .ok (.lreturn, 1)) (hr : ix_rt j = some .long) : ix_sem X d j pc L [.long v] h = some (some (.long v), h) := sx_ret ((sx_do hd rfl).trans (by simp only [ix_do, if_pos hr]))
theorem sx_areturn {a : Nat} {n : String} (hd : decode (ix_cc j) pc = .ok (.areturn, 1)) (hr : ix_rt j = some (.object n)) : ix_sem X d j pc L [.ref a] h = some (some (.ref a), h) := sx_ret ((sx_do hd rfl).trans (by simp only [ix_do, ix_retA, ix_kd, if_true, hr]))
theorem sx_areturnN {n : String} (hd : decode (ix_cc j) pc = .ok (.areturn, 1)) (hr : ix_rt j = some (.object n)) : ix_sem X d j pc L [.null] h = some (some .null, h) := sx_ret ((sx_do hd rfl).trans (by simp only [ix_do, ix_retA, ix_kd, if_true, hr]))
theorem sx_return (hd : decode (ix_cc j) pc = .ok (.return_, 1)) (hr : ix_rt j = none) : ix_sem X d j pc L [] h = some (none, h) := sx_ret ((sx_do hd rfl).trans (by simp only [ix_do, if_pos hr]))
theorem sx_entry {as : List Value} {L0 : ix_L} (he : ix_ent j as = some L0) : ix_call X d j as h = ix_sem X d j 0 L0 [] h := by unfold ix_call; rw [he]
end SX
def ix_in3 (oc : Option Nat) (ys ns : List Nat) : Option Int32 := match oc with
  | none => none
  | some c => if ix_isin ys c = true then some 1 else if ix_isin ns c = true then some 0 else none
theorem sx_inst3 {X : ix_X} {d j pc : Nat} {L : ix_L} {st : List Value} {h : ix_H} {k r t : Nat} {ys ns : List Nat} (hd : decode (ix_cc j) pc = .ok (.instanceof k, 3)) (hk : ix_io (ix_o j) k = some (t, ys, ns)) : ix_sem X d j pc L (.ref r :: st) h = ix_pi X d j (pc + 3) L (ix_in3 (ix_cls h r) ys ns) st h := by
  cases hc : ix_cls h r with
  | none => exact sx_none hd rfl (by simp only [ix_do, hk, ix_ovl, hc])
  | some c =>
    simp only [ix_in3, ix_isin, List.contains_iff_mem]
    by_cases h1 : c ∈ ys
    · rw [if_pos h1]
      exact sx_inst hd hk hc (by rw [if_pos h1])
    · rw [if_neg h1]
      by_cases h2 : c ∈ ns
      · rw [if_pos h2]
        exact sx_inst hd hk hc (by rw [if_neg h1, if_pos h2])
      · rw [if_neg h2]
        exact sx_none hd rfl (by simp only [ix_do, hk, ix_ovl, hc, if_neg h1, if_neg h2])
def ix_ck3 (oc : Option Nat) (ys : List Nat) : Bool := match oc with
  | none => false
  | some c => ix_isin ys c
theorem sx_cast3 {X : ix_X} {d j pc : Nat} {L : ix_L} {st : List Value} {h : ix_H} {k r t : Nat} {ys : List Nat} (hd : decode (ix_cc j) pc = .ok (.checkcast k, 3)) (hk : ix_ck (ix_o j) k = some (t, ys)) (hc : ix_ck3 (ix_cls h r) ys = true) : ix_sem X d j pc L (.ref r :: st) h = ix_sem X d j (pc + 3) L (.ref r :: st) h := by
  unfold ix_ck3 at hc
  cases hq : ix_cls h r with
  | none => rw [hq] at hc; cases hc
  | some c =>
    rw [hq] at hc
    exact sx_cast hd hk hq (by simpa [ix_isin] using hc)
theorem sx_init3 {X : ix_X} {d j pc : Nat} {L : ix_L} {st : List Value} {h : ix_H} {k kk n x j' y b : Nat} {tg : List (Nat × Nat × Nat)} (as : List Value) {st0 : List Value} (hkk : kk = 1 ∨ kk = 2) (hd : decode (ix_cc j) pc = .ok (.invokespecial k, 3)) (hk : ix_ca (ix_o j) k = some (kk, n, (x, j', y) :: tg)) (hn : as.length = n) (hs : st0 = (.ref b :: as).reverse ++ st) (hw : st.length ≤ 4) (hc : (ix_cls h b).isSome = true) : ix_sem X (d + 1) j pc L st0 h = ix_bk X (d + 1) j (pc + 3) L st (ix_call X d j' (.ref b :: as) h) := by
  obtain ⟨c, hc⟩ := Option.isSome_iff_exists.mp hc
  exact sx_init as hkk hd hk hn hs hw hc
