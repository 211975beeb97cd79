/-! ===== one instruction, a run, what a run means ===== -/
/-- the arguments of a call and what stands below them -/
def ix_pop (n : Nat) (st : List Value) (f : List Value → List Value → ix_A) : ix_A := if n ≤ st.length ∧ ix_wt (st.drop n) ≤ 8 then f (st.take n).reverse (st.drop n) else none
def ix_inv (pc : Nat) (kd : Nat) (ca : Option (Nat × Nat × List (Nat × Nat × Nat))) (L : ix_L) (st : List Value) (h : ix_H) : ix_A := match ca with
  | some (k, n, tg) =>
    if kd = 0 then
      if k = 0 then match tg with
        | (_, j, _) :: _ => ix_pop n st fun as r => ix_cal j as (pc + 3) L r h
        | _ => none
      else if k = 8 then match st with
        | .int m :: .int dp :: .ref b :: .int sp :: .ref a :: r => if ix_wt r ≤ 8 then ix_ohp (ix_cpyh h a b sp dp m) fun h' => ix_nx (pc + 3) L r h' else none
        | _ => none
      else if k = 10 then match st with
        | .int y :: .int x :: r => if ix_wt r ≤ 8 then ix_nx (pc + 3) L (.int (if x < y then y else x) :: r) h else none
        | _ => none
      else if k = 11 then match st with
        | .int y :: .int x :: r => if ix_wt r ≤ 8 then ix_nx (pc + 3) L (.int (if y < x then y else x) :: r) h else none
        | _ => none
      else if k = 12 then match st with
        | .int x :: r => if ix_wt r ≤ 8 then ix_nx (pc + 3) L (.int (if 0 ≤ x then x else 0 - x) :: r) h else none
        | _ => none
      else none
    else if kd = 1 then
      if k = 1 ∨ k = 2 then match tg with
        | (_, j, _) :: _ => ix_pop (n + 1) st fun as r => match as with
          | .ref b :: _ => match ix_cls h b with
            | some _ => ix_cal j as (pc + 3) L r h
            | none => none
          | _ => none
        | _ => none
      else if k = 3 ∨ k = 9 then ix_pop (n + 1) st fun as r => match as with
        | .ref b :: _ => ix_ovl (ix_cls h b) fun c => ix_ovl (tg.find? (fun e => e.1 == c)) fun e => ix_cal e.2.1 as (pc + 3) L r h
        | _ => none
      else if k = 7 then match st with
        | .ref b :: r => if ix_wt r ≤ 8 then ix_nx (pc + 3) L r h else none
        | _ => none
      else none
    else
      if k = 4 then ix_pop (n + 1) st fun as r => match as with
        | .ref b :: _ => ix_ovl (ix_cls h b) fun c => ix_ovl (tg.find? (fun e => e.1 == c)) fun e => ix_cal e.2.1 as (pc + 3) L r h
        | _ => none
      else if k = 6 then match tg with
        | (_, j, _) :: _ => ix_pop (n + 1) st fun as r => match as with
          | .retAddr q :: _ => if q % 2 = 0 ∧ 2 ≤ q ∧ q < 14 then ix_cal j as (pc + 3) L r h else none
          | _ => none
        | _ => none
      else none
  | none => none
def ix_retI (j : Nat) (st : List Value) : ix_A := match st with
  | .int v :: [] => match ix_rt j with
    | some ty => if ty = .int ∨ narrow ty (.int v) = .int v then ix_rt1 (some (.int v)) else none
    | none => none
  | _ => none
def ix_retA (j : Nat) (st : List Value) : ix_A := match st with
  | v :: [] => if ix_kd v = 2 then (match v with
    | .retAddr _ => none
    | _ => match ix_rt j with
      | some (.object _) => ix_rt1 (some v)
      | _ => none) else none
  | _ => none
def ix_do (X : ix_X) (j pc : Nat) (i : Instr) (L : ix_L) (st : List Value) (h : ix_H) : ix_A := match i with
  | .aconst_null => ix_nx (pc + 1) L (.null :: st) h
  | .iconst n => ix_nx (pc + 1) L (.int (Int32.ofInt n) :: st) h
  | .bipush n => ix_nx (pc + 2) L (.int (Int8.ofInt n).toInt32 :: st) h
  | .sipush n => ix_nx (pc + 3) L (.int (Int16.ofInt n).toInt32 :: st) h
  | .lconst n => ix_nx (pc + 1) L (.long (Int64.ofNat (n : Nat)) :: st) h
  | .ldc k => ix_ovl (ix_lc (ix_o j) k) fun v => if ix_kd v = 1 then none else ix_nx (pc + 2) L (v :: st) h
  | .ldc2_w k => ix_ovl (ix_lc (ix_o j) k) fun v => if ix_kd v = 1 then ix_nx (pc + 3) L (v :: st) h else none
  | .iload k => ix_ld L k 0 fun v => ix_nx (pc + 2) L (v :: st) h
  | .iload_n k => ix_ld L k 0 fun v => ix_nx (pc + 1) L (v :: st) h
  | .lload k => ix_ld L k 1 fun v => ix_nx (pc + 2) L (v :: st) h
  | .lload_n k => ix_ld L k 1 fun v => ix_nx (pc + 1) L (v :: st) h
  | .aload k => ix_ld L k 2 fun v => ix_nx (pc + 2) L (v :: st) h
  | .aload_n k => ix_ld L k 2 fun v => ix_nx (pc + 1) L (v :: st) h
  | .istore k => ix_so j L k 0 st fun L' r => ix_nx (pc + 2) L' r h
  | .istore_n k => ix_so j L k 0 st fun L' r => ix_nx (pc + 1) L' r h
  | .astore k => ix_so j L k 2 st fun L' r => ix_nx (pc + 2) L' r h
  | .astore_n k => ix_so j L k 2 st fun L' r => ix_nx (pc + 1) L' r h
  | .lstore k => ix_sl j L k st fun L' r => ix_nx (pc + 2) L' r h
  | .lstore_n k => ix_sl j L k st fun L' r => ix_nx (pc + 1) L' r h
  | .iinc k n => ix_ld L k 0 fun v => match v with
    | .int x => ix_so j L k 0 [.int (x + Int32.ofInt n)] fun L' _ => ix_nx (pc + 3) L' st h
    | _ => none
  | .iadd => ix_i2 st fun x y r => ix_nx (pc + 1) L (.int (x + y) :: r) h
  | .isub => ix_i2 st fun x y r => ix_nx (pc + 1) L (.int (x - y) :: r) h
  | .imul => ix_i2 st fun x y r => ix_nx (pc + 1) L (.int (x * y) :: r) h
  | .idiv => ix_i2 st fun x y r => if y = 0 then none else ix_nx (pc + 1) L (.int (x / y) :: r) h
  | .irem => ix_i2 st fun x y r => if y = 0 then none else ix_nx (pc + 1) L (.int (x - x / y * y) :: r) h
  | .ineg => ix_i1 st fun x r => ix_nx (pc + 1) L (.int (-x) :: r) h
  | .iand => ix_i2 st fun x y r => ix_nx (pc + 1) L (.int (x &&& y) :: r) h
  | .ior => ix_i2 st fun x y r => ix_nx (pc + 1) L (.int (x ||| y) :: r) h
  | .ixor => ix_i2 st fun x y r => ix_nx (pc + 1) L (.int (x ^^^ y) :: r) h
  | .ishl => ix_i2 st fun x y r => ix_nx (pc + 1) L (.int (x <<< (y &&& 31)) :: r) h
  | .ishr => ix_i2 st fun x y r => ix_nx (pc + 1) L (.int (x >>> (y &&& 31)) :: r) h
  | .i2l => ix_i1 st fun x r => ix_nx (pc + 1) L (.long x.toInt64 :: r) h
  | .l2i => ix_l1 st fun x r => ix_nx (pc + 1) L (.int x.toInt32 :: r) h
  | .i2b => ix_i1 st fun x r => ix_nx (pc + 1) L (.int x.toInt8.toInt32 :: r) h
  | .i2c => ix_i1 st fun x r => ix_nx (pc + 1) L (.int (x.toUInt32 % 65536).toInt32 :: r) h
  | .ladd => ix_l2 st fun x y r => ix_nx (pc + 1) L (.long (x + y) :: r) h
  | .land => ix_l2 st fun x y r => ix_nx (pc + 1) L (.long (x &&& y) :: r) h
  | .lor => ix_l2 st fun x y r => ix_nx (pc + 1) L (.long (x ||| y) :: r) h
  | .lxor => ix_l2 st fun x y r => ix_nx (pc + 1) L (.long (x ^^^ y) :: r) h
  | .ldiv => ix_l2 st fun x y r => if y = 0 then none else ix_nx (pc + 1) L (.long (x / y) :: r) h
  | .lrem => ix_l2 st fun x y r => if y = 0 then none else ix_nx (pc + 1) L (.long (x - x / y * y) :: r) h
  | .lcmp => ix_l2 st fun x y r => ix_nx (pc + 1) L (.int (lg_cmp x y) :: r) h
  | .lshl => ix_li st fun x y r => ix_nx (pc + 1) L (.long (x <<< (y.toInt64 &&& 63)) :: r) h
  | .lshr => ix_li st fun x y r => ix_nx (pc + 1) L (.long (x >>> (y.toInt64 &&& 63)) :: r) h
  | .dup => match st with
    | v :: r => if v.category = 1 then ix_nx (pc + 1) L (v :: v :: r) h else none
    | _ => none
  | .pop => match st with
    | v :: r => if v.category = 1 then ix_nx (pc + 1) L r h else none
    | _ => none
  | .dup_x1 => match st with
    | v :: w :: r => if v.category = 1 ∧ w.category = 1 then ix_nx (pc + 1) L (v :: w :: v :: r) h else none
    | _ => none
  | .dup2 => match st with
    | v :: w :: r => if v.category = 1 ∧ w.category = 1 then ix_nx (pc + 1) L (v :: w :: v :: w :: r) h else none
    | _ => none
  | .goto off => ix_jmp pc off L st h
  | .ifCond c off => ix_ovl (ix_tg pc off) fun t => ix_i1 st fun x r => if ix_cmp c x 0 = true then ix_nx t L r h else ix_nx (pc + 3) L r h
  | .if_icmp c off => ix_ovl (ix_tg pc off) fun t => ix_i2 st fun x y r => if ix_cmp c x y = true then ix_nx t L r h else ix_nx (pc + 3) L r h
  | .ifnull off => match st with
    | .null :: r => ix_jmp pc off L r h
    | .ref _ :: r => ix_nx (pc + 3) L r h
    | _ => none
  | .ifnonnull off => match st with
    | .null :: r => ix_nx (pc + 3) L r h
    | .ref _ :: r => ix_jmp pc off L r h
    | _ => none
  | .tableswitch d lo hi offs => ix_i1 st fun x r => if x.toInt < lo ∨ hi < x.toInt then ix_jmp pc d L r h else ix_ovl offs[(x.toInt - lo).toNat]? fun off => ix_jmp pc off L r h
  | .lookupswitch d ps => ix_i1 st fun x r => if (ps.toList.zip (ps.toList.drop 1)).all (fun (a, b) => a.1 < b.1) = true then ix_jmp pc (Op.lookupswitch.offset ps.toList d x.toInt) L r h else none
  | .getstatic k => ix_ovl (ix_gs (ix_o j) k) fun v => ix_nx (pc + 3) L (v :: st) h
  | .getfield k => match st with
    | .ref r :: st' => ix_ovl (ix_fi (ix_o j) k) fun e => if e.2.2.1 < 2 then ix_ovl (ix_gf h r e.2.1 e.1) fun v => ix_nx (pc + 3) L (v :: st') h else none
    | .retAddr q :: st' => if q % 2 = 0 ∧ 2 ≤ q ∧ q < 14 then ix_ovl (ix_fi (ix_o j) k) fun e => if e.2.2.1 = 2 then ix_nx (pc + 3) L (.retAddr (q + 1) :: st') h else if e.2.2.1 = 3 then ix_nx (pc + 3) L (.int 0 :: st') h else none else none
    | _ => none
  | .putfield k => match st with
    | v :: .ref r :: st' => ix_ovl (ix_fi (ix_o j) k) fun e => if e.2.2.1 < 2 then ix_ohp (ix_pf j h r e.2.1 e.1 v) fun h' => ix_nx (pc + 3) L st' h' else none
    | _ => none
  | .iaload => match st with
    | .int i :: .ref a :: r => ix_ovl (ix_ra h a 0 i) fun x => ix_nx (pc + 1) L (.int x :: r) h
    | .int i :: .retAddr 0 :: r => if 0 ≤ i ∧ i.toNatClampNeg < X.1 then ix_nx (pc + 1) L (.int (X.2 i.toNatClampNeg) :: r) h else none
    | _ => none
  | .baload => match st with
    | .int i :: .ref a :: r => ix_ovl (ix_ra h a 1 i) fun x => ix_nx (pc + 1) L (.int x :: r) h
    | .int i :: .retAddr q :: r => ix_ovl (ix_by q i) fun x => ix_nx (pc + 1) L (.int x :: r) h
    | _ => none
  | .aaload => match st with
    | .int i :: .ref a :: r => ix_ovl (ix_rq h a i) fun o => ix_nx (pc + 1) L (va_rf o :: r) h
    | _ => none
  | .iastore => match st with
    | .int x :: .int i :: .ref a :: r => ix_ohp (ix_wa h a 0 i x) fun h' => ix_nx (pc + 1) L r h'
    | _ => none
  | .bastore => match st with
    | .int x :: .int i :: .ref a :: r => if x = 0 ∨ x = 1 then ix_ohp (ix_wa h a 1 i x) fun h' => ix_nx (pc + 1) L r h' else none
    | _ => none
  | .aastore => match st with
    | .ref v :: .int i :: .ref a :: r => ix_ohp (ix_wq h a i v) fun h' => ix_nx (pc + 1) L r h'
    | _ => none
  | .arraylength => match st with
    | .ref a :: r => ix_ovl (ix_al h a) fun n => ix_nx (pc + 1) L (.int (Int32.ofNat n) :: r) h
    | .retAddr q :: r => if q = 0 then ix_nx (pc + 1) L (.int (Int32.ofNat X.1) :: r) h else if q % 2 = 1 ∧ 3 ≤ q ∧ q < 15 then ix_nx (pc + 1) L (.int (Int32.ofNat (ix_tlen ((q - 3) / 2))) :: r) h else none
    | _ => none
  | .newarray t => ix_i1 st fun x r => if 0 ≤ x ∧ x.toNatClampNeg < 100000000 then (match t with
    | .int => ix_nx (pc + 2) L (.ref h.length :: r) (h ++ [.inl (0, x.toNatClampNeg, .inl (fun _ => 0))])
    | .boolean => ix_nx (pc + 2) L (.ref h.length :: r) (h ++ [.inl (1, x.toNatClampNeg, .inl (fun _ => 0))])
    | _ => none) else none
  | .anewarray k => ix_i1 st fun x r => if 0 ≤ x ∧ x.toNatClampNeg < 100000000 then ix_ovl (ix_an (ix_o j) k) fun t => ix_nx (pc + 3) L (.ref h.length :: r) (h ++ [.inl (t, x.toNatClampNeg, .inr (.inr (.inr (.inr (fun _ => none)))))]) else none
  | .new k => ix_ovl (ix_nw (ix_o j) k) fun c => ix_nx (pc + 3) L (.ref h.length :: st) (h ++ [.inr (c, (List.range (ix_N c)).map (fun q => defaultValue (ix_ty c q)))])
  | .instanceof k => match st with
    | .ref r :: st' => ix_ovl (ix_io (ix_o j) k) fun e => ix_ovl (ix_cls h r) fun c => if c ∈ e.2.1 then ix_nx (pc + 3) L (.int 1 :: st') h else if c ∈ e.2.2 then ix_nx (pc + 3) L (.int 0 :: st') h else none
    | _ => none
  | .checkcast k => match st with
    | .ref r :: st' => ix_ovl (ix_ck (ix_o j) k) fun e => ix_ovl (ix_cls h r) fun c => if c ∈ e.2 then ix_nx (pc + 3) L (.ref r :: st') h else none
    | _ => none
  | .invokestatic k => ix_inv pc 0 (ix_ca (ix_o j) k) L st h
  | .invokespecial k => ix_inv pc 1 (ix_ca (ix_o j) k) L st h
  | .invokevirtual k => ix_inv pc 2 (ix_ca (ix_o j) k) L st h
  | .ireturn => ix_retI j st
  | .lreturn => match st with
    | .long v :: [] => if ix_rt j = some .long then ix_rt1 (some (.long v)) else none
    | _ => none
  | .areturn => ix_retA j st
  | .return_ => match st with
    | [] => if ix_rt j = none then ix_rt1 none else none
    | _ => none
  | _ => none
def ix_act (X : ix_X) (j pc : Nat) (L : ix_L) (st : List Value) (h : ix_H) : ix_A := match decode (ix_cc j) pc with
  | .ok (i, n) => if ix_ln i n = true then ix_do X j pc i L st h else none
  | _ => none
/-- the locals at a method's entry -/
def ix_sp : List Value → ix_L
  | [] => []
  | .long x :: r => some (.long x) :: none :: ix_sp r
  | v :: r => some v :: ix_sp r
def ix_lgok (j : Nat) : Nat → ix_L → Bool
  | _, [] => true
  | k, some (.long _) :: r => (ix_lg j).contains k && ix_lgok j (k + 1) r
  | _, some (.double _) :: _ => false
  | k, _ :: r => ix_lgok j (k + 1) r
def ix_ent (j : Nat) (as : List Value) : Option ix_L := if (ix_sp as).length ≤ ix_mx j ∧ ix_lgok j 0 (ix_sp as) = true then some (ix_sp as ++ List.replicate (ix_mx j - (ix_sp as).length) none) else none
def ix_run (X : ix_X) : Nat → Nat → Nat → Nat → ix_L → List Value → ix_H → Option (Option Value × ix_H)
  | 0, _, _, _, _, _, _ => none
  | n + 1, d, j, pc, L, st, h => match ix_act X j pc L st h with
    | none => none
    | some (.inl v) => some (v, h)
    | some (.inr (.inl (pc', L', st', h'))) => ix_run X n d j pc' L' st' h'
    | some (.inr (.inr (j', as, pc', L', st', h'))) => match d with
      | 0 => none
      | d' + 1 => match ix_ent j' as with
        | none => none
        | some L0 => match ix_run X n d' j' 0 L0 [] h' with
          | none => none
          | some (v, h2) => ix_run X n (d' + 1) j pc' L' (v.toList ++ st') h2
theorem ix_run_mono {X : ix_X} : ∀ (n : Nat) {m : Nat} {d j pc : Nat} {L : ix_L} {st : List Value} {h : ix_H} {r : Option Value × ix_H}, n ≤ m → ix_run X n d j pc L st h = some r → ix_run X m d j pc L st h = some r := by
  intro n
  induction n with
  | zero => intro m d j pc L st h r _ e; simp [ix_run] at e
  | succ n ih =>
    intro m d j pc L st h r hm e
    obtain ⟨m, rfl⟩ : ∃ k, m = k + 1 := ⟨m - 1, by omega⟩
    have hm' : n ≤ m := by omega
    rw [ix_run] at e ⊢
    cases ha : ix_act X j pc L st h with
    | none => rw [ha] at e; simp at e
    | some a =>
      rw [ha] at e
      rcases a with v | ⟨pc', L', st', h'⟩ | ⟨j', as, pc', L', st', h'⟩
      · exact e
      · exact ih hm' e
      · cases d with
        | zero => simp at e
        | succ d =>
          simp only at e ⊢
          cases hL : ix_ent j' as with
          | none => rw [hL] at e; simp at e
          | some L0 =>
            rw [hL] at e
            simp only at e ⊢
            cases hr : ix_run X n d j' 0 L0 [] h' with
            | none => rw [hr] at e; simp at e
            | some q =>
              rw [hr] at e
              rw [ih hm' hr]
              simp only at e ⊢
              exact ih hm' e
noncomputable def ix_sem (X : ix_X) (d j pc : Nat) (L : ix_L) (st : List Value) (h : ix_H) : Option (Option Value × ix_H) :=
  @dite _ (∃ (r : Option Value × ix_H) (n : Nat), ix_run X n d j pc L st h = some r) (Classical.propDecidable _) (fun q => some q.choose) (fun _ => none)
theorem ix_sem_iff {X : ix_X} {d j pc : Nat} {L : ix_L} {st : List Value} {h : ix_H} {r : Option Value × ix_H} : ix_sem X d j pc L st h = some r ↔ ∃ n, ix_run X n d j pc L st h = some r := by
  unfold ix_sem
  by_cases q : ∃ (r : Option Value × ix_H) (n : Nat), ix_run X n d j pc L st h = some r
  · rw [dif_pos q]
    obtain ⟨n, hn⟩ := q.choose_spec
    constructor
    · intro e
      rw [← Option.some.inj e]
      exact ⟨n, hn⟩
    · rintro ⟨m, hm⟩
      have h1 := ix_run_mono n (Nat.le_max_left n m) hn
      have h2 := ix_run_mono m (Nat.le_max_right n m) hm
      exact h1.symm.trans h2
  · rw [dif_neg q]
    constructor
    · intro e; cases e
    · rintro ⟨m, hm⟩; exact absurd ⟨r, m, hm⟩ q
noncomputable def ix_call (X : ix_X) (d j : Nat) (as : List Value) (h : ix_H) : Option (Option Value × ix_H) := match ix_ent j as with
  | none => none
  | some L0 => ix_sem X d j 0 L0 [] h
/-- behind a call -/
noncomputable def ix_bk (X : ix_X) (d j pc : Nat) (L : ix_L) (st : List Value) (o : Option (Option Value × ix_H)) : Option (Option Value × ix_H) := match o with
  | none => none
  | some (v, h2) => ix_sem X d j pc L (v.toList ++ st) h2
theorem ix_bk_v {X : ix_X} {d j pc : Nat} {L : ix_L} {st : List Value} {v : Value} {h : ix_H} : ix_bk X d j pc L st (some (some v, h)) = ix_sem X d j pc L (v :: st) h := rfl
theorem ix_bk_n {X : ix_X} {d j pc : Nat} {L : ix_L} {st : List Value} {h : ix_H} : ix_bk X d j pc L st (some (none, h)) = ix_sem X d j pc L st h := rfl
theorem ix_opt_ext {α : Type} {a b : Option α} (h : ∀ r, a = some r ↔ b = some r) : a = b := by
  cases a with
  | none => cases b with
    | none => rfl
    | some y => exact absurd ((h y).mpr rfl) (by simp)
  | some x => exact ((h x).mp rfl).symm
theorem sx_next {X : ix_X} {d j pc pc' : Nat} {L L' : ix_L} {st st' : List Value} {h h' : ix_H} (e : ix_act X j pc L st h = ix_nx pc' L' st' h') : ix_sem X d j pc L st h = ix_sem X d j pc' L' st' h' := by
  refine ix_opt_ext fun r => ?_
  rw [ix_sem_iff, ix_sem_iff]
  constructor
  · rintro ⟨n, hn⟩
    cases n with
    | zero => simp [ix_run] at hn
    | succ n => rw [ix_run, e] at hn; exact ⟨n, hn⟩
  · rintro ⟨n, hn⟩
    exact ⟨n + 1, by rw [ix_run, e]; exact hn⟩
theorem sx_ret {X : ix_X} {d j pc : Nat} {L : ix_L} {st : List Value} {h : ix_H} {v : Option Value} (e : ix_act X j pc L st h = ix_rt1 v) : ix_sem X d j pc L st h = some (v, h) := by
  rw [ix_sem_iff]
  exact ⟨1, by rw [ix_run, e]⟩
theorem sx_call {X : ix_X} {d j pc j' pc' : Nat} {L L' : ix_L} {st st' as : List Value} {h h' : ix_H} (e : ix_act X j pc L st h = ix_cal j' as pc' L' st' h') : ix_sem X (d + 1) j pc L st h = ix_bk X (d + 1) j pc' L' st' (ix_call X d j' as h') := by
  refine ix_opt_ext fun r => ?_
  unfold ix_call ix_bk
  rw [ix_sem_iff]
  cases hL : ix_ent j' as with
  | none =>
    simp only
    constructor
    · rintro ⟨n, hn⟩
      cases n with
      | zero => simp [ix_run] at hn
      | succ n => rw [ix_run, e] at hn; simp [hL] at hn
    · intro q; cases q
  | some L0 =>
    simp only
    constructor
    · rintro ⟨n, hn⟩
      cases n with
      | zero => simp [ix_run] at hn
      | succ n =>
        rw [ix_run, e] at hn
        simp only [hL] at hn
        cases hr : ix_run X n d j' 0 L0 [] h' with
        | none => rw [hr] at hn; simp at hn
        | some q =>
          obtain ⟨v, h2⟩ := q
          rw [hr] at hn
          rw [ix_sem_iff.mpr ⟨n, hr⟩]
          simp only at hn ⊢
          exact ix_sem_iff.mpr ⟨n, hn⟩
    · intro q
      cases hs : ix_sem X d j' 0 L0 [] h' with
      | none => rw [hs] at q; simp at q
      | some q2 =>
        obtain ⟨v, h2⟩ := q2
        rw [hs] at q
        simp only at q
        obtain ⟨n, hn⟩ := ix_sem_iff.mp hs
        obtain ⟨m, hm⟩ := ix_sem_iff.mp q
        refine ⟨max n m + 1, ?_⟩
        rw [ix_run, e]
        simp only [hL]
        rw [ix_run_mono n (Nat.le_max_left n m) hn]
        exact ix_run_mono m (Nat.le_max_right n m) hm
