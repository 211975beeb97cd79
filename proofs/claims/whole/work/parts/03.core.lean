/-! ===== A SMALL INTERPRETER: references are places in a list of cells; the methods' tables are part 02's ===== -/
abbrev ix_C : Type := (Nat × vp_A) ⊕ (Nat × List Value)
abbrev ix_H : Type := List ix_C
abbrev ix_L : Type := List (Option Value)
abbrev ix_S : Type := Nat × ix_L × List Value × ix_H
abbrev ix_A : Type := Option (Option Value ⊕ (ix_S ⊕ (Nat × List Value × ix_S)))
abbrev ix_X : Type := Nat × (Nat → Int32)
abbrev ix_nx (pc : Nat) (L : ix_L) (st : List Value) (h : ix_H) : ix_A := some (.inr (.inl (pc, L, st, h)))
abbrev ix_cal (j : Nat) (as : List Value) (pc : Nat) (L : ix_L) (st : List Value) (h : ix_H) : ix_A := some (.inr (.inr (j, as, pc, L, st, h)))
abbrev ix_rt1 (v : Option Value) : ix_A := some (.inl v)
def ix_at (h : ix_H) (r : Nat) : Option ix_C := h[r]?
def ix_up (h : ix_H) (r : Nat) (c : ix_C) : ix_H := h.set r c
def ix_wt (st : List Value) : Nat := (st.map fun v => v.category).sum
/-- the length that an instruction must have -/
def ix_ln : Instr → Nat → Bool
  | .aload _, n => n == 2
  | .astore _, n => n == 2
  | .bipush _, n => n == 2
  | .iload _, n => n == 2
  | .istore _, n => n == 2
  | .lload _, n => n == 2
  | .lstore _, n => n == 2
  | .ldc _, n => n == 2
  | .newarray _, n => n == 2
  | .sipush _, n => n == 3
  | .iinc _ _, n => n == 3
  | .ldc2_w _, n => n == 3
  | .anewarray _, n => n == 3
  | .checkcast _, n => n == 3
  | .instanceof _, n => n == 3
  | .getfield _, n => n == 3
  | .putfield _, n => n == 3
  | .getstatic _, n => n == 3
  | .goto _, n => n == 3
  | .if_icmp _ _, n => n == 3
  | .ifCond _ _, n => n == 3
  | .ifnull _, n => n == 3
  | .ifnonnull _, n => n == 3
  | .invokespecial _, n => n == 3
  | .invokestatic _, n => n == 3
  | .invokevirtual _, n => n == 3
  | .new _, n => n == 3
  | .tableswitch _ _ _ _, _ => true
  | .lookupswitch _ _, _ => true
  | _, n => n == 1
def ix_tg (pc : Nat) (off : Int) : Option Nat := match (pc : Int) + off with
  | .ofNat t => some t
  | _ => none
def ix_jmp (pc : Nat) (off : Int) (L : ix_L) (st : List Value) (h : ix_H) : ix_A := match ix_tg pc off with
  | some t => ix_nx t L st h
  | none => none
def ix_i1 (st : List Value) (f : Int32 → List Value → ix_A) : ix_A := match st with
  | .int x :: r => f x r
  | _ => none
def ix_i2 (st : List Value) (f : Int32 → Int32 → List Value → ix_A) : ix_A := match st with
  | .int y :: .int x :: r => f x y r
  | _ => none
def ix_l1 (st : List Value) (f : Int64 → List Value → ix_A) : ix_A := match st with
  | .long x :: r => f x r
  | _ => none
def ix_l2 (st : List Value) (f : Int64 → Int64 → List Value → ix_A) : ix_A := match st with
  | .long y :: .long x :: r => f x y r
  | _ => none
def ix_li (st : List Value) (f : Int64 → Int32 → List Value → ix_A) : ix_A := match st with
  | .int y :: .long x :: r => f x y r
  | _ => none
/-- loads of a kind: 0 int, 1 long, 2 reference -/
def ix_kd (v : Value) : Nat := match v with
  | .int _ => 0
  | .long _ => 1
  | .null => 2
  | .ref _ => 2
  | .retAddr _ => 2
  | _ => 3
def ix_ld (L : ix_L) (i t : Nat) (f : Value → ix_A) : ix_A := match L[i]? with
  | some (some v) => if ix_kd v = t then f v else none
  | _ => none
/-- stores: int or reference, into a slot that never holds a long nor its second half -/
def ix_so (j : Nat) (L : ix_L) (i t : Nat) (st : List Value) (f : ix_L → List Value → ix_A) : ix_A := match st with
  | v :: r => if ix_kd v = t ∧ t ≠ 1 ∧ i < L.length ∧ i ∉ ix_lg j ∧ (∀ k ∈ ix_lg j, k + 1 ≠ i) then f (L.set i (some v)) r else none
  | _ => none
def ix_sl (j : Nat) (L : ix_L) (i : Nat) (st : List Value) (f : ix_L → List Value → ix_A) : ix_A := match st with
  | .long x :: r => if i + 1 < L.length ∧ i ∈ ix_lg j ∧ (i + 1) ∉ ix_lg j ∧ (∀ k ∈ ix_lg j, k + 1 ≠ i) then f ((L.set i (some (.long x))).set (i + 1) none) r else none
  | _ => none
/-- a field of an object -/
def ix_gf (h : ix_H) (r : Nat) (cs : List Nat) (k : Nat) : Option Value := match ix_at h r with
  | some (.inr (c, fs)) => if c ∈ cs then fs[k]? else none
  | _ => none
def ix_vt (t : FieldType) (v : Value) : Bool := match t with
  | .int => match v with
    | .int _ => true
    | _ => false
  | .boolean => match v with
    | .int x => x == 0 || x == 1
    | _ => false
  | .object _ => match v with
    | .ref _ => true
    | _ => false
  | .array _ => match v with
    | .ref _ => true
    | _ => false
  | _ => false
def ix_pf (j : Nat) (h : ix_H) (r : Nat) (cs : List Nat) (k : Nat) (v : Value) : Option ix_H := match ix_at h r with
  | some (.inr (c, fs)) => if c ∈ cs ∧ k < fs.length ∧ ix_vt (ix_ty c k) v = true ∧ ix_fin j c k = true then some (ix_up h r (.inr (c, fs.set k v))) else none
  | _ => none
/-- whole numbers in arrays: kind 0 int, 1 boolean -/
def ix_ra (h : ix_H) (a t : Nat) (i : Int32) : Option Int32 := match ix_at h a with
  | some (.inl (t', n, .inl f)) => if t' = t ∧ 0 ≤ i ∧ i.toNatClampNeg < n then some (f i.toNatClampNeg) else none
  | _ => none
def ix_wa (h : ix_H) (a t : Nat) (i x : Int32) : Option ix_H := match ix_at h a with
  | some (.inl (t', n, .inl f)) => if t' = t ∧ 0 ≤ i ∧ i.toNatClampNeg < n then some (ix_up h a (.inl (t, n, .inl (upd f i.toNatClampNeg x)))) else none
  | _ => none
def ix_rq (h : ix_H) (a : Nat) (i : Int32) : Option (Option Nat) := match ix_at h a with
  | some (.inl (t, n, .inr (.inr (.inr (.inr f))))) => if 2 ≤ t ∧ t < 5 ∧ 0 ≤ i ∧ i.toNatClampNeg < n then some (f i.toNatClampNeg) else none
  | _ => none
def ix_cls (h : ix_H) (r : Nat) : Option Nat := match ix_at h r with
  | some (.inr (c, _)) => some c
  | _ => none
def ix_wq (h : ix_H) (a : Nat) (i : Int32) (v : Nat) : Option ix_H := match ix_at h a with
  | some (.inl (t, n, .inr (.inr (.inr (.inr f))))) => match ix_cls h v with
    | some c => if ix_okst t c = true ∧ 2 ≤ t ∧ t < 5 ∧ 0 ≤ i ∧ i.toNatClampNeg < n then some (ix_up h a (.inl (t, n, .inr (.inr (.inr (.inr (va_up f i.toNatClampNeg (some v))))))) ) else none
    | none => none
  | _ => none
def ix_al (h : ix_H) (a : Nat) : Option Nat := match ix_at h a with
  | some (.inl (t, n, .inl _)) => if t < 2 then some n else none
  | some (.inl (t, n, .inr (.inr (.inr (.inr _))))) => if 2 ≤ t ∧ t < 5 then some n else none
  | _ => none
/-- a text's bytes: place 3 + 2 i -/
def ix_by (q : Nat) (i : Int32) : Option Int32 := if q % 2 = 1 ∧ 3 ≤ q ∧ q < 15 ∧ 0 ≤ i ∧ i.toNatClampNeg < ix_tlen ((q - 3) / 2) then some ((ix_tbyt ((q - 3) / 2)).getD i.toNatClampNeg 0) else none
def ix_cpyh (h : ix_H) (a b : Nat) (sp dp n : Int32) : Option ix_H := match ix_at h a with
  | some (.inl (t0, n0, .inl f)) => match ix_at h b with
    | some (.inl (t1, n1, .inl g)) => if t0 = 0 ∧ t1 = 0 ∧ 0 ≤ sp ∧ 0 ≤ dp ∧ 0 ≤ n ∧ sp.toNatClampNeg + n.toNatClampNeg ≤ n0 ∧ dp.toNatClampNeg + n.toNatClampNeg ≤ n1 then some (ix_up h b (.inl (0, n1, .inl (va_cpy f g sp.toNatClampNeg dp.toNatClampNeg n.toNatClampNeg)))) else none
    | _ => none
  | _ => none
def ix_ohp (o : Option ix_H) (f : ix_H → ix_A) : ix_A := match o with
  | some h => f h
  | none => none
def ix_ovl {α : Type} (o : Option α) (f : α → ix_A) : ix_A := match o with
  | some v => f v
  | none => none
def ix_cmp (c : Jvm.ClassFile.Cond) (x y : Int32) : Bool := match c with
  | .eq => decide (x = y)
  | .ne => decide (¬ x = y)
  | .lt => decide (x < y)
  | .ge => decide (y ≤ x)
  | .gt => decide (y < x)
  | .le => decide (x ≤ y)
