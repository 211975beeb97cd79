/-! ===== from the Statement's start to the interpreter ===== -/
def R_law : String := "TreeToTreeLaw"
def lw_P (b : Addr) (xs : List Int32) (args : Array Value) (s : State) : Prop := args = #[.ref b] ∧ s.IntsAt b xs ∧ xs.length ≤ 2560 ∧ (Jvm.Cond.and given_1 narrow_1).before args s = true
def lw_Q (_ : Array Value) (s : State) (o : Outcome) (t : State) : Prop := o = .returned (some (.int 1)) ∧ Framed s o t [] 600000 7302250
def lw_Z (below : List Frame) (a : Array Value) (s : State) : State → Prop := fun t => ∃ o, t.status = .running ∧ Ended t below o ∧ lw_Q a s o t
/-- the law's own end, with 1 on the stack, nothing written that was there before, its room as the claim has it -/
theorem lw_ret {p : Program} {l : Launch} {e : Env} {s : State} {m : MethodId} {below : List Frame} {meth : Method} {c : Code} {b : Nat} (hx : p.tables.exec = Jvm.exec) (hb : c.code = code) (hr : meth.sig.returnType = ret) (hlocks : meth.locks = false) {pc : Nat} {H : Heap} {ls : Array Slot} (hdg : decode code pc = .ok (.ireturn, 1)) : W p l e room_1 s m #[Value.ref b] below meth c H [] 600000 7302250 (lw_Z below #[Value.ref b] s) (F0 m pc ls [.int 1]) := by
  intro T hT X
  obtain ⟨fs, hret, hrun, hended, hW, hframe⟩ := X.leave (v := some (.int 1)) (hlocks := hlocks) (fun h => by rw [hr] at h; cases h)
  have hmeth' : T.vm.method? m = some meth := X.method'
  refine ⟨T.setFrames fs, ?_, .returned (some (.int 1)), hrun, hended, rfl, ⟨_, rfl⟩, hW, hframe⟩
  jvm_step X.here [X.here.top, hx, hb, hdg, hmeth', hr, ret, narrow_b1]
  (try refine ⟨rfl, ?_⟩); (try refine ⟨rfl, ?_⟩)
  first | (intro acts; rw [hret _ acts rfl rfl rfl]) | rw [hret _ _ rfl rfl rfl]
  exact Steps.refl _
/-- what holds at the law's entry: the machine, the code, the tables' words (any of lw_tbl by 'hts w (by decide +kernel)'), the script of L ints xs at the cell b, what the Statement gives of the start (any of its parts by flat_of_before) -/
def lw_At (p : Program) (s : State) (m : MethodId) (meth : Method) (c : Code) (b L : Nat) (xs : Nat → Int32) : Prop :=
  p.tables.exec = Jvm.exec ∧ c.code = code ∧ meth.sig.returnType = ret ∧ c.maxLocals = 4 ∧ s.vm.findClass R_law = some m.cls ∧ (∀ w ∈ lw_tbl, w.before #[Value.ref b] s = true) ∧ va_X b L xs s s.heap ∧ b < s.heap.size ∧ meth.locks = false ∧ (Jvm.Cond.and given_1 narrow_1).before #[Value.ref b] s = true
def ix_fl : List Cond := flatC (Jvm.Cond.and given_1 narrow_1)
def ix_tm (i : Nat) : Term := .string "TreeToTree$Park" ([63, 72, 74, 76, 107, 113].getD i 0)
def ix_tv0 (i : Nat) : Term := .field (ix_tm i) "java/lang/String" "value" "[B"
def ix_tchk0 : Bool := (List.range 6).all fun i => decide (Cond.exactly (ix_tm i) "java/lang/String" ∈ ix_fl) && decide (Cond.eq (.field (ix_tm i) "java/lang/String" "coder" "B") (.int 0) ∈ ix_fl) && decide (Cond.arrayOf (ix_tv0 i) .byte ∈ ix_fl) && decide (Cond.eq (.length (ix_tv0 i)) (.int (Int32.ofNat ((ix_txt.map List.length).getD i 0))) ∈ ix_fl)
theorem ix_tchk0_ok : ix_tchk0 = true := by decide +kernel
def ix_tchk1 : Bool := (List.range 6).all fun i => (List.range ((ix_txt.map List.length).getD i 0)).all fun k => decide (Cond.eq (.elem (ix_tv0 i) (.int (Int32.ofNat k))) (.int ((ix_txt.getD i []).getD k 0)) ∈ ix_fl)
theorem ix_tchk1_ok : ix_tchk1 = true := by decide +kernel
def ix_tchk2 : Bool := (List.range 6).all fun i => (List.range 6).all fun k => i == k || (decide (Cond.not (Cond.eq (ix_tm i) (ix_tm k)) ∈ ix_fl) || decide (Cond.not (Cond.eq (ix_tm k) (ix_tm i)) ∈ ix_fl))
theorem ix_tchk2_ok : ix_tchk2 = true := by decide +kernel
def ix_tchk3 : Bool := ix_lits.all fun e => decide (e.2.2.2 < 6) && decide (Cond.stringRef e.1 e.2.1 e.2.2.1 ∈ lw_tbl) && (decide (Term.string e.1 e.2.1 = ix_tm e.2.2.2) || decide (Cond.eq (ix_tm e.2.2.2) (.string e.1 e.2.1) ∈ ix_fl))
theorem ix_tchk3_ok : ix_tchk3 = true := by decide +kernel
theorem ix_nws_ok : ix_nws.all (fun w => decide (w ∈ lw_tbl) && w.onTables) = true := by decide +kernel
theorem ix_ncs_ok : ix_ncs.all (fun q => decide (Cond.not (.castable q.1 q.2) ∈ ix_fl)) = true := by decide +kernel
theorem ix_inst_ok : (List.range 13).all (fun c => ix_in (.instantiable (ix_R c) (ix_N c))) = true := by decide +kernel
theorem ix_start_ws : [Cond.laysStatic "java/lang/String" "COMPACT_STRINGS" "Z", .initialized "java/lang/String", .laysStatic "jdk/internal/util/Preconditions" "SIOOBE_FORMATTER" "Ljava/util/function/BiFunction;", .initialized "jdk/internal/util/Preconditions", .arrayOver (.object "TreeToTree$Tree"), .arrayOver (.object "TreeToTree$Spot"), .arrayOver (.object "TreeToTree$Park"), .arrayClass .int, .arrayClass .boolean].all (fun w => decide (w ∈ lw_tbl)) = true := by decide +kernel
theorem ix_start_fl : [Cond.eq (.static "java/lang/String" "COMPACT_STRINGS" "Z") (.int 1), .isRef (.static "jdk/internal/util/Preconditions" "SIOOBE_FORMATTER" "Ljava/util/function/BiFunction;")].all (fun w => decide (w ∈ ix_fl)) = true := by decide +kernel
theorem ix_law_facts : ix_cc 236 = code ∧ ix_mx 236 = 4 ∧ ix_R (ix_o 236) = R_law ∧ (ix_y 236).name ≠ "<init>" := ⟨rfl, rfl, rfl, by decide⟩
theorem ix_start {s : State} {args : Array Value} {b L : Nat} {xs : Nat → Int32} (hts : ∀ w ∈ lw_tbl, w.before args s = true) (hgv : (Jvm.Cond.and given_1 narrow_1).before args s = true) (hX : va_X b L xs s s.heap) (hb : b < s.heap.size) :
    ∃ (D : va_G) (ca : Nat → ClassId) (κ : Nat → Value), κ 0 = .ref b ∧ ix_G s.heap.size D ca κ (L, xs) s s.heap := by
  have hfl : ∀ w ∈ ix_fl, w.before args s = true := flat_of_before _ hgv
  have hA : ∀ a : Nat, a < s.heap.size → ¬ (fun q => s.heap.size ≤ q) a := fun a ha z => by exact absurd ha (Nat.not_lt.mpr z)
  have hws := List.all_eq_true.mp ix_start_ws
  have hwf := List.all_eq_true.mp ix_start_fl
  have tw : ∀ w, w ∈ [Cond.laysStatic "java/lang/String" "COMPACT_STRINGS" "Z", .initialized "java/lang/String", .laysStatic "jdk/internal/util/Preconditions" "SIOOBE_FORMATTER" "Ljava/util/function/BiFunction;", .initialized "jdk/internal/util/Preconditions", .arrayOver (.object "TreeToTree$Tree"), .arrayOver (.object "TreeToTree$Spot"), .arrayOver (.object "TreeToTree$Park"), .arrayClass .int, .arrayClass .boolean] → w.before args s = true := fun w hw => hts w (of_decide_eq_true (hws w hw))
  have tf : ∀ w, w ∈ [Cond.eq (.static "java/lang/String" "COMPACT_STRINGS" "Z") (.int 1), .isRef (.static "jdk/internal/util/Preconditions" "SIOOBE_FORMATTER" "Ljava/util/function/BiFunction;")] → w.before args s = true := fun w hw => hfl w (of_decide_eq_true (hwf w hw))
  -- classes
  have hcls : ∀ c : Nat, ∃ q : ClassId × (Nat → Nat), c < 13 → u_Kn s (ix_R c) (ix_T c) (ix_N c) q.1 q.2 := by
    intro c
    by_cases hc : c < 13
    · obtain ⟨cC, iS, h⟩ := u_known (n := ix_N c) (fun w hw => hts w (ix_W_tbl hw)) (ix_cl_ws hc) (hts _ (ix_W_tbl (ix_in_W (List.all_eq_true.mp ix_inst_ok c (List.mem_range.mpr hc)))))
      exact ⟨(cC, iS), fun _ => h⟩
    · exact ⟨(0, fun _ => 0), fun h => absurd h hc⟩
  obtain ⟨fD, hfD⟩ := Classical.axiomOfChoice hcls
  -- arrays
  obtain ⟨a0, k0, m0, p0, q0, r0⟩ := Cond.arrayClass_spec (tw (.arrayClass .int) (by simp))
  obtain ⟨a1, k1, m1, p1, q1, r1⟩ := Cond.arrayClass_spec (tw (.arrayClass .boolean) (by simp))
  obtain ⟨m2, a2, k2, p2, -, q2, r2, t2⟩ := Cond.arrayOver_spec (tw (.arrayOver (.object "TreeToTree$Tree")) (by simp))
  obtain ⟨m3, a3, k3, p3, -, q3, r3, t3⟩ := Cond.arrayOver_spec (tw (.arrayOver (.object "TreeToTree$Spot")) (by simp))
  obtain ⟨m4, a4, k4, p4, -, q4, r4, t4⟩ := Cond.arrayOver_spec (tw (.arrayOver (.object "TreeToTree$Park")) (by simp))
  -- the formatter
  obtain ⟨κ1, hκ1, hZ1⟩ : ∃ κ1 : Value, (κ1 = .null ∨ ∃ a : Nat, κ1 = .ref a) ∧ va_Z "jdk/internal/util/Preconditions" "SIOOBE_FORMATTER" "Ljava/util/function/BiFunction;" κ1 (fun q => s.heap.size ≤ q) s s.heap := by
    rcases va_Zqof (A := fun q => s.heap.size ≤ q) (tw (.laysStatic "jdk/internal/util/Preconditions" "SIOOBE_FORMATTER" "Ljava/util/function/BiFunction;") (by simp)) (tw (.initialized "jdk/internal/util/Preconditions") (by simp)) (tf (.isRef (.static "jdk/internal/util/Preconditions" "SIOOBE_FORMATTER" "Ljava/util/function/BiFunction;")) (by simp)) hA with h | ⟨t, h⟩
    · exact ⟨.null, Or.inl rfl, h⟩
    · exact ⟨.ref t, Or.inr ⟨t, rfl⟩, h⟩
  -- the texts
  have c0 := List.all_eq_true.mp ix_tchk0_ok
  have c1 := List.all_eq_true.mp ix_tchk1_ok
  have c2 := List.all_eq_true.mp ix_tchk2_ok
  simp only [List.mem_range, Bool.and_eq_true, decide_eq_true_eq] at c0
  simp only [List.mem_range, List.all_eq_true, decide_eq_true_eq] at c1
  simp only [List.mem_range, List.all_eq_true, decide_eq_true_eq, Bool.or_eq_true, beq_iff_eq] at c2
  obtain ⟨adK, adV, hS6, hev⟩ := vk_Sof (args := args) (s := s) (N := 6) (tm := ix_tm) (len := ix_txt.map List.length) (byt := ix_txt) (A := fun q => s.heap.size ≤ q) (by decide +kernel) (fun i hi => hfl _ (c0 i hi).1.1.1) (fun i hi => hfl _ (c0 i hi).1.1.2) (fun i hi => hfl _ (c0 i hi).1.2) (fun i hi => hfl _ (c0 i hi).2) (fun i hi k hk => hfl _ (c1 i hi k hk)) (fun i k hi hk hne => by
    rcases c2 i hi k hk with h | h | h
    · exact absurd h hne
    · exact Or.inl (hfl _ h)
    · exact Or.inr (hfl _ h)) hA
  have hκe : ∀ i, i < 6 → (fun q => if q = 0 then Value.ref b else if q = 1 then κ1 else if q % 2 = 0 then .ref (adK ((q - 2) / 2)) else .ref (adV ((q - 3) / 2)) : Nat → Value) (2 + 2 * i) = .ref (adK i) ∧ (fun q => if q = 0 then Value.ref b else if q = 1 then κ1 else if q % 2 = 0 then .ref (adK ((q - 2) / 2)) else .ref (adV ((q - 3) / 2)) : Nat → Value) (3 + 2 * i) = .ref (adV i) := by
    intro i _
    constructor
    · show (if 2 + 2 * i = 0 then Value.ref b else if 2 + 2 * i = 1 then κ1 else if (2 + 2 * i) % 2 = 0 then .ref (adK ((2 + 2 * i - 2) / 2)) else .ref (adV ((2 + 2 * i - 3) / 2))) = .ref (adK i)
      rw [if_neg (by omega), if_neg (by omega), if_pos (by omega), show (2 + 2 * i - 2) / 2 = i by omega]
    · show (if 3 + 2 * i = 0 then Value.ref b else if 3 + 2 * i = 1 then κ1 else if (3 + 2 * i) % 2 = 0 then .ref (adK ((3 + 2 * i - 2) / 2)) else .ref (adV ((3 + 2 * i - 3) / 2))) = .ref (adV i)
      rw [if_neg (by omega), if_neg (by omega), if_neg (by omega), show (3 + 2 * i - 3) / 2 = i by omega]
  refine ⟨(fun c => (fD c).1, fun c => (fD c).2), fun t => if t = 0 then a0 else if t = 1 then a1 else if t = 2 then a2 else if t = 3 then a3 else a4, fun q => if q = 0 then Value.ref b else if q = 1 then κ1 else if q % 2 = 0 then .ref (adK ((q - 2) / 2)) else .ref (adV ((q - 3) / 2)), rfl, ⟨fun c q hq => ?_, fun k q hq => ?_⟩, fun w hw => ?_, fun q hq => ?_, fun t => ?_, va_Zof (tw _ (by simp)) (tw (.initialized "java/lang/String") (by simp)) (va_eqt (tf (.eq (.static "java/lang/String" "COMPACT_STRINGS" "Z") (.int 1)) (by simp))) hA, hZ1, ⟨adK, adV, hκe, hS6⟩, fun e he => ?_, ⟨b, rfl, hX, hb, hb⟩, fun q => ?_⟩
  · have hc : c < 13 := (List.getElem?_eq_some_iff.mp hq).1
    rw [ix_cl_at c hc] at hq
    cases hq
    exact hfD c hc
  · match k, hq with
    | 0, hq => cases hq; exact ⟨fun n z => ⟨fun k h => (by cases h), k0, q0, m0, r0⟩, p0⟩
    | 1, hq => cases hq; exact ⟨fun n z => ⟨fun k h => (by cases h), k1, q1, m1, r1⟩, p1⟩
    | 2, hq => cases hq; exact ⟨fun n z => ⟨fun k h => (by cases h), k2, q2, m2, r2⟩, k2, m2, q2, r2, p2, t2⟩
    | 3, hq => cases hq; exact ⟨fun n z => ⟨fun k h => (by cases h), k3, q3, m3, r3⟩, k3, m3, q3, r3, p3, t3⟩
    | 4, hq => cases hq; exact ⟨fun n z => ⟨fun k h => (by cases h), k4, q4, m4, r4⟩, k4, m4, q4, r4, p4, t4⟩
    | k + 5, hq => simp [ix_tys] at hq
  · have h1 := List.all_eq_true.mp ix_nws_ok w hw
    simp only [Bool.and_eq_true, decide_eq_true_eq] at h1
    exact va_Nw.of h1.2 (hts w h1.1)
  · exact va_Nc.of (hfl _ (of_decide_eq_true (List.all_eq_true.mp ix_ncs_ok q hq)))
  · unfold ix_aC
    split
    · exact va_AO.of (A := args) (tw _ (by simp))
    · split
      · exact va_AO.of (A := args) (tw _ (by simp))
      · exact va_AO.of (A := args) (tw _ (by simp))
  · have h1 := List.all_eq_true.mp ix_tchk3_ok e he
    simp only [Bool.and_eq_true, decide_eq_true_eq, Bool.or_eq_true] at h1
    obtain ⟨⟨h6, h2⟩, h3⟩ := h1
    refine ⟨adK e.2.2.2, (hκe _ h6).1, ?_⟩
    refine vk_R.of (hts _ h2) ?_
    rcases h3 with h3 | h3
    · rw [h3]; exact hev _ h6
    · exact va_eqR (hfl _ h3) (hev _ h6)
  · show (if q = 0 then Value.ref b else if q = 1 then κ1 else if q % 2 = 0 then .ref (adK ((q - 2) / 2)) else .ref (adV ((q - 3) / 2))) = .null ∨ ∃ a : Nat, (if q = 0 then Value.ref b else if q = 1 then κ1 else if q % 2 = 0 then .ref (adK ((q - 2) / 2)) else .ref (adV ((q - 3) / 2))) = .ref a
    split
    · exact Or.inr ⟨_, rfl⟩
    · split
      · exact hκ1
      · split
        · exact Or.inr ⟨_, rfl⟩
        · exact Or.inr ⟨_, rfl⟩
/-- what is left to prove: the law in the interpreter, over every script -/
def ix_pure : Prop := ∀ (L : Nat) (xs : Nat → Int32), L ≤ 2560 → ∃ hF : ix_H, ix_call (L, xs) 100 236 [.retAddr 0] [] = some (some (.int 1), hF) ∧ hF.length ≤ 600000 ∧ ix_hz hF ≤ 7302250
theorem whole_from (hp : ix_pure) {p : Program} {e : Env} {s : State} {m : MethodId} {below : List Frame} {meth : Method} {c : Code} (l : Launch) {b L : Nat} {xs : Nat → Int32} (hL : L ≤ 2560) (C0 : lw_At p s m meth c b L xs) : W p l e room_1 s m #[Value.ref b] below meth c s.heap [] 0 0 (lw_Z below #[Value.ref b] s) (entryFrame m ([Value.ref b] : List Value).toArray 4) := by
  obtain ⟨hx, hb, hr, hml, hown, hts, hX, hbl, hlocks, hgv⟩ := C0
  obtain ⟨D, ca, κ, hκ0, hG⟩ := ix_start hts hgv hX hbl
  obtain ⟨hF, hsem, hn1, hn2⟩ := hp L xs hL
  obtain ⟨f1, f2, f3, f4⟩ := ix_law_facts
  have hκ := hG.2.2.2.2.2.2.2.2.2
  have hent : ix_ent 236 [.retAddr 0] = some [some (.retAddr 0), none, none, none] := by decide +kernel
  unfold ix_call at hsem
  rw [hent] at hsem
  simp only at hsem
  obtain ⟨n, hrun⟩ := ix_sem_iff.mp hsem
  rw [lg_entry_eq]
  have hav : ([.retAddr 0] : List Value).map (ix_tv s.heap.size κ) = [Value.ref b] := by
    show [κ 0] = _
    rw [hκ0]
  have hlh := ix_lh.entry (base := s.heap.size) hκ hent
  rw [hav, f2] at hlh
  refine ix_sound (L, xs) n 100 (p, l, e, room_1, s, m, #[Value.ref b], below, meth, c, lw_Z below #[Value.ref b] s, 236, s.heap.size, D, ca, κ, (L, xs)) 0 _ [] [] (some (.int 1)) hF hrun rfl ?_ ?_ ?_ ?_ 0 0 ?_ ?_ (by show s.heap.size + 0 = s.heap.size + 0; rfl) s.heap [] _ (fun k q h => by simp [ix_ws] at h) va_S.rf hlh
  · exact ⟨hx, hb.trans f1.symm, hml.trans f2.symm, by rw [f3]; exact hown, fun w hw => hts w (ix_W_tbl hw), hG, Nat.le_refl _, fun hi => absurd hi f4, by decide +kernel, by decide +kernel⟩
  · show 101 ≤ room_1.frames
    decide +kernel
  · show 40 * 101 ≤ room_1.locals
    decide +kernel
  · intro cells slots pc L2 hrok hc hs hz H locs ls hP hS hl
    obtain ⟨r1, -⟩ := hrok
    have hc2 : cells ≤ 600000 := hc
    have hs2 : slots ≤ 7302250 := hs
    refine W.widen hc2 hs2 ?_
    refine va_forget hS.2.2 ?_
    exact lw_ret hx hb hr hlocks (by rw [← f1]; exact r1)
  · show 0 + hF.length ≤ 600000 + 0
    omega
  · show 0 + ix_hz hF ≤ 7302250 + 0
    omega
