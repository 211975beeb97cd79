/-! ===== super, Object.<init>, System.arraycopy, Math ===== -/
theorem ix_k3 (o i n : Nat) (tg : List (Nat × Nat × Nat)) : ix_cchk (o, i, 3, n, tg) = tg.all (fun e => ix_mok e.2.1 n && decide (e.1 < 13) && (ix_y e.2.1).name != "<init>") := rfl
theorem ix_k9 (o i n : Nat) (tg : List (Nat × Nat × Nat)) : ix_cchk (o, i, 9, n, tg) = tg.all (fun e => ix_mok e.2.1 n && decide (e.1 < 13) && (ix_y e.2.1).name != "<init>") := rfl
theorem ix_c3 (o i n : Nat) (tg : List (Nat × Nat × Nat)) : ix_cw (o, i, 3, n, tg) = tg.flatMap (ix_sw o i 3) := rfl
theorem ix_c9 (o i n : Nat) (tg : List (Nat × Nat × Nat)) : ix_cw (o, i, 9, n, tg) = tg.flatMap (ix_sw o i 9) := rfl
theorem ix_c7 (o i n : Nat) (tg : List (Nat × Nat × Nat)) : ix_cw (o, i, 7, n, tg) = [.methodLink (ix_R o) i Lib.objectInit, .instanceMethod Lib.objectInit, .code Lib.objectInit ⟨#[0xb1]⟩ 1 none] := rfl
theorem ix_c8 (o i n : Nat) (tg : List (Nat × Nat × Nat)) : ix_cw (o, i, 8, n, tg) = [.methodLink (ix_R o) i arraycopyName, .native arraycopyName, .static arraycopyName, .initialized "java/lang/System"] := rfl
theorem ix_c10 (o i n : Nat) (tg : List (Nat × Nat × Nat)) : ix_cw (o, i, 10, n, tg) = [.methodLink (ix_R o) i Lib.Math.max.name, .static Lib.Math.max.name, .initialized "java/lang/Math", .code Lib.Math.max.name Lib.Math.max.code 2 (some .int)] := rfl
theorem ix_c11 (o i n : Nat) (tg : List (Nat × Nat × Nat)) : ix_cw (o, i, 11, n, tg) = [.methodLink (ix_R o) i Lib.Math.min.name, .static Lib.Math.min.name, .initialized "java/lang/Math", .code Lib.Math.min.name Lib.Math.min.code 2 (some .int)] := rfl
theorem ix_c12 (o i n : Nat) (tg : List (Nat × Nat × Nat)) : ix_cw (o, i, 12, n, tg) = [.methodLink (ix_R o) i Lib.Math.abs.name, .static Lib.Math.abs.name, .initialized "java/lang/Math", .code Lib.Math.abs.name Lib.Math.abs.code 1 (some .int)] := rfl
section VSUP
variable {E : ix_E} {cells slots pc : Nat} {L : ix_L} {st : List Value} {h : ix_H}
theorem ix_callSU {p : Program} {l : Launch} {e : Env} {R : Room} {s : State} {m : MethodId} {args : Array Value} {below : List Frame} {meth : Method} {c : Code} {H : Heap} {locs : List Loc} {cells slots : Nat} {x y : MethodName} {own C : String} {index mc ms : Nat} {maxL n nL : Nat} {bytes cc : ByteArray} {ret : Option FieldType} {ws : List Cond} {rm : Room} {Pc : Array Value → State → Prop} {Qc : Array Value → State → Outcome → State → Prop} {free : Addr → Prop} {Ts : List Cond} {b : Addr} {As rest : List Value} {g : JFrame}
    (S : CallFix p m c cc nL s args Ts own) (hM : Met l y ws rm Pc Qc mc ms free) (hrc : rm.cells = mc) (hrs : rm.slots = ms) (hfr : rm.frames + 1 ≤ R.frames) (hlo : 8 + (maxL + 11) + rm.locals ≤ R.locals) (hws : ∀ w ∈ ws, ∀ (a' : Array Value) (U : State), s.WarmedH U.vm → w.before a' U = true) (hcw : Cond.code y bytes maxL ret ∈ ws)
    (hlink : (Cond.methodLink own index x).before args s = true) (hsame : (Cond.sameMethod x.cls y.cls x.name x.desc).before args s = true) (hxy : y = ⟨y.cls, x.name, x.desc⟩) (hsup : (Cond.superclass own x.cls).before args s = true) (hsub : x.cls = y.cls ∨ (Cond.superclass x.cls y.cls).before args s = true)
    (hinst : (Cond.instanceMethod y).before args s = true) (hini : (Cond.initialized y.cls).before args s = true) (hcode : (Cond.code y bytes maxL ret).before args s = true) (hno : x.name ≠ "<init>") (hlen : ∀ sig, parseMethodDescriptor y.desc = some sig → n = sig.parameters.length) (hp : PreV s H C b Pc As)
    (hg : g.method = m) (hn : As.length = n) (hsize : g.locals.size = nL) (hstack : g.stack = As.reverse ++ .ref b :: rest) (hW : 2 * g.monitorRoom + (rest.map fun v => v.category).sum ≤ 8) (hdg : decode cc g.pc = .ok (.invokespecial index, 3)) (hf : cells + mc ≤ R.cells ∧ slots + ms ≤ R.slots) (hkc : ∃ (cC : ClassId) (kC : Class), s.vm.findClass C = some cC ∧ s.vm.classes[cC]? = some kC) :
    va_Run p l e R s m args below meth c H locs cells slots mc ms g rest (Qc (Value.ref b :: As).toArray) free := by
  have hK : Back l R p e below s args y 3 8 (PreOf R mc ms Pc) (PostOf Qc mc ms free) := back_of (bytes := bytes) (maxL := maxL) (ret := ret) hM hp.1 hrc hrs hfr hlo hws hcw (fun a' U hW => word_at hW (Or.inl (by first | rfl | simp [Cond.onTables, Cond.keeps, Cond.steady])) hini)
  obtain ⟨hx, hb, hml, ho, -⟩ := S
  obtain ⟨-, ⟨cellB, hcB, hoB, hclB⟩, hPc⟩ := hp
  obtain ⟨cC, kC, hfc, hkC⟩ := hkc
  cases hfc.symm.trans hclB
  obtain ⟨mk, methM, hnamed, hmethM, hstM, habM⟩ := Cond.instanceMethod_spec hinst
  obtain ⟨methM', cM, hmethM', -, -, -, -, -, -, hsigM⟩ := Cond.code_spec hnamed hcode
  cases hmethM.symm.trans hmethM'
  obtain ⟨ps, dk, kp, hps, hdk, hkp, hsuper, -, -, hnid⟩ := Cond.superclass_spec ho hsup
  have hn2 : s.methodNamed? ⟨y.cls, x.name, x.desc⟩ = some mk := by rw [← hxy]; exact hnamed
  have hmkc := findClass_of_methodNamed hnamed
  have hsubc : s.vm.isSubclass ps mk.cls = true := by
    rcases hsub with e1 | e1
    · have hpm : ps = mk.cls := by
        rw [e1] at hps
        exact Option.some.inj (hps.symm.trans hmkc)
      rw [hpm]; simp [Vm.isSubclass, Vm.isSubclassAux]
    · obtain ⟨ps2, dk2, kp2, hps2, hdk2, hkp2, hsuper2, -⟩ := Cond.superclass_spec hps e1
      have hpm : ps2 = mk.cls := Option.some.inj (hps2.symm.trans hmkc)
      rw [← hpm]
      by_cases hq : ps = ps2
      · rw [hq]; simp [Vm.isSubclass, Vm.isSubclassAux]
      · obtain ⟨z, hz⟩ : ∃ z, s.vm.classes.size = z + 1 := ⟨s.vm.classes.size - 1, by have := (Array.getElem?_eq_some_iff.mp hdk2).1; omega⟩
        simp [Vm.isSubclass, Vm.isSubclassAux, hdk2, hsuper2, hq]
        rw [hz]
        simp [Vm.isSubclassAux]
  intro T hT X
  obtain ⟨vm₁, X₁, hstep₁⟩ := X.invokespecialUp (x := x) (owner := y.cls) hx ho hlink hsame hn2 hmethM hstM habM hno hdk hnid hps hsuper hsubc (a := b) (cell := cellB) (by rw [hT]; exact hcB)
    (fun z h => by rw [h] at hoB; cases hoB) hkC (g := g) hg (argsL := As) (rest := rest) (by rw [hn]; exact hlen _ hsigM) hstack (by rw [hb]; exact hdg)
  obtain ⟨v, B, X', ⟨g', mk', t, L, e1, e2, hq, h1, hL, h2, h3⟩, hsteps⟩ := hK m meth c ⟨T.setVm vm₁, locs, cells, slots⟩ { g with stack := rest } (.invokespecial index) mk (Value.ref b :: As).toArray X₁ hg (hsize.trans hml.symm) (by rw [hb]; exact hdg) hW (X₁.named hnamed) ⟨hf.1, hf.2, hPc (T.setVm vm₁) hT X₁.warmed⟩
  obtain ⟨U', l2, c2, s2⟩ := B
  dsimp only [Pt.U, Pt.locs, Pt.cells, Pt.slots] at X' e1 e2 h1 h2 h3 hsteps
  subst h1; subst h2; subst h3
  exact ⟨v, (T.setVm vm₁).calling g' mk' (Value.ref b :: As).toArray, t, U', L, hT, X', hL, e1, e2, hq, fun target h => hstep₁ _ (by rw [doInvoke_state]; exact hsteps.trans h)⟩
theorem sv_super (C : ix_Cx E) {d i n b ci kd : Nat} {q : Nat × Nat × Nat} {tg : List (Nat × Nat × Nat)} {as : List Value} {v : Option Value} {h' : ix_H} (hkd : kd = 3 ∨ kd = 9) (hd : decode (ix_cc (ix_Ej E)) pc = .ok (.invokespecial i, 3)) (hf : ix_ca (ix_o (ix_Ej E)) i = some (kd, n, tg)) (hcl : ix_cls h b = some ci) (hq : tg.find? (fun e => e.1 == ci) = some q) (hM : ix_Mt (ix_EX E) d q.2.1 (.ref b :: as) h v h') (hm : h.length ≤ h'.length) (hn : as.length = n) (hw : ix_wt st ≤ 8)
    (hR1 : d + 2 ≤ (ix_ER E).frames) (hR2 : 40 * (d + 2) ≤ (ix_ER E).locals) (hc : cells + (h'.length - h.length) ≤ (ix_ER E).cells) (hs : slots + (ix_hz h' - ix_hz h) ≤ (ix_ER E).slots)
    (k : ix_V E (cells + (h'.length - h.length)) (slots + (ix_hz h' - ix_hz h)) (pc + 3) L (v.toList ++ st) h') : ix_V E cells slots pc L ((.ref b :: as).reverse ++ st) h := by
  obtain ⟨p, l, e', R, s, m, args, below, meth, c, Q, j, base, D, ca, κ, X⟩ := E
  intro hz H locs ls hP hS hl
  refine ix_Wsz fun hsz => ?_
  have hchk := ix_ca_chk hf
  have hwds := ix_ca_W hf
  have hG := C.2.2.2.2.2.1
  have hts := C.2.2.2.2.1
  have hpre := ix_pre (X := X) (.ref b :: as) hz C.2.2.2.2.2.2.1 hG hP hS hsz
  have hstk : ((Value.ref b :: as).reverse ++ st).map (ix_tv base κ) = (as.map (ix_tv base κ)).reverse ++ .ref (base + b) :: st.map (ix_tv base κ) := by simp [ix_tv]
  have h9 : 40 * (d + 2) ≤ R.locals := hR2
  obtain ⟨c0, j', xc⟩ := q
  have hqm := List.mem_of_find?_eq_some hq
  have hqe := List.find?_some hq
  simp only [beq_iff_eq] at hqe
  subst hqe
  obtain ⟨fs, hb⟩ := ix_cls_inv hcl
  have hpay : j' < 236 → ∀ w ∈ ix_mcode j' :: ix_W, ∀ (a' : Array Value) (U : State), s.WarmedH U.vm → w.before a' U = true := fun hj => pay_in hts (ix_GW hj)
  have h4 : (ix_mok j' n && decide (c0 < 13) && (ix_y j').name != "<init>") = true := by
    rcases hkd with rfl | rfl
    · rw [ix_k3] at hchk
      exact List.all_eq_true.mp hchk _ hqm
    · rw [ix_k9] at hchk
      exact List.all_eq_true.mp hchk _ hqm
  simp only [Bool.and_eq_true, decide_eq_true_eq, bne_iff_ne, ne_eq] at h4
  obtain ⟨⟨hmk, h13⟩, hno⟩ := h4
  obtain ⟨hj, hdd, hmx⟩ := ix_mok_inv hmk
  have hrecv := va_recv hG.1 hP (ix_cl_at c0 h13) (ix_ws_at (base := base) (ca := ca) (κ := κ) hb)
  have hpv : PreV s H (ix_R c0) (base + b) (ix_Pc base D ca κ X (.ref b :: as) h) (as.map (ix_tv base κ)) := ⟨hpre.1, hrecv, hpre.2⟩
  have hkc : ∃ (cC : ClassId) (kC : Class), s.vm.findClass (ix_R c0) = some cC ∧ s.vm.classes[cC]? = some kC := by
    obtain ⟨-, hfc, kB, hkB, -⟩ := hG.1.1 c0 _ (ix_cl_at c0 h13)
    exact ⟨_, kB, hfc, hkB⟩
  have hlen : ∀ sig, parseMethodDescriptor (ix_y j').desc = some sig → n = sig.parameters.length := by
    intro sig hs9
    have h10 := hdd.2.2
    rw [hs9] at h10
    exact (Option.some.inj h10).symm
  have hroom : 8 + (ix_mx j' + 11) + (ix_rm d (h'.length - h.length) (ix_hz h' - ix_hz h)).locals ≤ R.locals := by
    show 8 + (ix_mx j' + 11) + 40 * (d + 1) ≤ R.locals
    omega
  rcases hkd with rfl | rfl
  · have h5 : ∀ w ∈ ix_sw (ix_o j) i 3 (c0, j', xc), w.before args s = true := fun w hw => hts w (hwds w (by rw [ix_c3]; exact List.mem_flatMap.mpr ⟨_, hqm, hw⟩))
    have h6 : ∀ w, w = Cond.instanceMethod (ix_y j') ∨ w = Cond.initialized (ix_y j').cls ∨ w = Cond.methodLink (ix_R (ix_o j)) i (ix_y j') ∨ w = Cond.sameMethod (ix_y j').cls (ix_y j').cls (ix_y j').name (ix_y j').desc ∨ w = Cond.superclass (ix_R (ix_o j)) (ix_y j').cls → w.before args s = true := fun w hw => h5 w (by
      simp only [ix_sw, if_true, List.mem_cons, List.not_mem_nil, or_false]
      exact hw)
    exact sv_run hz (by omega) hS hl (ix_callSU ⟨C.1, C.2.1, C.2.2.1, C.2.2.2.1, hts⟩ (hM l base D ca κ) rfl rfl hR1 hroom (hpay hj) List.mem_cons_self (h6 _ (by simp)) (h6 _ (Or.inr (Or.inr (Or.inr (Or.inl rfl))))) rfl (h6 _ (by simp)) (Or.inl rfl) (h6 _ (by simp)) (h6 _ (by simp)) (hts _ (ix_mcode_W hj)) hno hlen hpv rfl (by rw [List.length_map]; exact hn) hl.1 hstk (lv_room (by rw [ix_wt_tv hG.2.2.2.2.2.2.2.2.2]; exact hw)) hd ⟨hc, hs⟩ hkc) k
  · have h5 : ∀ w ∈ ix_sw (ix_o j) i 9 (c0, j', xc), w.before args s = true := fun w hw => hts w (hwds w (by rw [ix_c9]; exact List.mem_flatMap.mpr ⟨_, hqm, hw⟩))
    have e9 : ix_sw (ix_o j) i 9 (c0, j', xc) = [.instanceMethod (ix_y j'), .initialized (ix_y j').cls, .methodLink (ix_R (ix_o j)) i (ix_x j' (ix_R xc)), .sameMethod (ix_R xc) (ix_y j').cls (ix_y j').name (ix_y j').desc, .superclass (ix_R (ix_o j)) (ix_R xc), .superclass (ix_R xc) (ix_y j').cls] := rfl
    rw [e9] at h5
    exact sv_run hz (by omega) hS hl (ix_callSU (x := ix_x j' (ix_R xc)) ⟨C.1, C.2.1, C.2.2.1, C.2.2.2.1, hts⟩ (hM l base D ca κ) rfl rfl hR1 hroom (hpay hj) List.mem_cons_self (h5 _ (by simp)) (h5 _ (by simp [ix_x])) rfl (h5 _ (by simp [ix_x])) (Or.inr (h5 _ (by simp [ix_x]))) (h5 _ (by simp)) (h5 _ (by simp)) (hts _ (ix_mcode_W hj)) hno hlen hpv rfl (by rw [List.length_map]; exact hn) hl.1 hstk (lv_room (by rw [ix_wt_tv hG.2.2.2.2.2.2.2.2.2]; exact hw)) hd ⟨hc, hs⟩ hkc) k
theorem sv_objInit (C : ix_Cx E) {i n b : Nat} {tg : List (Nat × Nat × Nat)} (hd : decode (ix_cc (ix_Ej E)) pc = .ok (.invokespecial i, 3)) (hf : ix_ca (ix_o (ix_Ej E)) i = some (7, n, tg)) (hw : ix_wt st ≤ 8) (k : ix_V E cells slots (pc + 3) L st h) : ix_V E cells slots pc L (.ref b :: st) h := by
  obtain ⟨p, l, e', R, s, m, args, below, meth, c, Q, j, base, D, ca, κ, X⟩ := E
  intro hz H locs ls hP hS hl
  have hwds := ix_ca_W hf
  rw [ix_c7] at hwds
  have hts := C.2.2.2.2.1
  have hR : 40 ≤ R.locals := C.2.2.2.2.2.2.2.2.2
  have hw2 := ix_wt_tv (base := base) C.2.2.2.2.2.1.2.2.2.2.2.2.2.2.2 st
  refine W.objInit C.1 C.2.1 C.2.2.2.1 (hts _ (hwds _ (by simp))) (hts _ (hwds _ (by simp))) (hts _ (hwds _ (by simp))) rfl (by rw [C.2.2.1]; exact hl.1) rfl hd C.2.2.2.2.2.2.2.2.1 (by
    show 2 * 0 + _ + 12 ≤ R.locals
    rw [hw2]
    omega) ?_
  exact W.eq (g2 := F0 m (pc + 3) ls (st.map (ix_tv base κ))) rfl (k hz H locs ls hP hS hl)
theorem sv_max (C : ix_Cx E) {i n : Nat} {x y : Int32} {tg : List (Nat × Nat × Nat)} (hd : decode (ix_cc (ix_Ej E)) pc = .ok (.invokestatic i, 3)) (hf : ix_ca (ix_o (ix_Ej E)) i = some (10, n, tg)) (hw : ix_wt st ≤ 8) (hc : cells ≤ (ix_ER E).cells) (hs : slots ≤ (ix_ER E).slots) (k : ix_V E cells slots (pc + 3) L (.int (if x < y then y else x) :: st) h) : ix_V E cells slots pc L (.int y :: .int x :: st) h := by
  obtain ⟨p, l, e', R, s, m, args, below, meth, c, Q, j, base, D, ca, κ, X⟩ := E
  intro hz H locs ls hP hS hl
  have hwds := ix_ca_W hf
  rw [ix_c10] at hwds
  have hts := C.2.2.2.2.1
  have hR : 40 ≤ R.locals := C.2.2.2.2.2.2.2.2.2
  have hw2 := ix_wt_tv (base := base) C.2.2.2.2.2.1.2.2.2.2.2.2.2.2.2 st
  exact va_mmax C.1 C.2.1 (by rw [C.2.2.1]; exact hl.1.symm) C.2.2.2.1 (hts _ (hwds _ (by simp))) (hts _ (hwds _ (by simp))) (hts _ (hwds _ (by simp))) (hts _ (hwds _ (by simp))) C.2.2.2.2.2.2.2.2.1 (by rw [hw2]; omega) hc hs hd (k hz H locs ls hP hS hl)
theorem sv_min (C : ix_Cx E) {i n : Nat} {x y : Int32} {tg : List (Nat × Nat × Nat)} (hd : decode (ix_cc (ix_Ej E)) pc = .ok (.invokestatic i, 3)) (hf : ix_ca (ix_o (ix_Ej E)) i = some (11, n, tg)) (hw : ix_wt st ≤ 8) (hc : cells ≤ (ix_ER E).cells) (hs : slots ≤ (ix_ER E).slots) (k : ix_V E cells slots (pc + 3) L (.int (if y < x then y else x) :: st) h) : ix_V E cells slots pc L (.int y :: .int x :: st) h := by
  obtain ⟨p, l, e', R, s, m, args, below, meth, c, Q, j, base, D, ca, κ, X⟩ := E
  intro hz H locs ls hP hS hl
  have hwds := ix_ca_W hf
  rw [ix_c11] at hwds
  have hts := C.2.2.2.2.1
  have hR : 40 ≤ R.locals := C.2.2.2.2.2.2.2.2.2
  have hw2 := ix_wt_tv (base := base) C.2.2.2.2.2.1.2.2.2.2.2.2.2.2.2 st
  exact va_mmin C.1 C.2.1 (by rw [C.2.2.1]; exact hl.1.symm) C.2.2.2.1 (hts _ (hwds _ (by simp))) (hts _ (hwds _ (by simp))) (hts _ (hwds _ (by simp))) (hts _ (hwds _ (by simp))) C.2.2.2.2.2.2.2.2.1 (by rw [hw2]; omega) hc hs hd (k hz H locs ls hP hS hl)
theorem sv_abs (C : ix_Cx E) {i n : Nat} {x : Int32} {tg : List (Nat × Nat × Nat)} (hd : decode (ix_cc (ix_Ej E)) pc = .ok (.invokestatic i, 3)) (hf : ix_ca (ix_o (ix_Ej E)) i = some (12, n, tg)) (hw : ix_wt st ≤ 8) (hc : cells ≤ (ix_ER E).cells) (hs : slots ≤ (ix_ER E).slots) (k : ix_V E cells slots (pc + 3) L (.int (if 0 ≤ x then x else 0 - x) :: st) h) : ix_V E cells slots pc L (.int x :: st) h := by
  obtain ⟨p, l, e', R, s, m, args, below, meth, c, Q, j, base, D, ca, κ, X⟩ := E
  intro hz H locs ls hP hS hl
  have hwds := ix_ca_W hf
  rw [ix_c12] at hwds
  have hts := C.2.2.2.2.1
  have hR : 40 ≤ R.locals := C.2.2.2.2.2.2.2.2.2
  have hw2 := ix_wt_tv (base := base) C.2.2.2.2.2.1.2.2.2.2.2.2.2.2.2 st
  exact va_mabs C.1 C.2.1 (by rw [C.2.2.1]; exact hl.1.symm) C.2.2.2.1 (hts _ (hwds _ (by simp))) (hts _ (hwds _ (by simp))) (hts _ (hwds _ (by simp))) (hts _ (hwds _ (by simp))) C.2.2.2.2.2.2.2.2.1 (by rw [hw2]; omega) hc hs hd (k hz H locs ls hP hS hl)
theorem sv_copy (C : ix_Cx E) {i n a b : Nat} {sp dp q : Int32} {tg : List (Nat × Nat × Nat)} {h' : ix_H} (hd : decode (ix_cc (ix_Ej E)) pc = .ok (.invokestatic i, 3)) (hf : ix_ca (ix_o (ix_Ej E)) i = some (8, n, tg)) (hw : ix_wt st ≤ 8) (hg : ix_cpyh h a b sp dp q = some h') (k : ix_V E cells slots (pc + 3) L st h') : ix_V E cells slots pc L (.int q :: .int dp :: .ref b :: .int sp :: .ref a :: st) h := by
  obtain ⟨p, l, e', R, s, m, args, below, meth, c, Q, j, base, D, ca, κ, X⟩ := E
  intro hz H locs ls hP hS hl
  have hwds := ix_ca_W hf
  rw [ix_c8] at hwds
  have hts := C.2.2.2.2.1
  have hR : 40 ≤ R.locals := C.2.2.2.2.2.2.2.2.2
  have hw2 := ix_wt_tv (base := base) C.2.2.2.2.2.1.2.2.2.2.2.2.2.2.2 st
  obtain ⟨n0, f, n1, g, h1, h2, h3, h4, h5, h6, h7, rfl⟩ := ix_cpyh_inv hg
  refine va_copyi C.1 C.2.1 (by rw [C.2.2.1]; exact hl.1.symm) C.2.2.2.1 (hts _ (hwds _ (by simp))) (hts _ (hwds _ (by simp))) (hts _ (hwds _ (by simp))) (hts _ (hwds _ (by simp))) C.2.2.2.2.2.1.1 hP ix_wD hS a b 0 0 (ix_ws_at h1) (ix_ws_at h2) rfl rfl rfl (Int32.not_lt.mpr h3) (Int32.not_lt.mpr h4) (Int32.not_lt.mpr h5) h6 h7 (fun _ _ => rfl) C.2.2.2.2.2.2.2.2.1 (by
    rw [hw2]
    have : nativeFrameWords "java/lang/System" "arraycopy" 5 ≤ 20 := by decide +kernel
    omega) hd fun H1 locs1 hP1 hD1 hS1 => ?_
  exact k (by rw [ix_up, List.length_set]; exact hz) H1 locs1 ls (by rw [ix_ws_up]; exact hP1) hS1 hl
end VSUP
