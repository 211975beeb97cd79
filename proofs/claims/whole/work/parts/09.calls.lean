/-! ===== the rows of the calls; what a method's contract is in the interpreter's words ===== -/
def ix_cz (c : ix_C) : Nat := match c with
  | .inr (_, fs) => fs.length
  | .inl (_, n, _) => n
def ix_hz (h : ix_H) : Nat := (h.map ix_cz).sum
def ix_rm (d mc ms : Nat) : Room := { frames := d + 1, cells := mc, slots := ms, locals := 40 * (d + 1) }
def ix_Pc (base : Nat) (D : va_G) (ca : Nat → ClassId) (κ : Nat → Value) (X : ix_X) (as : List Value) (h : ix_H) : Array Value → State → Prop := va_Pc (as.map (ix_tv base κ)) (fun U => U.heap.size = base + h.length ∧ va_P D ix_cl (ix_ws base ca κ h) U.heap ∧ ix_G base D ca κ X U U.heap)
def ix_Qc (base : Nat) (D : va_G) (ca : Nat → ClassId) (κ : Nat → Value) (v : Option Value) (h' : ix_H) : Array Value → State → Outcome → State → Prop := fun _ st oc t => oc = .returned (v.map (ix_tv base κ)) ∧ va_P D ix_cl (ix_ws base ca κ h') t.heap ∧ va_F (fun q => base ≤ q) st t
def ix_Mt (X : ix_X) (d j : Nat) (as : List Value) (h : ix_H) (v : Option Value) (h' : ix_H) : Prop := ∀ (l : Launch) (base : Nat) (D : va_G) (ca : Nat → ClassId) (κ : Nat → Value),
  Met l (ix_y j) (ix_mcode j :: ix_W) (ix_rm d (h'.length - h.length) (ix_hz h' - ix_hz h)) (ix_Pc base D ca κ X as h) (ix_Qc base D ca κ v h') (h'.length - h.length) (ix_hz h' - ix_hz h) (fun q => base ≤ q)
theorem ix_blind {base : Nat} {D : va_G} {ca : Nat → ClassId} {κ : Nat → Value} {X : ix_X} {as : List Value} {h : ix_H} : FrameBlind (ix_Pc base D ca κ X as h) := fun a U g mk q => ⟨q.1, q.2.1, q.2.2.1, q.2.2.2.move (U := U.calling g mk a) (State.WarmedH.refl U) (Nat.le_refl _) (fun _ _ _ => rfl)⟩
theorem ix_GW {j : Nat} (hj : j < 236) : GoodIn ix_W (ix_mcode j :: ix_W) := by
  intro w hw
  rcases List.mem_cons.mp hw with rfl | hw
  · exact ⟨ix_mcode_W hj, ix_W_good (ix_mcode_W hj)⟩
  · exact ⟨hw, ix_W_good hw⟩
theorem ix_GWapp {a : List Cond} {j : Nat} (hj : j < 236) (ha : ∀ w ∈ a, w ∈ ix_W) : GoodIn ix_W (a ++ (ix_mcode j :: ix_W)) := by
  intro w hw
  rcases List.mem_append.mp hw with hw | hw
  · exact ⟨ha w hw, ix_W_good (ha w hw)⟩
  · exact ix_GW hj w hw
theorem ix_mok_inv {j n : Nat} (h : ix_mok j n = true) : j < 236 ∧ ((ix_y j).cls ≠ "java/lang/invoke/MethodHandle" ∧ (ix_y j).cls ≠ "java/lang/invoke/VarHandle" ∧ (parseMethodDescriptor (ix_y j).desc).map (fun d => d.parameters.length) = some n) ∧ ix_mx j ≤ 20 := by
  unfold ix_mok at h
  simp only [Bool.and_eq_true, decide_eq_true_eq] at h
  have h2 := ix_m_chk h.1
  unfold ix_mchk at h2
  simp only [Bool.and_eq_true, decide_eq_true_eq, bne_iff_ne, ne_eq] at h2
  exact ⟨h.1, ⟨h2.1.2, h2.2, h.2⟩, h2.1.1.1.2⟩
theorem ix_opt_list {base : Nat} {κ : Nat → Value} (v : Option Value) (st : List Value) : (v.toList ++ st).map (ix_tv base κ) = (v.map (ix_tv base κ)).toList ++ st.map (ix_tv base κ) := by cases v <;> rfl
theorem ix_k0 (o i n : Nat) (tg : List (Nat × Nat × Nat)) : ix_cchk (o, i, 0, n, tg) = tg.all (fun e => ix_mok e.2.1 n) := rfl
theorem ix_k1 (o i n : Nat) (tg : List (Nat × Nat × Nat)) : ix_cchk (o, i, 1, n, tg) = tg.all (fun e => ix_mok e.2.1 n && (ix_y e.2.1).name == "<init>" && decide (ix_rt e.2.1 = none)) := rfl
theorem ix_k2 (o i n : Nat) (tg : List (Nat × Nat × Nat)) : ix_cchk (o, i, 2, n, tg) = tg.all (fun e => ix_mok e.2.1 n && (ix_y e.2.1).name == "<init>" && decide (ix_rt e.2.1 = none) && decide (Cond.methodLinkNest (ix_R o) i (ix_y e.2.1) "TreeToTree" ∈ ix_nws)) := rfl
theorem ix_k4 (o i n : Nat) (tg : List (Nat × Nat × Nat)) : ix_cchk (o, i, 4, n, tg) = tg.all (ix_tchk n) := rfl
theorem ix_k6 (o i n : Nat) (tg : List (Nat × Nat × Nat)) : ix_cchk (o, i, 6, n, tg) = tg.all (fun e => ix_mok e.2.1 n && (ix_y e.2.1).cls == "java/lang/String") := rfl
theorem ix_c0 (o i n : Nat) (tg : List (Nat × Nat × Nat)) : ix_cw (o, i, 0, n, tg) = tg.flatMap (fun e => [.methodLink (ix_R o) i (ix_y e.2.1), .static (ix_y e.2.1), .initialized (ix_y e.2.1).cls]) := rfl
theorem ix_c1 (o i n : Nat) (tg : List (Nat × Nat × Nat)) : ix_cw (o, i, 1, n, tg) = tg.flatMap (fun e => [.methodLink (ix_R o) i (ix_y e.2.1), .instanceMethod (ix_y e.2.1), .initialized (ix_y e.2.1).cls]) := rfl
theorem ix_c2 (o i n : Nat) (tg : List (Nat × Nat × Nat)) : ix_cw (o, i, 2, n, tg) = tg.flatMap (fun e => [.instanceMethod (ix_y e.2.1), .initialized (ix_y e.2.1).cls]) := rfl
theorem ix_c4 (o i n : Nat) (tg : List (Nat × Nat × Nat)) : ix_cw (o, i, 4, n, tg) = tg.flatMap (ix_tw o i) := rfl
theorem ix_c6 (o i n : Nat) (tg : List (Nat × Nat × Nat)) : ix_cw (o, i, 6, n, tg) = tg.flatMap (fun e => [.methodLink (ix_R o) i (ix_y e.2.1), .instanceMethod (ix_y e.2.1), .selects "java/lang/String" (ix_y e.2.1) (ix_y e.2.1), .initialized "java/lang/String"]) := rfl
section VCALLS
variable {E : ix_E} {cells slots pc : Nat} {L : ix_L} {st : List Value} {h : ix_H}
/-- behind a call's run -/
theorem sv_run {p : Program} {l : Launch} {e : Env} {R : Room} {s : State} {m : MethodId} {args : Array Value} {below : List Frame} {meth : Method} {c : Code} {Q : State → Prop} {j base : Nat} {D : va_G} {ca : Nat → ClassId} {κ : Nat → Value} {X : ix_X}
    {v : Option Value} {h' : ix_H} {st0 : List Value} {H : Heap} {locs : List Loc} {ls : Array Slot} {a : Array Value} {mc ms : Nat} (hz : s.heap.size + cells = base + h.length) (hmc : h'.length = h.length + mc) (hS : va_S (fun q => base ≤ q) s.heap H locs) (hl : ix_lh base κ j L ls)
    (hr : va_Run p l e R s m args below meth c H locs cells slots mc ms (F0 m pc ls st0) (st.map (ix_tv base κ)) (ix_Qc base D ca κ v h' a) (fun q => base ≤ q))
    (k : ix_V (p, l, e, R, s, m, args, below, meth, c, Q, j, base, D, ca, κ, X) (cells + mc) (slots + ms) (pc + 3) L (v.toList ++ st) h') : W p l e R s m args below meth c H locs cells slots Q (F0 m pc ls st0) := by
  intro T hT X0
  obtain ⟨v', st₀, t, T', L', h0, X', hL, e1, e2, ⟨hv, hP1, hF⟩, stp⟩ := hr T hT X0
  cases hv
  have hS1 : va_S (fun q => base ≤ q) s.heap T'.heap (locs ++ L') := by
    obtain ⟨f1, f2⟩ := hF
    rw [h0] at f1 f2
    refine ⟨Nat.le_trans hS.1 (by rw [e1]; exact f1), fun q h1 h2 => ?_, fun q hq => ?_⟩
    · rw [e1, f2 q (Nat.lt_of_lt_of_le h1 hS.1) h2]
      exact hS.2.1 q h1 h2
    · rcases List.mem_append.mp hq with hq | hq
      · exact hS.2.2 q hq
      · exact hL q hq
  have kk := k (by show s.heap.size + (cells + mc) = base + h'.length; omega) T'.heap (locs ++ L') ls (by rw [e1]; exact hP1) hS1 hl
  rw [ix_opt_list] at kk
  obtain ⟨t2, a1, b1⟩ := kk T' rfl X'
  exact ⟨t2, stp t2 a1, b1⟩
theorem ix_pre {s : State} {base cells : Nat} {D : va_G} {ca : Nat → ClassId} {κ : Nat → Value} {X : ix_X} {H : Heap} {locs : List Loc} (as : List Value) (hz : s.heap.size + cells = base + h.length) (hb : base ≤ s.heap.size) (hG : ix_G base D ca κ X s s.heap) (hP : va_P D ix_cl (ix_ws base ca κ h) H) (hS : va_S (fun q => base ≤ q) s.heap H locs) (hsz : H.size ≤ s.heap.size + cells) :
    PreS s H (ix_Pc base D ca κ X as h) (as.map (ix_tv base κ)) := by
  refine ⟨ix_blind, fun U hU hW => ⟨rfl, ?_, by rw [hU]; exact hP, hG.move hW (by rw [hU]; exact hS.1) (fun q h1 h2 => by rw [hU]; exact hS.2.1 q h1 h2)⟩⟩
  rw [hU]
  have := ix_ws_size (Nat.le_trans hb hS.1) hP
  omega
theorem sv_static (C : ix_Cx E) {d i n j' x y : Nat} {tg : List (Nat × Nat × Nat)} {as : List Value} {v : Option Value} {h' : ix_H} (hd : decode (ix_cc (ix_Ej E)) pc = .ok (.invokestatic i, 3)) (hf : ix_ca (ix_o (ix_Ej E)) i = some (0, n, (x, j', y) :: tg)) (hM : ix_Mt (ix_EX E) d j' as h v h') (hm : h.length ≤ h'.length) (hn : as.length = n) (hw : ix_wt st ≤ 8)
    (hR1 : d + 2 ≤ (ix_ER E).frames) (hR2 : 40 * (d + 2) ≤ (ix_ER E).locals) (hc : cells + (h'.length - h.length) ≤ (ix_ER E).cells) (hs : slots + (ix_hz h' - ix_hz h) ≤ (ix_ER E).slots)
    (k : ix_V E (cells + (h'.length - h.length)) (slots + (ix_hz h' - ix_hz h)) (pc + 3) L (v.toList ++ st) h') : ix_V E cells slots pc L (as.reverse ++ st) h := by
  obtain ⟨p, l, e', R, s, m, args, below, meth, c, Q, j, base, D, ca, κ, X⟩ := E
  intro hz H locs ls hP hS hl
  refine ix_Wsz fun hsz => ?_
  have hchk := ix_ca_chk hf
  have hwds := ix_ca_W hf
  have hG := C.2.2.2.2.2.1
  rw [ix_k0, List.all_cons, Bool.and_eq_true] at hchk
  obtain ⟨hj, hdd, hmx⟩ := ix_mok_inv (j := j') (n := n) hchk.1
  have hpre := ix_pre (X := X) as hz C.2.2.2.2.2.2.1 hG hP hS hsz
  refine sv_run hz (by omega) hS hl (va_runS ⟨C.1, C.2.1, C.2.2.1, C.2.2.2.1, C.2.2.2.2.1⟩ (hM l base D ca κ) (va_cwS n C.2.2.2.2.1 (ix_GWapp hj (fun w hw => hwds w (by
      rw [ix_c0, List.flatMap_cons]; exact List.mem_append_left _ hw))) rfl rfl rfl hdd ⟨by show d + 1 + 1 ≤ R.frames; have := hR1; exact this, by
      have h9 : 40 * (d + 2) ≤ R.locals := hR2
      show 8 + (ix_mx j' + 11) + 40 * (d + 1) ≤ R.locals
      omega⟩) hpre rfl (by rw [List.length_map]; exact hn) hl.1 (by rw [List.map_append, List.map_reverse]) (lv_room (by rw [ix_wt_tv hG.2.2.2.2.2.2.2.2.2]; exact hw)) hd ⟨hc, hs⟩) k
theorem sv_init (C : ix_Cx E) {d i n kd j' x y b : Nat} {tg : List (Nat × Nat × Nat)} {as : List Value} {v : Option Value} {h' : ix_H} (hkd : kd = 1 ∨ kd = 2) (hd : decode (ix_cc (ix_Ej E)) pc = .ok (.invokespecial i, 3)) (hf : ix_ca (ix_o (ix_Ej E)) i = some (kd, n, (x, j', y) :: tg)) (hM : ix_Mt (ix_EX E) d j' (.ref b :: as) h v h') (hm : h.length ≤ h'.length) (hn : as.length = n) (hw : ix_wt st ≤ 8)
    (hR1 : d + 2 ≤ (ix_ER E).frames) (hR2 : 40 * (d + 2) ≤ (ix_ER E).locals) (hc : cells + (h'.length - h.length) ≤ (ix_ER E).cells) (hs : slots + (ix_hz h' - ix_hz h) ≤ (ix_ER E).slots)
    (k : ix_V E (cells + (h'.length - h.length)) (slots + (ix_hz h' - ix_hz h)) (pc + 3) L (v.toList ++ st) h') : ix_V E cells slots pc L ((.ref b :: as).reverse ++ st) h := by
  obtain ⟨p, l, e', R, s, m, args, below, meth, c, Q, j, base, D, ca, κ, X⟩ := E
  intro hz H locs ls hP hS hl
  refine ix_Wsz fun hsz => ?_
  have hchk := ix_ca_chk hf
  have hwds := ix_ca_W hf
  have hG := C.2.2.2.2.2.1
  have hts := C.2.2.2.2.1
  have hpre := ix_pre (X := X) (.ref b :: as) hz C.2.2.2.2.2.2.1 hG hP hS hsz
  have hstk : ((Value.ref b :: as).reverse ++ st).map (ix_tv base κ) = (as.map (ix_tv base κ)).reverse ++ .ref (base + b) :: st.map (ix_tv base κ) := by simp [ix_tv]
  have h9 : 40 * (d + 2) ≤ R.locals := hR2
  rcases hkd with rfl | rfl
  · simp only [ix_k1, List.all_cons, Bool.and_eq_true, decide_eq_true_eq, beq_iff_eq] at hchk
    obtain ⟨⟨⟨hmk, hin⟩, hrt⟩, -⟩ := hchk
    obtain ⟨hj, hdd, hmx⟩ := ix_mok_inv hmk
    have hmw : ∀ w, w = Cond.methodLink (ix_R (ix_o j)) i (ix_y j') ∨ w = Cond.instanceMethod (ix_y j') ∨ w = Cond.initialized (ix_y j').cls → w ∈ ix_W := fun w hw => hwds w (by
      simp only [ix_c1, List.flatMap_cons, List.mem_append, List.mem_cons, List.not_mem_nil, or_false]
      exact Or.inl hw)
    have hw0 : ix_mcode j' :: ix_W = Cond.code (ix_y j') (ix_cc j') (ix_mx j') none :: ix_W := by rw [← hrt]; rfl
    exact sv_run hz (by omega) hS hl (va_runI ⟨C.1, C.2.1, C.2.2.1, C.2.2.2.1, hts⟩ (hM l base D ca κ) (cwI n hts (ix_GW hj) hw0 rfl rfl (hts _ (hmw _ (Or.inr (Or.inr rfl)))) (hts _ (hmw _ (Or.inl rfl))) (hts _ (hmw _ (Or.inr (Or.inl rfl)))) hin hdd ⟨hR1, by show 8 + (ix_mx j' + 11) + 40 * (d + 1) ≤ R.locals; omega⟩) hpre rfl (by rw [List.length_map]; exact hn) hl.1 hstk (lv_room (by rw [ix_wt_tv hG.2.2.2.2.2.2.2.2.2]; exact hw)) hd ⟨hc, hs⟩) k
  · simp only [ix_k2, List.all_cons, Bool.and_eq_true, decide_eq_true_eq, beq_iff_eq] at hchk
    obtain ⟨⟨⟨⟨hmk, hin⟩, hrt⟩, hnest⟩, -⟩ := hchk
    obtain ⟨hj, hdd, hmx⟩ := ix_mok_inv hmk
    have hmw : ∀ w, w = Cond.instanceMethod (ix_y j') ∨ w = Cond.initialized (ix_y j').cls → w ∈ ix_W := fun w hw => hwds w (by
      simp only [ix_c2, List.flatMap_cons, List.mem_append, List.mem_cons, List.not_mem_nil, or_false]
      exact Or.inl hw)
    have hw0 : ix_mcode j' :: ix_W = Cond.code (ix_y j') (ix_cc j') (ix_mx j') none :: ix_W := by rw [← hrt]; rfl
    exact sv_run hz (by omega) hS hl (va_runIN ⟨C.1, C.2.1, C.2.2.1, C.2.2.2.1, hts⟩ (hM l base D ca κ) ⟨va_cnB n hts (ix_GW hj) hw0 rfl rfl (hG.2.1 _ hnest) (hts _ (hmw _ (Or.inr rfl))) hdd ⟨hR1, by show 8 + (ix_mx j' + 11) + 40 * (d + 1) ≤ R.locals; omega⟩, hin, hts _ (hmw _ (Or.inl rfl))⟩ hpre rfl (by rw [List.length_map]; exact hn) hl.1 hstk (lv_room (by rw [ix_wt_tv hG.2.2.2.2.2.2.2.2.2]; exact hw)) hd ⟨hc, hs⟩) k
/-- a virtual call -/
theorem sv_virt (C : ix_Cx E) {d i n b ci : Nat} {q : Nat × Nat × Nat} {tg : List (Nat × Nat × Nat)} {as : List Value} {v : Option Value} {h' : ix_H} (hd : decode (ix_cc (ix_Ej E)) pc = .ok (.invokevirtual i, 3)) (hf : ix_ca (ix_o (ix_Ej E)) i = some (4, n, tg)) (hcl : ix_cls h b = some ci) (hq : tg.find? (fun e => e.1 == ci) = some q) (hM : ix_Mt (ix_EX E) d q.2.1 (.ref b :: as) h v h') (hm : h.length ≤ h'.length) (hn : as.length = n) (hw : ix_wt st ≤ 8)
    (hR1 : d + 2 ≤ (ix_ER E).frames) (hR2 : 40 * (d + 2) ≤ (ix_ER E).locals) (hc : cells + (h'.length - h.length) ≤ (ix_ER E).cells) (hs : slots + (ix_hz h' - ix_hz h) ≤ (ix_ER E).slots)
    (k : ix_V E (cells + (h'.length - h.length)) (slots + (ix_hz h' - ix_hz h)) (pc + 3) L (v.toList ++ st) h') : ix_V E cells slots pc L ((.ref b :: as).reverse ++ st) h := by
  obtain ⟨p, l, e', R, s, m, args, below, meth, c, Q, j, base, D, ca, κ, X⟩ := E
  intro hz H locs ls hP hS hl
  refine ix_Wsz fun hsz => ?_
  have hchk := ix_ca_chk hf
  have hwds := ix_ca_W hf
  have hG := C.2.2.2.2.2.1
  have hts := C.2.2.2.2.1
  have hpre := ix_pre (X := X) (.ref b :: as) hz C.2.2.2.2.2.2.1 hG hP hS hsz
  have hstk : ((Value.ref b :: as).reverse ++ st).map (ix_tv base κ) = (as.map (ix_tv base κ)).reverse ++ .ref (base + b) :: st.map (ix_tv base κ) := by simp [ix_tv]
  have h9 : 40 * (d + 2) ≤ R.locals := hR2
  obtain ⟨c0, j', kd⟩ := q
  have hqm := List.mem_of_find?_eq_some hq
  have hqe := List.find?_some hq
  simp only [beq_iff_eq] at hqe
  subst hqe
  rw [ix_k4] at hchk
  have h4 := List.all_eq_true.mp hchk _ hqm
  have h5 : ∀ w ∈ ix_tw (ix_o j) i (c0, j', kd), w ∈ ix_W := fun w hw => hwds w (by
    rw [ix_c4]
    exact List.mem_flatMap.mpr ⟨_, hqm, hw⟩)
  obtain ⟨fs, hb⟩ := ix_cls_inv hcl
  unfold ix_tchk at h4
  simp only [Bool.and_eq_true, decide_eq_true_eq] at h4
  obtain ⟨⟨hmk, h13⟩, hrest⟩ := h4
  obtain ⟨hj, hdd, hmx⟩ := ix_mok_inv hmk
  have hrecv := va_recv hG.1 hP (ix_cl_at c0 h13) (ix_ws_at (base := base) (ca := ca) (κ := κ) hb)
  have hpv : PreV s H (ix_R c0) (base + b) (ix_Pc base D ca κ X (.ref b :: as) h) (as.map (ix_tv base κ)) := ⟨hpre.1, hrecv, hpre.2⟩
  by_cases hk4 : kd = 4
  · subst hk4
    simp only [if_true, beq_iff_eq] at hrest
    have h6 : ∀ w ∈ wsV (ix_R (ix_o j)) i (ix_R c0) (ix_y j') (ix_mcode j' :: ix_W), w ∈ ix_W := by
      intro w hw
      unfold wsV at hw
      rcases List.mem_append.mp hw with hw | hw
      · refine h5 w ?_
        simp only [ix_tw, if_true, List.mem_cons, List.not_mem_nil, or_false] at hw ⊢
        rcases hw with rfl | rfl | rfl | rfl <;> simp
      · exact (ix_GW hj w hw).1
    exact sv_run hz (by omega) hS hl (va_runV ⟨C.1, C.2.1, C.2.2.1, C.2.2.2.1, hts⟩ (hM l base D ca κ) (cwV n hts (fun w hw => ⟨h6 w hw, ix_W_good (h6 w hw)⟩) rfl rfl rfl ⟨hrest.symm, hdd⟩ ⟨hR1, by show 8 + (ix_mx j' + 11) + 40 * (d + 1) ≤ R.locals; omega⟩) hpv rfl (by rw [List.length_map]; exact hn) hl.1 hstk (lv_room (by rw [ix_wt_tv hG.2.2.2.2.2.2.2.2.2]; exact hw)) hd ⟨hc, hs⟩) k
  · rw [if_neg hk4] at hrest
    simp only [Bool.and_eq_true, bne_iff_ne, ne_eq, Bool.or_eq_true, decide_eq_true_eq, List.any_eq_true, List.mem_range] at hrest
    obtain ⟨⟨hn1, hn2⟩, hdec⟩ := hrest
    have hw5 : ∀ w, w = Cond.instanceMethod (ix_y j') ∨ w = Cond.methodLink (ix_R (ix_o j)) i (ix_x j' (ix_xc kd)) ∨ w = Cond.sameMethod (ix_xc kd) (ix_xo kd) (ix_y j').name (ix_y j').desc ∨ w = Cond.selects (ix_R c0) (ix_x j' (ix_xc kd)) (ix_y j') ∨ w = Cond.initialized (ix_y j').cls → w.before args s = true := fun w hw => hts w (h5 w (by
      simp only [ix_tw, if_neg hk4, List.mem_cons, List.not_mem_nil, or_false]
      exact hw))
    have hDecl : va_Decl s (ix_x j' (ix_xo kd)) := by
      rcases hdec with h6 | ⟨j2, hj2, h6, h7⟩
      · exact va_Decl.abs (hG.2.1 _ h6)
      · cases hq2 : ix_iwt[j2]? with
        | none => rw [hq2] at h7; cases h7
        | some o2 =>
          rw [hq2] at h7
          cases o2 with
          | none => cases h7
          | some q2 =>
            have h8 := hts _ (ix_pw_W h7)
            have h9 := hts _ (ix_mcode_W hj2)
            unfold ix_mcode at h9
            rw [h6] at h9
            exact va_Decl.of h8 h9
    have hpay : ∀ w ∈ ix_mcode j' :: ix_W, ∀ (a' : Array Value) (U : State), s.WarmedH U.vm → w.before a' U = true := pay_in hts (ix_GW hj)
    have hcu : va_CU R s args (ix_R (ix_o j)) (ix_R c0) (ix_xo kd) i (ix_x j' (ix_xc kd)) (ix_y j') (ix_cc j') (ix_mx j') (ix_rt j') (ix_mcode j' :: ix_W) (ix_rm d (h'.length - h.length) (ix_hz h' - ix_hz h)) (h'.length - h.length) (ix_hz h' - ix_hz h) n := by
      refine ⟨⟨rfl, rfl, hR1, by show 8 + (ix_mx j' + 11) + 40 * (d + 1) ≤ R.locals; omega, hpay, List.mem_cons_self⟩, hts _ (ix_mcode_W hj), hw5 _ (by simp), ⟨hn1, hn2⟩, fun sig hs9 => ?_, hw5 _ (by simp), hw5 _ (Or.inr (Or.inr (Or.inl rfl))), hDecl, hw5 _ (by simp), hw5 _ (by simp)⟩
      have h10 := hdd.2.2
      have h11 : parseMethodDescriptor (ix_y j').desc = some sig := hs9
      rw [h11] at h10
      exact (Option.some.inj h10).symm
    exact sv_run hz (by omega) hS hl (va_runU ⟨C.1, C.2.1, C.2.2.1, C.2.2.2.1, hts⟩ (hM l base D ca κ) hcu hpv rfl (by rw [List.length_map]; exact hn) hl.1 hstk (lv_room (by rw [ix_wt_tv hG.2.2.2.2.2.2.2.2.2]; exact hw)) hd ⟨hc, hs⟩) k
/-- a call of a text's method -/
theorem sv_text (C : ix_Cx E) {d i n j' x y t : Nat} {tg : List (Nat × Nat × Nat)} {as : List Value} {v : Option Value} {h' : ix_H} (ht : t < 6) (hd : decode (ix_cc (ix_Ej E)) pc = .ok (.invokevirtual i, 3)) (hf : ix_ca (ix_o (ix_Ej E)) i = some (6, n, (x, j', y) :: tg)) (hM : ix_Mt (ix_EX E) d j' (.retAddr (2 + 2 * t) :: as) h v h') (hm : h.length ≤ h'.length) (hn : as.length = n) (hw : ix_wt st ≤ 8)
    (hR1 : d + 2 ≤ (ix_ER E).frames) (hR2 : 40 * (d + 2) ≤ (ix_ER E).locals) (hc : cells + (h'.length - h.length) ≤ (ix_ER E).cells) (hs : slots + (ix_hz h' - ix_hz h) ≤ (ix_ER E).slots)
    (k : ix_V E (cells + (h'.length - h.length)) (slots + (ix_hz h' - ix_hz h)) (pc + 3) L (v.toList ++ st) h') : ix_V E cells slots pc L ((.retAddr (2 + 2 * t) :: as).reverse ++ st) h := by
  obtain ⟨p, l, e', R, s, m, args, below, meth, c, Q, j, base, D, ca, κ, X⟩ := E
  intro hz H locs ls hP hS hl
  refine ix_Wsz fun hsz => ?_
  have hchk := ix_ca_chk hf
  have hwds := ix_ca_W hf
  have hG := C.2.2.2.2.2.1
  have hts := C.2.2.2.2.1
  have hpre := ix_pre (X := X) (.retAddr (2 + 2 * t) :: as) hz C.2.2.2.2.2.2.1 hG hP hS hsz
  obtain ⟨adK, adV, g7, g8⟩ := hG.2.2.2.2.2.2.1
  have hκ : ix_tv base κ (.retAddr (2 + 2 * t)) = .ref (adK t) := (g7 t ht).1
  have hstk : ((Value.retAddr (2 + 2 * t) :: as).reverse ++ st).map (ix_tv base κ) = (as.map (ix_tv base κ)).reverse ++ .ref (adK t) :: st.map (ix_tv base κ) := by simp [hκ]
  have h9 : 40 * (d + 2) ≤ R.locals := hR2
  simp only [ix_k6, List.all_cons, Bool.and_eq_true, beq_iff_eq] at hchk
  obtain ⟨⟨hmk, hcls⟩, -⟩ := hchk
  obtain ⟨hj, hdd, hmx⟩ := ix_mok_inv hmk
  have hpv : PreV s H "java/lang/String" (adK t) (ix_Pc base D ca κ X (.retAddr (2 + 2 * t) :: as) h) (as.map (ix_tv base κ)) := ⟨hpre.1, vk_recv g8 ht hS, by
    have := hpre.2
    rw [List.map_cons, hκ] at this
    exact this⟩
  have h6 : ∀ w ∈ wsV (ix_R (ix_o j)) i "java/lang/String" (ix_y j') (ix_mcode j' :: ix_W), w ∈ ix_W := by
    intro w hw
    unfold wsV at hw
    rcases List.mem_append.mp hw with hw | hw
    · refine hwds w ?_
      rw [ix_c6, List.flatMap_cons]
      exact List.mem_append_left _ hw
    · exact (ix_GW hj w hw).1
  exact sv_run hz (by omega) hS hl (va_runV ⟨C.1, C.2.1, C.2.2.1, C.2.2.2.1, hts⟩ (hM l base D ca κ) (cwV n hts (fun w hw => ⟨h6 w hw, ix_W_good (h6 w hw)⟩) rfl rfl rfl ⟨hcls, hdd⟩ ⟨hR1, by show 8 + (ix_mx j' + 11) + 40 * (d + 1) ≤ R.locals; omega⟩) hpv rfl (by rw [List.length_map]; exact hn) hl.1 hstk (lv_room (by rw [ix_wt_tv hG.2.2.2.2.2.2.2.2.2]; exact hw)) hd ⟨hc, hs⟩) k
end VCALLS
