/-! ===== a run of the interpreter is a run of the machine ===== -/
def ix_mo (h : ix_H) (a : ix_A) : Prop := match a with
  | none => True
  | some (.inl _) => True
  | some (.inr (.inl (_, _, _, h'))) => ix_le h h'
  | some (.inr (.inr (_, _, _, _, _, h'))) => h' = h
section MONO
variable {h h' : ix_H} {pc : Nat} {L : ix_L} {st : List Value}
theorem m1_none : ix_mo h none := trivial
theorem m1_nx : ix_mo h (ix_nx pc L st h) := ⟨Nat.le_refl _, Nat.le_refl _⟩
theorem m1_rt {v : Option Value} : ix_mo h (ix_rt1 v) := trivial
theorem m1_cal {j : Nat} {as : List Value} : ix_mo h (ix_cal j as pc L st h) := rfl
theorem m1_up (e1 : h'.length = h.length) (e2 : ix_hz h' = ix_hz h) : ix_mo h (ix_nx pc L st h') := ⟨by omega, by omega⟩
theorem m1_new {c : ix_C} : ix_mo h (ix_nx pc L st (h ++ [c])) := ⟨by simp, by rw [ix_hz_app]; omega⟩
theorem m1_i1 {f : Int32 → List Value → ix_A} (k : ∀ x r, ix_mo h (f x r)) : ix_mo h (ix_i1 st f) := by
  unfold ix_i1; split
  · exact k _ _
  · trivial
theorem m1_i2 {f : Int32 → Int32 → List Value → ix_A} (k : ∀ x y r, ix_mo h (f x y r)) : ix_mo h (ix_i2 st f) := by
  unfold ix_i2; split
  · exact k _ _ _
  · trivial
theorem m1_l1 {f : Int64 → List Value → ix_A} (k : ∀ x r, ix_mo h (f x r)) : ix_mo h (ix_l1 st f) := by
  unfold ix_l1; split
  · exact k _ _
  · trivial
theorem m1_l2 {f : Int64 → Int64 → List Value → ix_A} (k : ∀ x y r, ix_mo h (f x y r)) : ix_mo h (ix_l2 st f) := by
  unfold ix_l2; split
  · exact k _ _ _
  · trivial
theorem m1_li {f : Int64 → Int32 → List Value → ix_A} (k : ∀ x y r, ix_mo h (f x y r)) : ix_mo h (ix_li st f) := by
  unfold ix_li; split
  · exact k _ _ _
  · trivial
theorem m1_ld {i t : Nat} {f : Value → ix_A} (k : ∀ v, ix_mo h (f v)) : ix_mo h (ix_ld L i t f) := by
  unfold ix_ld; split
  · split
    · exact k _
    · trivial
  · trivial
theorem m1_so {j i t : Nat} {f : ix_L → List Value → ix_A} (k : ∀ L r, ix_mo h (f L r)) : ix_mo h (ix_so j L i t st f) := by
  unfold ix_so; split
  · split
    · exact k _ _
    · trivial
  · trivial
theorem m1_sl {j i : Nat} {f : ix_L → List Value → ix_A} (k : ∀ L r, ix_mo h (f L r)) : ix_mo h (ix_sl j L i st f) := by
  unfold ix_sl; split
  · split
    · exact k _ _
    · trivial
  · trivial
theorem m1_ovl {α : Type} {o : Option α} {f : α → ix_A} (k : ∀ v, ix_mo h (f v)) : ix_mo h (ix_ovl o f) := by
  unfold ix_ovl; split
  · exact k _
  · trivial
theorem m1_ohp {o : Option ix_H} {f : ix_H → ix_A} (k : ∀ v, o = some v → ix_mo h (f v)) : ix_mo h (ix_ohp o f) := by
  unfold ix_ohp; split
  · exact k _ rfl
  · trivial
theorem m1_jmp {off : Int} : ix_mo h (ix_jmp pc off L st h) := by
  unfold ix_jmp; split
  · exact m1_nx
  · trivial
theorem m1_pop {n : Nat} {f : List Value → List Value → ix_A} (k : ∀ as r, ix_mo h (f as r)) : ix_mo h (ix_pop n st f) := by
  unfold ix_pop; split
  · exact k _ _
  · trivial
theorem m1_pf {j r k : Nat} {cs : List Nat} {v : Value} (e : ix_pf j h r cs k v = some h') : ix_mo h (ix_nx pc L st h') := by
  obtain ⟨c0, fs, h1, -, h3, -, -, e9⟩ := ix_pf_inv e
  exact m1_up (by rw [e9, ix_up, List.length_set]) (by rw [e9]; exact ix_hz_up h1 (by simp [ix_cz]))
theorem m1_wa {a t : Nat} {i x : Int32} (e : ix_wa h a t i x = some h') : ix_mo h (ix_nx pc L st h') := by
  obtain ⟨n0, f, h1, -, e9⟩ := ix_wa_inv e
  exact m1_up (by rw [e9, ix_up, List.length_set]) (by rw [e9]; exact ix_hz_up h1 rfl)
theorem m1_wq {a v : Nat} {i : Int32} (e : ix_wq h a i v = some h') : ix_mo h (ix_nx pc L st h') := by
  obtain ⟨t, n0, f, c0, fs, h1, -, -, -, e9⟩ := ix_wq_inv e
  exact m1_up (by rw [e9, ix_up, List.length_set]) (by rw [e9]; exact ix_hz_up h1 rfl)
theorem m1_cp {a b : Nat} {sp dp n : Int32} (e : ix_cpyh h a b sp dp n = some h') : ix_mo h (ix_nx pc L st h') := by
  obtain ⟨n0, f, n1, g, h1, h2, -, -, -, -, -, e9⟩ := ix_cpyh_inv e
  exact m1_up (by rw [e9, ix_up, List.length_set]) (by rw [e9]; exact ix_hz_up h2 rfl)
theorem m1_inv {kd : Nat} {ca : Option (Nat × Nat × List (Nat × Nat × Nat))} : ix_mo h (ix_inv pc kd ca L st h) := by
  unfold ix_inv
  repeat' (first | exact m1_none | exact m1_nx | exact m1_cal | (refine m1_pop fun _ _ => ?_) | (refine m1_ovl fun _ => ?_) | (refine m1_ohp fun _ e => ?_) | exact m1_cp e | split)
set_option maxHeartbeats 4000000 in
theorem ix_act_mo {X : ix_X} {j : Nat} : ix_mo h (ix_act X j pc L st h) := by
  unfold ix_act
  cases hd : decode (ix_cc j) pc with
  | error _ => exact trivial
  | ok q =>
    obtain ⟨i, n⟩ := q
    simp only
    split
    · cases i <;> simp only [ix_do, ix_retI, ix_retA] <;>
        repeat' (first | exact m1_none | exact m1_nx | exact m1_rt | exact m1_new | exact m1_jmp | exact m1_inv | exact m1_pf (by assumption) | exact m1_wa (by assumption) | exact m1_wq (by assumption) | (refine m1_i1 fun _ _ => ?_) | (refine m1_i2 fun _ _ _ => ?_) | (refine m1_l1 fun _ _ => ?_) | (refine m1_l2 fun _ _ _ => ?_) | (refine m1_li fun _ _ _ => ?_) | (refine m1_ld fun _ => ?_) | (refine m1_so fun _ _ => ?_) | (refine m1_sl fun _ _ => ?_) | (refine m1_ovl fun _ => ?_) | (refine m1_ohp fun _ _ => ?_) | split)
    · trivial
end MONO
theorem ix_mono {X : ix_X} : ∀ (n d j pc : Nat) (L : ix_L) (st : List Value) (h : ix_H) (v : Option Value) (h' : ix_H), ix_run X n d j pc L st h = some (v, h') → ix_le h h' := by
  intro n
  induction n with
  | zero => intro d j pc L st h v h' e; simp [ix_run] at e
  | succ n ih =>
    intro d j pc L st h v h' e
    rw [ix_run] at e
    have M := ix_act_mo (X := X) (j := j) (pc := pc) (L := L) (st := st) (h := h)
    cases ha : ix_act X j pc L st h with
    | none => rw [ha] at e; simp at e
    | some a =>
      rw [ha] at e M
      rcases a with v' | ⟨pc', L', st', h1⟩ | ⟨j', as, pc', L', st', h1⟩
      · simp only [Option.some.injEq, Prod.mk.injEq] at e
        rw [← e.2]
        exact ⟨Nat.le_refl _, Nat.le_refl _⟩
      · have h2 := ih _ _ _ _ _ _ _ _ e
        exact ⟨Nat.le_trans M.1 h2.1, Nat.le_trans M.2 h2.2⟩
      · have M' : h1 = h := M
        subst M'
        cases d with
        | zero => simp at e
        | succ d =>
          simp only at e
          cases hL : ix_ent j' as with
          | none => rw [hL] at e; simp at e
          | some L0 =>
            rw [hL] at e
            simp only at e
            cases hr : ix_run X n d j' 0 L0 [] h1 with
            | none => rw [hr] at e; simp at e
            | some q =>
              obtain ⟨v2, h2⟩ := q
              rw [hr] at e
              have a1 := ih _ _ _ _ _ _ _ _ hr
              have a2 := ih _ _ _ _ _ _ _ _ e
              exact ⟨Nat.le_trans a1.1 a2.1, Nat.le_trans a1.2 a2.2⟩
/-- what a method's end asks -/
def ix_End (E : ix_E) (v : Option Value) (hF : ix_H) : Prop := ∀ (cells slots pc : Nat) (L : ix_L), ix_rok (ix_Ej E) pc v → cells ≤ (ix_ER E).cells → slots ≤ (ix_ER E).slots → ix_V E cells slots pc L v.toList hF
set_option maxHeartbeats 1000000 in
theorem ix_sound (X : ix_X) : ∀ (n d : Nat) (E : ix_E) (pc : Nat) (L : ix_L) (st : List Value) (h : ix_H) (v : Option Value) (hF : ix_H), ix_run X n d (ix_Ej E) pc L st h = some (v, hF) → ix_EX E = X → ix_Cx E → d + 1 ≤ (ix_ER E).frames → 40 * (d + 1) ≤ (ix_ER E).locals → ix_End E v hF →
    ∀ cells slots, cells + hF.length ≤ (ix_ER E).cells + h.length → slots + ix_hz hF ≤ (ix_ER E).slots + ix_hz h → ix_V E cells slots pc L st h := by
  intro n
  induction n with
  | zero => intro d E pc L st h v hF e; simp [ix_run] at e
  | succ n ih =>
    intro d E pc L st h v hF e hX C f1 f2 hE cells slots hc hs
    rw [ix_run] at e
    have S := ix_one (L := L) (st := st) (h := h) (pc := pc) C
    rw [hX] at S
    cases ha : ix_act X (ix_Ej E) pc L st h with
    | none => rw [ha] at e; simp at e
    | some a =>
      rw [ha] at e S
      rcases a with v' | ⟨pc', L', st', h1⟩ | ⟨j', as, pc', L', st', h1⟩
      · simp only [Option.some.injEq, Prod.mk.injEq] at e
        obtain ⟨rfl, rfl⟩ := e
        obtain ⟨rfl, hr⟩ := S
        exact hE cells slots pc L hr (by omega) (by omega)
      · obtain ⟨M, S2⟩ := S
        have M2 := ix_mono _ _ _ _ _ _ _ _ _ e
        have m1 := M.1
        have m2 := M.2
        have m3 := M2.1
        have m4 := M2.2
        exact S2 cells slots (by omega) (by omega) (ih d E pc' L' st' h1 v hF e hX C f1 f2 hE _ _ (by omega) (by omega))
      · obtain ⟨rfl, hj, S2⟩ := S
        cases d with
        | zero => simp at e
        | succ d =>
          simp only at e
          cases hL : ix_ent j' as with
          | none => rw [hL] at e; simp at e
          | some L0 =>
            rw [hL] at e
            simp only at e
            cases hr : ix_run X n d j' 0 L0 [] h1 with
            | none => rw [hr] at e; simp at e
            | some q =>
              obtain ⟨v2, h2⟩ := q
              rw [hr] at e
              simp only at e
              have M1 := ix_mono _ _ _ _ _ _ _ _ _ hr
              have M2 := ix_mono _ _ _ _ _ _ _ _ _ e
              have m1 := M1.1
              have m2 := M1.2
              have m3 := M2.1
              have m4 := M2.2
              have hMt : ix_Mt X d j' as h1 v2 h2 := by
                intro l base D ca κ
                have hmc := ix_m_chk hj
                unfold ix_mchk at hmc
                simp only [Bool.and_eq_true, decide_eq_true_eq, beq_iff_eq] at hmc
                refine Met.ofW (cc := ix_cc j') (maxL := ix_mx j') (ret := ix_rt j') hmc.1.1.1.1 rfl ?_
                intro p e0 s m args below meth c s₁ B hml hv
                obtain ⟨rfl, hsz, hP, hG⟩ := hv
                have hκ := hG.2.2.2.2.2.2.2.2.2
                rw [lg_entry_eq]
                have hts : ∀ w ∈ ix_mcode j' :: ix_W, w.before (as.map (ix_tv base κ)).toArray s = true := atoms_spec (ws := ix_mcode j' :: ix_W) B.pre
                have hown : s.vm.findClass (ix_R (ix_o j')) = some m.cls := by
                  rw [← hmc.1.1.2]
                  exact findClass_of_methodNamed B.named
                have hR : (headSpec (ix_mcode j' :: ix_W) (ix_rm d (h2.length - h1.length) (ix_hz h2 - ix_hz h1))).room = ix_rm d (h2.length - h1.length) (ix_hz h2 - ix_hz h1) := rfl
                rw [hR]
                have hlocks := B.notSynchronized
                refine ih d (p, l, e0, ix_rm d (h2.length - h1.length) (ix_hz h2 - ix_hz h1), s, m, (as.map (ix_tv base κ)).toArray, below, meth, c, MQ below (ix_Qc base D ca κ v2 h2) (as.map (ix_tv base κ)).toArray s (h2.length - h1.length) (ix_hz h2 - ix_hz h1) (fun q => base ≤ q), j', base, D, ca, κ, X) 0 L0 [] h1 v2 h2 hr rfl ?_ (Nat.le_refl _) (Nat.le_refl _) ?_ 0 0 ?_ ?_ ?_ s.heap [] _ hP va_S.rf (ix_lh.entry hκ hL)
                · exact ⟨B.exec, B.bytes, hml, hown, fun w hw => hts w (List.mem_cons_of_mem _ hw), hG, by omega, fun hi => (name_of_methodNamed B.named B.method).1.trans hi, by show 1 ≤ d + 1; omega, by show 40 ≤ 40 * (d + 1); omega⟩
                · intro cells2 slots2 pc2 L2 hrok hc2 hs2 hz2 H locs ls hP2 hS2 hl2
                  have hc3 : cells2 ≤ h2.length - h1.length := hc2
                  have hs3 : slots2 ≤ ix_hz h2 - ix_hz h1 := hs2
                  refine W.widen hc3 hs3 ?_
                  cases v2 with
                  | none =>
                    obtain ⟨r1, r2⟩ := hrok
                    exact W.vret B.exec B.bytes (B.returns.trans r2) (fun t ht hW => ⟨rfl, by rw [ht]; exact hP2, hS2.F ht⟩) hS2.2.2 r1
                  | some w =>
                    have areturn : (decode (ix_cc j') pc2 = .ok (.areturn, 1) ∧ (w = .null ∨ ∃ a, w = .ref a) ∧ ∃ n, ix_rt j' = some (.object n)) → W p l e0 (ix_rm d (h2.length - h1.length) (ix_hz h2 - ix_hz h1)) s m (as.map (ix_tv base κ)).toArray below meth c H locs (h2.length - h1.length) (ix_hz h2 - ix_hz h1) (MQ below (ix_Qc base D ca κ (some w) h2) (as.map (ix_tv base κ)).toArray s (h2.length - h1.length) (ix_hz h2 - ix_hz h1) (fun q => base ≤ q)) (F0 m pc2 ls [ix_tv base κ w]) := by
                      rintro ⟨r1, r2, nn, r3⟩
                      refine W.aret B.exec B.bytes (B.returns.trans r3) (Or.inl ⟨nn, rfl⟩) ?_ (fun t ht hW => ⟨rfl, by rw [ht]; exact hP2, hS2.F ht⟩) hS2.2.2 r1
                      rcases r2 with rfl | ⟨a, rfl⟩
                      · exact Or.inl rfl
                      · exact Or.inr ⟨_, rfl⟩
                    cases w with
                    | int x =>
                      obtain ⟨r1, ty, r2, r3⟩ := hrok
                      refine W.zret B.exec B.bytes (B.returns.trans r2) ?_ (fun t ht hW => ⟨rfl, by rw [ht]; exact hP2, hS2.F ht⟩) hS2.2.2 r1
                      rcases r3 with rfl | r3
                      · rfl
                      · exact r3
                    | long x =>
                      obtain ⟨r1, r2⟩ := hrok
                      exact W.lret B.exec B.bytes (B.returns.trans r2) (fun t ht hW => ⟨rfl, by rw [ht]; exact hP2, hS2.F ht⟩) hS2.2.2 r1
                    | null => exact areturn hrok
                    | ref a => exact areturn hrok
                    | retAddr q =>
                      obtain ⟨-, r2, -⟩ := hrok
                      rcases r2 with r2 | ⟨a, r2⟩ <;> cases r2
                    | float x =>
                      obtain ⟨-, r2, -⟩ := hrok
                      rcases r2 with r2 | ⟨a, r2⟩ <;> cases r2
                    | double x =>
                      obtain ⟨-, r2, -⟩ := hrok
                      rcases r2 with r2 | ⟨a, r2⟩ <;> cases r2
                · show 0 + h2.length ≤ h2.length - h1.length + h1.length
                  omega
                · show 0 + ix_hz h2 ≤ ix_hz h2 - ix_hz h1 + ix_hz h1
                  omega
                · show s.heap.size + 0 = base + h1.length
                  omega
              rw [← hX] at hMt
              exact S2 d v2 h2 cells slots hMt m1 (by omega) (by omega) (by omega) (by omega) (ih (d + 1) E pc' L' (v2.toList ++ st') h2 v hF e hX C f1 f2 hE _ _ (by omega) (by omega))
