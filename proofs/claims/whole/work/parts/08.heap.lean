/-! ===== the rows of the heap ===== -/
theorem ix_gf_inv {h : ix_H} {r k : Nat} {cs : List Nat} {v : Value} (e : ix_gf h r cs k = some v) : ∃ c fs, ix_at h r = some (.inr (c, fs)) ∧ c ∈ cs ∧ fs[k]? = some v := by
  unfold ix_gf at e
  split at e
  · rename_i c fs hc
    split at e
    · rename_i hm
      exact ⟨c, fs, hc, hm, e⟩
    · cases e
  · cases e
theorem ix_pf_inv {j : Nat} {h h' : ix_H} {r k : Nat} {cs : List Nat} {v : Value} (e : ix_pf j h r cs k v = some h') : ∃ c fs, ix_at h r = some (.inr (c, fs)) ∧ c ∈ cs ∧ k < fs.length ∧ ix_vt (ix_ty c k) v = true ∧ ix_fin j c k = true ∧ h' = ix_up h r (.inr (c, fs.set k v)) := by
  unfold ix_pf at e
  split at e
  · rename_i c fs hc
    split at e
    · rename_i hm
      obtain ⟨h1, h2, h3, h4⟩ := hm
      exact ⟨c, fs, hc, h1, h2, h3, h4, (Option.some.inj e).symm⟩
    · cases e
  · cases e
theorem ix_ra_inv {h : ix_H} {a t : Nat} {i x : Int32} (e : ix_ra h a t i = some x) : ∃ n f, ix_at h a = some (.inl (t, n, .inl f)) ∧ vp_in i n ∧ x = f i.toNatClampNeg := by
  unfold ix_ra at e
  split at e
  · rename_i t' n f hc
    split at e
    · rename_i hm
      obtain ⟨rfl, h2, h3⟩ := hm
      exact ⟨n, f, hc, fun z => z.elim (fun z => absurd h2 (Int32.not_le.mpr z)) (fun z => by omega), (Option.some.inj e).symm⟩
    · cases e
  · cases e
theorem ix_wa_inv {h h' : ix_H} {a t : Nat} {i x : Int32} (e : ix_wa h a t i x = some h') : ∃ n f, ix_at h a = some (.inl (t, n, .inl f)) ∧ vp_in i n ∧ h' = ix_up h a (.inl (t, n, .inl (upd f i.toNatClampNeg x))) := by
  unfold ix_wa at e
  split at e
  · rename_i t' n f hc
    split at e
    · rename_i hm
      obtain ⟨rfl, h2, h3⟩ := hm
      exact ⟨n, f, hc, fun z => z.elim (fun z => absurd h2 (Int32.not_le.mpr z)) (fun z => by omega), (Option.some.inj e).symm⟩
    · cases e
  · cases e
theorem ix_rq_inv {h : ix_H} {a : Nat} {i : Int32} {o : Option Nat} (e : ix_rq h a i = some o) : ∃ t n f, ix_at h a = some (.inl (t, n, .inr (.inr (.inr (.inr f))))) ∧ 2 ≤ t ∧ t < 5 ∧ vp_in i n ∧ o = f i.toNatClampNeg := by
  unfold ix_rq at e
  split at e
  · rename_i t n f hc
    split at e
    · rename_i hm
      obtain ⟨h0, h1, h2, h3⟩ := hm
      exact ⟨t, n, f, hc, h0, h1, fun z => z.elim (fun z => absurd h2 (Int32.not_le.mpr z)) (fun z => by omega), (Option.some.inj e).symm⟩
    · cases e
  · cases e
theorem ix_cls_inv {h : ix_H} {r c : Nat} (e : ix_cls h r = some c) : ∃ fs, ix_at h r = some (.inr (c, fs)) := by
  unfold ix_cls at e
  split at e
  · rename_i c' fs hc
    cases e
    exact ⟨fs, hc⟩
  · cases e
theorem ix_wq_inv {h h' : ix_H} {a v : Nat} {i : Int32} (e : ix_wq h a i v = some h') : ∃ t n f c fs, ix_at h a = some (.inl (t, n, .inr (.inr (.inr (.inr f))))) ∧ ix_at h v = some (.inr (c, fs)) ∧ ix_okst t c = true ∧ vp_in i n ∧ h' = ix_up h a (.inl (t, n, .inr (.inr (.inr (.inr (va_up f i.toNatClampNeg (some v))))))) := by
  unfold ix_wq at e
  split at e
  · rename_i t n f hc
    split at e
    · rename_i c hv
      obtain ⟨fs, hfs⟩ := ix_cls_inv hv
      split at e
      · rename_i hm
        obtain ⟨h0, -, -, h2, h3⟩ := hm
        exact ⟨t, n, f, c, fs, hc, hfs, h0, fun z => z.elim (fun z => absurd h2 (Int32.not_le.mpr z)) (fun z => by omega), (Option.some.inj e).symm⟩
      · cases e
    · cases e
  · cases e
theorem ix_al_inv {h : ix_H} {a n : Nat} (e : ix_al h a = some n) : (∃ t f, ix_at h a = some (.inl (t, n, .inl f)) ∧ t < 2) ∨ ∃ t f, ix_at h a = some (.inl (t, n, .inr (.inr (.inr (.inr f))))) ∧ 2 ≤ t ∧ t < 5 := by
  unfold ix_al at e
  split at e
  · rename_i t n' f hc
    split at e
    · cases e; exact Or.inl ⟨t, f, hc, by assumption⟩
    · cases e
  · rename_i t n' f hc
    split at e
    · rename_i hm
      cases e; exact Or.inr ⟨t, f, hc, hm⟩
    · cases e
  · cases e
theorem ix_by_inv {q : Nat} {i x : Int32} (e : ix_by q i = some x) : ∃ k, k < 6 ∧ q = 3 + 2 * k ∧ vp_in i (ix_tlen k) ∧ x = (ix_tbyt k).getD i.toNatClampNeg 0 := by
  unfold ix_by at e
  split at e
  · rename_i hm
    obtain ⟨h0, h1, h2, h3, h4⟩ := hm
    exact ⟨(q - 3) / 2, by omega, by omega, fun z => z.elim (fun z => absurd h3 (Int32.not_le.mpr z)) (fun z => by omega), (Option.some.inj e).symm⟩
  · cases e
theorem ix_cpyh_inv {h h' : ix_H} {a b : Nat} {sp dp n : Int32} (e : ix_cpyh h a b sp dp n = some h') : ∃ n0 f n1 g, ix_at h a = some (.inl (0, n0, .inl f)) ∧ ix_at h b = some (.inl (0, n1, .inl g)) ∧ 0 ≤ sp ∧ 0 ≤ dp ∧ 0 ≤ n ∧ sp.toNatClampNeg + n.toNatClampNeg ≤ n0 ∧ dp.toNatClampNeg + n.toNatClampNeg ≤ n1 ∧ h' = ix_up h b (.inl (0, n1, .inl (va_cpy f g sp.toNatClampNeg dp.toNatClampNeg n.toNatClampNeg))) := by
  unfold ix_cpyh at e
  split at e
  · rename_i t0 n0 f hc
    split at e
    · rename_i t1 n1 g hd
      split at e
      · rename_i hm
        obtain ⟨rfl, rfl, h1, h2, h3, h4, h5⟩ := hm
        exact ⟨n0, f, n1, g, hc, hd, h1, h2, h3, h4, h5, (Option.some.inj e).symm⟩
      · cases e
    · cases e
  · cases e
theorem ix_vt_ok {base : Nat} {κ : Nat → Value} {t : FieldType} {v : Value} (h : ix_vt t v = true) : narrow t (ix_tv base κ v) = ix_tv base κ v ∧ fits t (ix_tv base κ v) = true := by
  cases t with
  | int => cases v <;> simp [ix_vt] at h ⊢ <;> exact ⟨rfl, rfl⟩
  | boolean =>
    cases v with
    | int x =>
      simp only [ix_vt, Bool.or_eq_true, beq_iff_eq] at h
      rcases h with rfl | rfl
      · show narrow .boolean (.int 0) = .int 0 ∧ fits .boolean (.int 0) = true
        decide +kernel
      · show narrow .boolean (.int 1) = .int 1 ∧ fits .boolean (.int 1) = true
        decide +kernel
    | _ => simp [ix_vt] at h
  | object n => cases v <;> simp [ix_vt] at h ⊢ <;> exact ⟨rfl, rfl⟩
  | array t => cases v <;> simp [ix_vt] at h ⊢ <;> exact ⟨rfl, rfl⟩
  | _ => simp [ix_vt] at h
theorem ix_tv_def {base : Nat} {κ : Nat → Value} (t : FieldType) : ix_tv base κ (defaultValue t) = defaultValue t := by cases t <;> rfl
theorem ix_tlens : ∀ k, k < 6 → (ix_txt.map List.length).getD k 0 = ix_tlen k := by decide +kernel
/-- the place of a new cell -/
theorem ix_q {base : Nat} {ca : Nat → ClassId} {κ : Nat → Value} {h : ix_H} {D : va_G} {q : Nat} {e : va_E} {H1 : Heap} (hP : va_P D ix_cl (ix_ws base ca κ h ++ [(q, e)]) H1) (hD : va_D (fun q => base ≤ q) (ix_ws base ca κ h ++ [(q, e)])) (hz : H1.size ≤ base + h.length + 1) : q = base + h.length := by
  have hlast : (ix_ws base ca κ h ++ [(q, e)])[h.length]? = some (q, e) := by
    rw [List.getElem?_append_right (by rw [ix_ws_len]; exact Nat.le_refl _), ix_ws_len, Nat.sub_self]
    rfl
  have h1 : base ≤ q := hD.2 _ _ hlast
  have h2 : q < H1.size := (hP _ _ hlast).lt
  by_cases h3 : q < base + h.length
  · exfalso
    have hk : q - base < h.length := by omega
    obtain ⟨c, hc⟩ : ∃ c, h[q - base]? = some c := ⟨_, List.getElem?_eq_getElem hk⟩
    have h4 : (ix_ws base ca κ h ++ [(q, e)])[q - base]? = some (base + (q - base), ix_tc base ca κ c) := by
      rw [List.getElem?_append_left (by rw [ix_ws_len]; exact hk)]
      exact ix_ws_at hc
    have := hD.1 _ _ _ _ h4 hlast (by show base + (q - base) = q; omega)
    omega
  · omega
section VHEAP
variable {E : ix_E} {cells slots pc : Nat} {L : ix_L} {st : List Value} {h : ix_H}
theorem sv_getfield (C : ix_Cx E) {i r : Nat} {e : Nat × List Nat × Nat × Nat} {v : Value} (hd : decode (ix_cc (ix_Ej E)) pc = .ok (.getfield i, 3)) (hf : ix_fi (ix_o (ix_Ej E)) i = some e) (hkd : e.2.2.1 < 2) (hg : ix_gf h r e.2.1 e.1 = some v)
    (k : ix_V E cells slots (pc + 3) L (v :: st) h) : ix_V E cells slots pc L (.ref r :: st) h := by
  obtain ⟨p, l, e', R, s, m, args, below, meth, c, Q, j, base, D, ca, κ, X⟩ := E
  intro hz H locs ls hP hS hl
  obtain ⟨kk, cs, kd, rc⟩ := e
  obtain ⟨ci, fs, h1, h2, h3⟩ := ix_gf_inv hg
  have hchk := ix_fi_chk hf
  unfold ix_fchk at hchk
  simp only at hkd h2 h3 hchk
  rw [if_neg (by omega), if_neg (by omega)] at hchk
  have h4 := List.all_eq_true.mp hchk ci h2
  simp only [Bool.and_eq_true, decide_eq_true_eq, Bool.or_eq_true, beq_iff_eq] at h4
  obtain ⟨⟨⟨h13, hkN⟩, hsm⟩, hlk⟩ := h4
  have hts := C.2.2.2.2.1
  have hG := C.2.2.2.2.2.1
  have hsame : ∀ x, s.fieldFound? (ix_T ci kk).1 (ix_T ci kk).2.1 (ix_T ci kk).2.2.1 = some x → s.fieldFound? (ix_R rc) (ix_T ci kk).2.1 (ix_T ci kk).2.2.1 = some x := by
    rcases hsm with e1 | e1
    · rw [← e1]; exact fun _ q => q
    · exact fun x q => u_same (hts _ (ix_in_W e1)) x q
  have hv : (fs.map (ix_tv base κ))[kk]? = some (ix_tv base κ v) := by rw [List.getElem?_map, h3]; rfl
  by_cases hk0 : kd = 0
  · rw [if_pos hk0] at hlk
    exact va_get (T := ix_T ci) (N := ix_N ci) C.1 C.2.1 hts (ix_cl_ws h13) C.2.2.2.1 hG.1 hP r (ix_ws_at h1) (ix_cl_at ci h13) kk hkN (hts _ (ix_in_W hlk)) hsame hv hd (k hz H locs ls hP hS hl)
  · rw [if_neg hk0] at hlk
    simp only [Bool.and_eq_true, decide_eq_true_eq] at hlk
    exact va_getN (T := ix_T ci) (N := ix_N ci) C.1 C.2.1 hts (ix_cl_ws h13) C.2.2.2.1 hG.1 hP r (ix_ws_at h1) (ix_cl_at ci h13) kk hkN (va_Nw.use rfl (hG.2.1 _ hlk.2)) hsame hv hd (k hz H locs ls hP hS hl)
theorem sv_putfield (C : ix_Cx E) {i r : Nat} {e : Nat × List Nat × Nat × Nat} {v : Value} {h' : ix_H} (hd : decode (ix_cc (ix_Ej E)) pc = .ok (.putfield i, 3)) (hf : ix_fi (ix_o (ix_Ej E)) i = some e) (hkd : e.2.2.1 < 2) (hg : ix_pf (ix_Ej E) h r e.2.1 e.1 v = some h')
    (k : ix_V E cells slots (pc + 3) L st h') : ix_V E cells slots pc L (v :: .ref r :: st) h := by
  obtain ⟨p, l, e', R, s, m, args, below, meth, c, Q, j, base, D, ca, κ, X⟩ := E
  intro hz H locs ls hP hS hl
  obtain ⟨kk, cs, kd, rc⟩ := e
  obtain ⟨ci, fs, h1, h2, h3, hvt, hfin, rfl⟩ := ix_pf_inv hg
  have hchk := ix_fi_chk hf
  unfold ix_fchk at hchk
  simp only at hkd h2 h3 hchk hvt hfin
  rw [if_neg (by omega), if_neg (by omega)] at hchk
  have h4 := List.all_eq_true.mp hchk ci h2
  simp only [Bool.and_eq_true, decide_eq_true_eq, Bool.or_eq_true, beq_iff_eq] at h4
  obtain ⟨⟨⟨h13, hkN⟩, hsm⟩, hlk⟩ := h4
  have hts := C.2.2.2.2.1
  have hG := C.2.2.2.2.2.1
  have hsame : ∀ x, s.fieldFound? (ix_T ci kk).1 (ix_T ci kk).2.1 (ix_T ci kk).2.2.1 = some x → s.fieldFound? (ix_R rc) (ix_T ci kk).2.1 (ix_T ci kk).2.2.1 = some x := by
    rcases hsm with e1 | e1
    · rw [← e1]; exact fun _ q => q
    · exact fun x q => u_same (hts _ (ix_in_W e1)) x q
  obtain ⟨hn, hfit⟩ := ix_vt_ok (base := base) (κ := κ) hvt
  have hh : s.heap.size + cells = base + (ix_up h r (.inr (ci, fs.set kk v))).length := by rw [ix_up, List.length_set]; exact hz
  have hset : ix_ws base ca κ (ix_up h r (.inr (ci, fs.set kk v))) = (ix_ws base ca κ h).set r (base + r, .inr (ci, (fs.map (ix_tv base κ)).set kk (ix_tv base κ v))) := by
    rw [ix_ws_up]
    show _ = _
    rw [← List.map_set]
    rfl
  have K : ∀ (H1 : Heap) (locs1 : List Loc), va_P D ix_cl ((ix_ws base ca κ h).set r (base + r, .inr (ci, (fs.map (ix_tv base κ)).set kk (ix_tv base κ v)))) H1 → va_D (fun q => base ≤ q) ((ix_ws base ca κ h).set r (base + r, .inr (ci, (fs.map (ix_tv base κ)).set kk (ix_tv base κ v)))) → va_S (fun q => base ≤ q) s.heap H1 locs1 → W p l e' R s m args below meth c H1 locs1 cells slots Q (F0 m (pc + 3) ls (st.map (ix_tv base κ))) := by
    intro H1 locs1 hP1 hD1 hS1
    rw [← hset] at hP1
    exact k hh H1 locs1 ls hP1 hS1 hl
  by_cases hk0 : kd = 0
  · rw [if_pos hk0] at hlk
    cases hF : (ix_T ci kk).2.2.2 with
    | false => exact va_put (T := ix_T ci) (N := ix_N ci) C.1 C.2.1 hts (ix_cl_ws h13) (ix_ty ci) (ix_cl_ty ci h13) (ix_cl_nm ci h13) C.2.2.2.1 hG.1 hP ix_wD hS r (ix_ws_at h1) (ix_cl_at ci h13) kk hkN (hts _ (ix_in_W hlk)) hsame hF (ix_cl_ty ci h13 kk hkN) hn hfit (by rw [List.length_map]; exact h3) hd K
    | true =>
      unfold ix_fin at hfin
      rw [hF] at hfin
      simp only [Bool.not_true, Bool.false_or, Bool.and_eq_true, beq_iff_eq] at hfin
      exact va_putF (T := ix_T ci) (N := ix_N ci) C.1 C.2.1 hts (ix_cl_ws h13) (ix_ty ci) (ix_cl_ty ci h13) (ix_cl_nm ci h13) C.2.2.2.1 hG.1 hP ix_wD hS r (ix_ws_at h1) (ix_cl_at ci h13) kk hkN (hts _ (ix_in_W hlk)) hsame hF (C.2.2.2.2.2.2.2.1 hfin.1) hfin.2 (ix_cl_ty ci h13 kk hkN) hn hfit (by rw [List.length_map]; exact h3) hd K
  · rw [if_neg hk0] at hlk
    simp only [Bool.and_eq_true, decide_eq_true_eq, Bool.not_eq_true'] at hlk
    exact va_putN (T := ix_T ci) (N := ix_N ci) C.1 C.2.1 hts (ix_cl_ws h13) (ix_ty ci) (ix_cl_ty ci h13) (ix_cl_nm ci h13) C.2.2.2.1 hG.1 hP ix_wD hS r (ix_ws_at h1) (ix_cl_at ci h13) kk hkN (va_Nw.use rfl (hG.2.1 _ hlk.2)) hsame hlk.1 (ix_cl_ty ci h13 kk hkN) hn hfit (by rw [List.length_map]; exact h3) hd K
theorem sv_iaload (C : ix_Cx E) {a : Nat} {i x : Int32} (hd : decode (ix_cc (ix_Ej E)) pc = .ok (.iaload, 1)) (hg : ix_ra h a 0 i = some x) (k : ix_V E cells slots (pc + 1) L (.int x :: st) h) : ix_V E cells slots pc L (.int i :: .ref a :: st) h := by
  obtain ⟨p, l, e', R, s, m, args, below, meth, c, Q, j, base, D, ca, κ, X⟩ := E
  intro hz H locs ls hP hS hl
  obtain ⟨n, f, h1, h2, rfl⟩ := ix_ra_inv hg
  exact va_iald C.1 C.2.1 C.2.2.2.2.2.1.1 hP a 0 (ix_ws_at h1) rfl h2 hd (k hz H locs ls hP hS hl)
theorem sv_saload (C : ix_Cx E) {i : Int32} (hd : decode (ix_cc (ix_Ej E)) pc = .ok (.iaload, 1)) (hi : 0 ≤ i) (hi2 : i.toNatClampNeg < (ix_EX E).1) (k : ix_V E cells slots (pc + 1) L (.int ((ix_EX E).2 i.toNatClampNeg) :: st) h) : ix_V E cells slots pc L (.int i :: .retAddr 0 :: st) h := by
  obtain ⟨p, l, e', R, s, m, args, below, meth, c, Q, j, base, D, ca, κ, X⟩ := E
  intro hz H locs ls hP hS hl
  obtain ⟨b, e1, e2, e3, e4⟩ := C.2.2.2.2.2.1.2.2.2.2.2.2.2.2.1
  have k2 := k hz H locs ls hP hS hl
  show W _ _ _ _ _ _ _ _ _ _ _ _ _ _ _ (F0 m pc ls (.int i :: κ 0 :: st.map (ix_tv base κ)))
  rw [e1]
  exact va_sld C.1 C.2.1 e2 e4 (by omega) hS (fun z => z.elim (fun z => absurd hi (Int32.not_le.mpr z)) (fun z => by exact absurd hi2 (Nat.not_lt.mpr z))) hd k2
theorem sv_baload (C : ix_Cx E) {a : Nat} {i x : Int32} (hd : decode (ix_cc (ix_Ej E)) pc = .ok (.baload, 1)) (hg : ix_ra h a 1 i = some x) (k : ix_V E cells slots (pc + 1) L (.int x :: st) h) : ix_V E cells slots pc L (.int i :: .ref a :: st) h := by
  obtain ⟨p, l, e', R, s, m, args, below, meth, c, Q, j, base, D, ca, κ, X⟩ := E
  intro hz H locs ls hP hS hl
  obtain ⟨n, f, h1, h2, rfl⟩ := ix_ra_inv hg
  exact va_zald C.1 C.2.1 C.2.2.2.2.2.1.1 hP a 1 (ix_ws_at h1) rfl h2 hd (k hz H locs ls hP hS hl)
theorem sv_tbaload (C : ix_Cx E) {q : Nat} {i x : Int32} (hd : decode (ix_cc (ix_Ej E)) pc = .ok (.baload, 1)) (hg : ix_by q i = some x) (k : ix_V E cells slots (pc + 1) L (.int x :: st) h) : ix_V E cells slots pc L (.int i :: .retAddr q :: st) h := by
  obtain ⟨p, l, e', R, s, m, args, below, meth, c, Q, j, base, D, ca, κ, X⟩ := E
  intro hz H locs ls hP hS hl
  obtain ⟨t, h6, rfl, h2, rfl⟩ := ix_by_inv hg
  obtain ⟨adK, adV, g7, g8⟩ := C.2.2.2.2.2.1.2.2.2.2.2.2.1
  show W _ _ _ _ _ _ _ _ _ _ _ _ _ _ _ (F0 m pc ls (.int i :: κ (3 + 2 * t) :: st.map (ix_tv base κ)))
  rw [(g7 t h6).2]
  exact va_tb C.1 C.2.1 (g8.1 t h6).2.2.2 hS (by rw [ix_tlens t h6]; exact h2) rfl hd (k hz H locs ls hP hS hl)
theorem ix_tys_at {ca : Nat → ClassId} {t : Nat} (h1 : 2 ≤ t) (h2 : t < 5) : (ix_tys ca)[t]? = some (ca t, .object (ix_aC t)) := by
  rcases (show t = 2 ∨ t = 3 ∨ t = 4 by omega) with rfl | rfl | rfl <;> rfl
theorem ix_tv_rf {base : Nat} {κ : Nat → Value} (o : Option Nat) : ix_tv base κ (va_rf o) = va_rf (o.map (fun k => base + k)) := by cases o <;> rfl
theorem sv_aaload (C : ix_Cx E) {a : Nat} {i : Int32} {o : Option Nat} (hd : decode (ix_cc (ix_Ej E)) pc = .ok (.aaload, 1)) (hg : ix_rq h a i = some o) (k : ix_V E cells slots (pc + 1) L (va_rf o :: st) h) : ix_V E cells slots pc L (.int i :: .ref a :: st) h := by
  obtain ⟨p, l, e', R, s, m, args, below, meth, c, Q, j, base, D, ca, κ, X⟩ := E
  intro hz H locs ls hP hS hl
  obtain ⟨t, n, f, h1, h2, h3, h4, rfl⟩ := ix_rq_inv hg
  have k2 := k hz H locs ls hP hS hl
  rw [List.map_cons, ix_tv_rf] at k2
  exact va_aldq C.1 C.2.1 C.2.2.2.2.2.1.1 hP a t (ix_ws_at h1) (ix_tys_at h2 h3) h4 hd k2
theorem sv_iastore (C : ix_Cx E) {a : Nat} {i x : Int32} {h' : ix_H} (hd : decode (ix_cc (ix_Ej E)) pc = .ok (.iastore, 1)) (hg : ix_wa h a 0 i x = some h') (k : ix_V E cells slots (pc + 1) L st h') : ix_V E cells slots pc L (.int x :: .int i :: .ref a :: st) h := by
  obtain ⟨p, l, e', R, s, m, args, below, meth, c, Q, j, base, D, ca, κ, X⟩ := E
  intro hz H locs ls hP hS hl
  obtain ⟨n, f, h1, h2, rfl⟩ := ix_wa_inv hg
  refine va_iast C.1 C.2.1 C.2.2.2.2.2.1.1 hP ix_wD hS a 0 (ix_ws_at h1) rfl h2 hd fun H1 locs1 hP1 hD1 hS1 => ?_
  exact k (by rw [ix_up, List.length_set]; exact hz) H1 locs1 ls (by rw [ix_ws_up]; exact hP1) hS1 hl
theorem sv_bastore (C : ix_Cx E) {a : Nat} {i x : Int32} {h' : ix_H} (hd : decode (ix_cc (ix_Ej E)) pc = .ok (.bastore, 1)) (hx : x = 0 ∨ x = 1) (hg : ix_wa h a 1 i x = some h') (k : ix_V E cells slots (pc + 1) L st h') : ix_V E cells slots pc L (.int x :: .int i :: .ref a :: st) h := by
  obtain ⟨p, l, e', R, s, m, args, below, meth, c, Q, j, base, D, ca, κ, X⟩ := E
  intro hz H locs ls hP hS hl
  obtain ⟨n, f, h1, h2, rfl⟩ := ix_wa_inv hg
  have hn : vp_nar .boolean x = x := by rcases hx with rfl | rfl <;> decide +kernel
  refine va_zast C.1 C.2.1 C.2.2.2.2.2.1.1 hP ix_wD hS a 1 (ix_ws_at h1) rfl h2 hd fun H1 locs1 hP1 hD1 hS1 => ?_
  rw [hn] at hP1
  exact k (by rw [ix_up, List.length_set]; exact hz) H1 locs1 ls (by rw [ix_ws_up]; exact hP1) hS1 hl
theorem sv_aastore (C : ix_Cx E) {a v : Nat} {i : Int32} {h' : ix_H} (hd : decode (ix_cc (ix_Ej E)) pc = .ok (.aastore, 1)) (hg : ix_wq h a i v = some h') (k : ix_V E cells slots (pc + 1) L st h') : ix_V E cells slots pc L (.ref v :: .int i :: .ref a :: st) h := by
  obtain ⟨p, l, e', R, s, m, args, below, meth, c, Q, j, base, D, ca, κ, X⟩ := E
  intro hz H locs ls hP hS hl
  obtain ⟨t, n, f, ci, fs, h1, h2, h3, h4, rfl⟩ := ix_wq_inv hg
  obtain ⟨h13, t2, t5, hc⟩ := ix_okst_c h3
  have hG := C.2.2.2.2.2.1
  have hany : va_Any (ix_aC t) s H (base + v) := by
    refine va_rAny hG.1 hP (ix_ws_at h2) (ix_cl_at ci h13) fun comp c0 e1 e2 => ?_
    rcases hc with e3 | e3
    · have : c0 = comp := by
        have e2' : s.vm.findClass (ix_R ci) = some c0 := e2
        rw [e3, e1] at e2'
        exact (Option.some.inj e2').symm
      rw [this]
      exact va_asg _ _
    · obtain ⟨c1, t1, f1, f2, f3⟩ := Cond.castable_spec (va_Nw.use (A := args) rfl (hG.2.1 _ e3))
      cases e1.symm.trans f2
      have e2' : s.vm.findClass (ix_R ci) = some c0 := e2
      cases e2'.symm.trans f1
      exact f3
  refine va_astqM C.1 C.2.1 hG.1 hP ix_wD hS a t (ix_ws_at h1) (ix_tys_at t2 t5) hany h4 hd fun H1 locs1 hP1 hD1 hS1 => ?_
  refine k (by rw [ix_up, List.length_set]; exact hz) H1 locs1 ls ?_ hS1 hl
  have hup : (fun q => (va_up f i.toNatClampNeg (some v) q).map (fun k => base + k)) = va_up (fun q => (f q).map (fun k => base + k)) i.toNatClampNeg (some (base + v)) := by
    funext q
    by_cases hq : q = i.toNatClampNeg <;> simp [va_up, hq]
  rw [ix_ws_up]
  show va_P D ix_cl ((ix_ws base ca κ h).set a (base + a, .inl (ca t, n, .inr (.inr (.inr (.inr (fun q => (va_up f i.toNatClampNeg (some v) q).map (fun k => base + k)))))))) H1
  rw [hup]
  exact hP1
theorem sv_alen (C : ix_Cx E) {a n : Nat} (hd : decode (ix_cc (ix_Ej E)) pc = .ok (.arraylength, 1)) (hg : ix_al h a = some n) (k : ix_V E cells slots (pc + 1) L (.int (Int32.ofNat n) :: st) h) : ix_V E cells slots pc L (.ref a :: st) h := by
  obtain ⟨p, l, e', R, s, m, args, below, meth, c, Q, j, base, D, ca, κ, X⟩ := E
  intro hz H locs ls hP hS hl
  rcases ix_al_inv hg with ⟨t, f, h1, h2⟩ | ⟨t, f, h1, h2, h3⟩
  · rcases (show t = 0 ∨ t = 1 by omega) with rfl | rfl
    · exact va_alen C.1 C.2.1 C.2.2.2.2.2.1.1 hP a 0 (ix_ws_at h1) rfl rfl hd (k hz H locs ls hP hS hl)
    · exact va_alen C.1 C.2.1 C.2.2.2.2.2.1.1 hP a 1 (ix_ws_at h1) rfl rfl hd (k hz H locs ls hP hS hl)
  · exact va_alen C.1 C.2.1 C.2.2.2.2.2.1.1 hP a t (ix_ws_at h1) (ix_tys_at h2 h3) rfl hd (k hz H locs ls hP hS hl)
theorem sv_slen (C : ix_Cx E) (hd : decode (ix_cc (ix_Ej E)) pc = .ok (.arraylength, 1)) (k : ix_V E cells slots (pc + 1) L (.int (Int32.ofNat (ix_EX E).1) :: st) h) : ix_V E cells slots pc L (.retAddr 0 :: st) h := by
  obtain ⟨p, l, e', R, s, m, args, below, meth, c, Q, j, base, D, ca, κ, X⟩ := E
  intro hz H locs ls hP hS hl
  obtain ⟨b, e1, e2, e3, e4⟩ := C.2.2.2.2.2.1.2.2.2.2.2.2.2.2.1
  show W _ _ _ _ _ _ _ _ _ _ _ _ _ _ _ (F0 m pc ls (κ 0 :: st.map (ix_tv base κ)))
  rw [e1]
  exact va_slen C.1 C.2.1 e2 e4 (by omega) hS hd (k hz H locs ls hP hS hl)
theorem sv_tlen (C : ix_Cx E) {t : Nat} (ht : t < 6) (hd : decode (ix_cc (ix_Ej E)) pc = .ok (.arraylength, 1)) (k : ix_V E cells slots (pc + 1) L (.int (Int32.ofNat (ix_tlen t)) :: st) h) : ix_V E cells slots pc L (.retAddr (3 + 2 * t) :: st) h := by
  obtain ⟨p, l, e', R, s, m, args, below, meth, c, Q, j, base, D, ca, κ, X⟩ := E
  intro hz H locs ls hP hS hl
  obtain ⟨adK, adV, g7, g8⟩ := C.2.2.2.2.2.1.2.2.2.2.2.2.1
  show W _ _ _ _ _ _ _ _ _ _ _ _ _ _ _ (F0 m pc ls (κ (3 + 2 * t) :: st.map (ix_tv base κ)))
  rw [(g7 t ht).2]
  exact va_tlen C.1 C.2.1 (g8.1 t ht).2.2.2 hS (by rw [ix_tlens t ht]) hd (k hz H locs ls hP hS hl)
theorem sv_tvalue (C : ix_Cx E) {i t : Nat} {e : Nat × List Nat × Nat × Nat} (ht : t < 6) (hd : decode (ix_cc (ix_Ej E)) pc = .ok (.getfield i, 3)) (hf : ix_fi (ix_o (ix_Ej E)) i = some e) (hkd : e.2.2.1 = 2) (k : ix_V E cells slots (pc + 3) L (.retAddr (3 + 2 * t) :: st) h) : ix_V E cells slots pc L (.retAddr (2 + 2 * t) :: st) h := by
  obtain ⟨p, l, e', R, s, m, args, below, meth, c, Q, j, base, D, ca, κ, X⟩ := E
  intro hz H locs ls hP hS hl
  obtain ⟨adK, adV, g7, g8⟩ := C.2.2.2.2.2.1.2.2.2.2.2.2.1
  have hchk := ix_fi_chk hf
  obtain ⟨kk, cs, kd, rc⟩ := e
  unfold ix_fchk at hchk
  simp only at hkd hchk
  rw [if_pos hkd, Bool.and_eq_true] at hchk
  have k2 := k hz H locs ls hP hS hl
  rw [List.map_cons] at k2
  show W _ _ _ _ _ _ _ _ _ _ _ _ _ _ _ (F0 m pc ls (κ (2 + 2 * t) :: st.map (ix_tv base κ)))
  rw [(g7 t ht).1]
  rw [show ix_tv base κ (.retAddr (3 + 2 * t)) = .ref (adV t) from (g7 t ht).2] at k2
  exact vk_getf C.1 C.2.1 (g8.1 t ht).2.2.1 hS C.2.2.2.1 (C.2.2.2.2.1 _ (ix_in_W hchk.2)) (fun _ q => q) hd k2
theorem sv_tcoder (C : ix_Cx E) {i t : Nat} {e : Nat × List Nat × Nat × Nat} (ht : t < 6) (hd : decode (ix_cc (ix_Ej E)) pc = .ok (.getfield i, 3)) (hf : ix_fi (ix_o (ix_Ej E)) i = some e) (hkd : e.2.2.1 = 3) (k : ix_V E cells slots (pc + 3) L (.int 0 :: st) h) : ix_V E cells slots pc L (.retAddr (2 + 2 * t) :: st) h := by
  obtain ⟨p, l, e', R, s, m, args, below, meth, c, Q, j, base, D, ca, κ, X⟩ := E
  intro hz H locs ls hP hS hl
  obtain ⟨adK, adV, g7, g8⟩ := C.2.2.2.2.2.1.2.2.2.2.2.2.1
  have hchk := ix_fi_chk hf
  obtain ⟨kk, cs, kd, rc⟩ := e
  unfold ix_fchk at hchk
  simp only at hkd hchk
  rw [if_neg (by omega), if_pos hkd, Bool.and_eq_true] at hchk
  show W _ _ _ _ _ _ _ _ _ _ _ _ _ _ _ (F0 m pc ls (κ (2 + 2 * t) :: st.map (ix_tv base κ)))
  rw [(g7 t ht).1]
  exact vk_getf C.1 C.2.1 (g8.1 t ht).2.1 hS C.2.2.2.1 (C.2.2.2.2.1 _ (ix_in_W hchk.2)) (fun _ q => q) hd (k hz H locs ls hP hS hl)
theorem sv_getstatic (C : ix_Cx E) {i : Nat} {v : Value} (hd : decode (ix_cc (ix_Ej E)) pc = .ok (.getstatic i, 3)) (hf : ix_gs (ix_o (ix_Ej E)) i = some v) (k : ix_V E cells slots (pc + 3) L (v :: st) h) : ix_V E cells slots pc L st h := by
  obtain ⟨p, l, e', R, s, m, args, below, meth, c, Q, j, base, D, ca, κ, X⟩ := E
  intro hz H locs ls hP hS hl
  have hchk := ix_gs_chk hf
  unfold ix_gchk at hchk
  simp only [Bool.or_eq_true, Bool.and_eq_true, beq_iff_eq] at hchk
  rcases hchk with ⟨rfl, e1⟩ | ⟨rfl, e1⟩
  · exact va_gets C.1 C.2.1 C.2.2.2.2.2.1.2.2.2.2.1 hS C.2.2.2.1 (C.2.2.2.2.1 _ (ix_in_W e1)) (fun _ q => q) hd (k hz H locs ls hP hS hl)
  · exact va_gets C.1 C.2.1 C.2.2.2.2.2.1.2.2.2.2.2.1 hS C.2.2.2.1 (C.2.2.2.2.1 _ (ix_in_W e1)) (fun _ q => q) hd (k hz H locs ls hP hS hl)
theorem sv_ldc (C : ix_Cx E) {i : Nat} {v : Value} (hd : decode (ix_cc (ix_Ej E)) pc = .ok (.ldc i, 2)) (hf : ix_lc (ix_o (ix_Ej E)) i = some v) (hv : ix_kd v ≠ 1) (k : ix_V E cells slots (pc + 2) L (v :: st) h) : ix_V E cells slots pc L st h := by
  obtain ⟨p, l, e', R, s, m, args, below, meth, c, Q, j, base, D, ca, κ, X⟩ := E
  intro hz H locs ls hP hS hl
  have hchk := ix_lc_chk hf
  cases v with
  | int x => exact lv_ldc C.1 C.2.1 C.2.2.2.1 (C.2.2.2.2.1 _ (ix_in_W hchk)) hd (k hz H locs ls hP hS hl)
  | long x => exact absurd rfl hv
  | retAddr q =>
    simp only [ix_lchk, List.any_eq_true, Bool.and_eq_true, beq_iff_eq] at hchk
    obtain ⟨w, hw, ⟨e1, e2⟩, e3⟩ := hchk
    obtain ⟨a, e4, e5⟩ := C.2.2.2.2.2.1.2.2.2.2.2.2.2.1 w hw
    have k2 := k hz H locs ls hP hS hl
    rw [List.map_cons, show ix_tv base κ (.retAddr q) = .ref a by rw [← e3]; exact e4] at k2
    rw [e1, e2] at e5
    exact va_ldcS C.1 C.2.1 C.2.2.2.1 e5 hd k2
  | _ => simp [ix_lchk] at hchk
theorem sv_ldc2 (C : ix_Cx E) {i : Nat} {v : Value} (hd : decode (ix_cc (ix_Ej E)) pc = .ok (.ldc2_w i, 3)) (hf : ix_lc (ix_o (ix_Ej E)) i = some v) (hv : ix_kd v = 1) (k : ix_V E cells slots (pc + 3) L (v :: st) h) : ix_V E cells slots pc L st h := by
  obtain ⟨p, l, e', R, s, m, args, below, meth, c, Q, j, base, D, ca, κ, X⟩ := E
  intro hz H locs ls hP hS hl
  have hchk := ix_lc_chk hf
  cases v with
  | long x => exact lv_ldc2 C.1 C.2.1 C.2.2.2.1 (C.2.2.2.2.1 _ (ix_in_W hchk)) hd (k hz H locs ls hP hS hl)
  | _ => simp [ix_kd] at hv
theorem ix_yes_inv {t c : Nat} (h : ix_yes t c = true) : c < 13 ∧ t < 13 ∧ (c = t ∨ Cond.castable (ix_R c) (ix_R t) ∈ ix_nws) := by
  unfold ix_yes at h
  simp only [Bool.and_eq_true, decide_eq_true_eq, Bool.or_eq_true, beq_iff_eq] at h
  exact ⟨h.1.1, h.1.2, h.2⟩
theorem sv_instYes (C : ix_Cx E) {i r ci : Nat} {e : Nat × List Nat × List Nat} (hd : decode (ix_cc (ix_Ej E)) pc = .ok (.instanceof i, 3)) (hf : ix_io (ix_o (ix_Ej E)) i = some e) (hc : ix_cls h r = some ci) (hm : ci ∈ e.2.1) (k : ix_V E cells slots (pc + 3) L (.int 1 :: st) h) : ix_V E cells slots pc L (.ref r :: st) h := by
  obtain ⟨p, l, e', R, s, m, args, below, meth, c, Q, j, base, D, ca, κ, X⟩ := E
  intro hz H locs ls hP hS hl
  obtain ⟨t, ys, ns⟩ := e
  have hchk := ix_io_chk hf
  unfold ix_ichk at hchk
  simp only [Bool.and_eq_true] at hchk
  obtain ⟨⟨h1, h2⟩, -⟩ := hchk
  obtain ⟨h13, t13, hy⟩ := ix_yes_inv (List.all_eq_true.mp h2 ci hm)
  obtain ⟨fs, h3⟩ := ix_cls_inv hc
  have hG := C.2.2.2.2.2.1
  have hr := va_recv hG.1 hP (ix_cl_at ci h13) (ix_ws_at (base := base) (ca := ca) (κ := κ) h3)
  rcases hy with rfl | hy
  · exact va_instS C.1 C.2.1 C.2.2.2.1 (C.2.2.2.2.1 _ (ix_in_W h1)) (hG.1.1 ci _ (ix_cl_at ci h13)).2 hr hd (k hz H locs ls hP hS hl)
  · exact va_instY C.1 C.2.1 C.2.2.2.1 (C.2.2.2.2.1 _ (ix_in_W h1)) (hG.2.1 _ hy) hr hd (k hz H locs ls hP hS hl)
theorem sv_instNo (C : ix_Cx E) {i r ci : Nat} {e : Nat × List Nat × List Nat} (hd : decode (ix_cc (ix_Ej E)) pc = .ok (.instanceof i, 3)) (hf : ix_io (ix_o (ix_Ej E)) i = some e) (hc : ix_cls h r = some ci) (hm : ci ∈ e.2.2) (k : ix_V E cells slots (pc + 3) L (.int 0 :: st) h) : ix_V E cells slots pc L (.ref r :: st) h := by
  obtain ⟨p, l, e', R, s, m, args, below, meth, c, Q, j, base, D, ca, κ, X⟩ := E
  intro hz H locs ls hP hS hl
  obtain ⟨t, ys, ns⟩ := e
  have hchk := ix_io_chk hf
  unfold ix_ichk at hchk
  simp only [Bool.and_eq_true] at hchk
  obtain ⟨⟨h1, -⟩, h2⟩ := hchk
  have h4 := List.all_eq_true.mp h2 ci hm
  simp only [Bool.and_eq_true, decide_eq_true_eq] at h4
  obtain ⟨fs, h3⟩ := ix_cls_inv hc
  have hG := C.2.2.2.2.2.1
  have hr := va_recv hG.1 hP (ix_cl_at ci h4.1) (ix_ws_at (base := base) (ca := ca) (κ := κ) h3)
  exact va_instNo C.1 C.2.1 C.2.2.2.1 (C.2.2.2.2.1 _ (ix_in_W h1)) (hG.2.2.1 _ h4.2) hr hd (k hz H locs ls hP hS hl)
theorem sv_cast (C : ix_Cx E) {i r ci : Nat} {e : Nat × List Nat} (hd : decode (ix_cc (ix_Ej E)) pc = .ok (.checkcast i, 3)) (hf : ix_ck (ix_o (ix_Ej E)) i = some e) (hc : ix_cls h r = some ci) (hm : ci ∈ e.2) (k : ix_V E cells slots (pc + 3) L (.ref r :: st) h) : ix_V E cells slots pc L (.ref r :: st) h := by
  obtain ⟨p, l, e', R, s, m, args, below, meth, c, Q, j, base, D, ca, κ, X⟩ := E
  intro hz H locs ls hP hS hl
  obtain ⟨t, ys⟩ := e
  have hchk := ix_ck_chk hf
  unfold ix_kchk at hchk
  simp only [Bool.and_eq_true] at hchk
  obtain ⟨h1, h2⟩ := hchk
  obtain ⟨h13, t13, hy⟩ := ix_yes_inv (List.all_eq_true.mp h2 ci hm)
  obtain ⟨fs, h3⟩ := ix_cls_inv hc
  have hG := C.2.2.2.2.2.1
  have hr := va_recv hG.1 hP (ix_cl_at ci h13) (ix_ws_at (base := base) (ca := ca) (κ := κ) h3)
  rcases hy with rfl | hy
  · exact va_castS C.1 C.2.1 C.2.2.2.1 (C.2.2.2.2.1 _ (ix_in_W h1)) (hG.1.1 ci _ (ix_cl_at ci h13)).2 hr hd (k hz H locs ls hP hS hl)
  · exact va_castY C.1 C.2.1 C.2.2.2.1 (C.2.2.2.2.1 _ (ix_in_W h1)) (hG.2.1 _ hy) hr hd (k hz H locs ls hP hS hl)
theorem sv_new (C : ix_Cx E) {i ci : Nat} (hd : decode (ix_cc (ix_Ej E)) pc = .ok (.new i, 3)) (hf : ix_nw (ix_o (ix_Ej E)) i = some ci) (hc : cells + 1 ≤ (ix_ER E).cells) (hs : slots + ix_N ci ≤ (ix_ER E).slots)
    (k : ix_V E (cells + 1) (slots + ix_N ci) (pc + 3) L (.ref h.length :: st) (h ++ [.inr (ci, (List.range (ix_N ci)).map (fun q => defaultValue (ix_ty ci q)))])) : ix_V E cells slots pc L st h := by
  obtain ⟨p, l, e', R, s, m, args, below, meth, c, Q, j, base, D, ca, κ, X⟩ := E
  intro hz H locs ls hP hS hl
  have hchk := ix_nw_chk hf
  unfold ix_nchk at hchk
  simp only [Bool.and_eq_true, decide_eq_true_eq] at hchk
  obtain ⟨⟨⟨h13, h1⟩, h2⟩, h3⟩ := hchk
  have hts := C.2.2.2.2.1
  refine va_new (T := ix_T ci) (fs := ((List.range (ix_N ci)).map (fun q => defaultValue (ix_ty ci q))).map (ix_tv base κ)) C.1 C.2.1 hts (ix_cl_ws h13) (ix_ty ci) (ix_cl_ty ci h13) C.2.2.2.1 (hts _ (ix_in_W h1)) (hts _ (ix_in_W h2)) (hts _ (ix_in_W h3)) C.2.2.2.2.2.1.1 hP ix_wD hS (fun q hq => Nat.le_trans C.2.2.2.2.2.2.1 hq) (ix_cl_at ci h13) (fun q hq => ?_) hc hs hd fun q H1 hP1 hD1 hS1 => ix_Wsz fun hsz => ?_
  · simp only [vp_V, List.getD, List.getElem?_map, List.getElem?_range hq, Option.map_some, Option.getD_some, ix_tv_def]
  · have hz2 : s.heap.size + cells = base + h.length := hz
    have hq := ix_q hP1 hD1 (by omega)
    subst hq
    exact k (by rw [List.length_append]; show _ = base + (h.length + 1); omega) H1 locs ls (by rw [ix_ws_app]; exact hP1) hS1 hl
theorem sv_newint (C : ix_Cx E) {n : Int32} (hd : decode (ix_cc (ix_Ej E)) pc = .ok (.newarray .int, 2)) (h0 : 0 ≤ n) (h1 : n.toNatClampNeg < 100000000) (hc : cells + 1 ≤ (ix_ER E).cells) (hs : slots + n.toNatClampNeg ≤ (ix_ER E).slots)
    (k : ix_V E (cells + 1) (slots + n.toNatClampNeg) (pc + 2) L (.ref h.length :: st) (h ++ [.inl (0, n.toNatClampNeg, .inl (fun _ => 0))])) : ix_V E cells slots pc L (.int n :: st) h := by
  obtain ⟨p, l, e', R, s, m, args, below, meth, c, Q, j, base, D, ca, κ, X⟩ := E
  intro hz H locs ls hP hS hl
  have hG := C.2.2.2.2.2.1
  refine va_newa (atype := .int) (a0 := (n.toNatClampNeg, .inl (fun _ => 0))) C.1 C.2.1 (C.2.2.2.2.1 _ (ix_in_W ix_ac_int)) rfl hG.1 hP ix_wD hS (fun q hq => Nat.le_trans C.2.2.2.2.2.2.1 hq) (fun _ => rfl) (Int32.not_lt.mpr h0) rfl (by show _ * 4 ≤ _; omega) hc hs hd fun q cA H1 hK1 hP1 hD1 hS1 => ix_Wsz fun hsz => ?_
  have hz2 : s.heap.size + cells = base + h.length := hz
  have hq := ix_q hP1 hD1 (by omega)
  subst hq
  have e1 := va_nm_int (hK1.2 5 _ rfl).2
  have e2 := va_nm_int (hG.1.2 0 _ rfl).2
  have e3 : cA = ca 0 := Option.some.inj (e1.symm.trans e2)
  subst e3
  exact k (by rw [List.length_append]; show _ = base + (h.length + 1); omega) H1 locs ls (by rw [ix_ws_app]; exact hP1) hS1 hl
theorem sv_newbool (C : ix_Cx E) {n : Int32} (hd : decode (ix_cc (ix_Ej E)) pc = .ok (.newarray .boolean, 2)) (h0 : 0 ≤ n) (h1 : n.toNatClampNeg < 100000000) (hc : cells + 1 ≤ (ix_ER E).cells) (hs : slots + n.toNatClampNeg ≤ (ix_ER E).slots)
    (k : ix_V E (cells + 1) (slots + n.toNatClampNeg) (pc + 2) L (.ref h.length :: st) (h ++ [.inl (1, n.toNatClampNeg, .inl (fun _ => 0))])) : ix_V E cells slots pc L (.int n :: st) h := by
  obtain ⟨p, l, e', R, s, m, args, below, meth, c, Q, j, base, D, ca, κ, X⟩ := E
  intro hz H locs ls hP hS hl
  have hG := C.2.2.2.2.2.1
  refine va_newa (atype := .boolean) (a0 := (n.toNatClampNeg, .inl (fun _ => 0))) C.1 C.2.1 (C.2.2.2.2.1 _ (ix_in_W ix_ac_bool)) rfl hG.1 hP ix_wD hS (fun q hq => Nat.le_trans C.2.2.2.2.2.2.1 hq) (fun _ => rfl) (Int32.not_lt.mpr h0) rfl (by show _ * 1 ≤ _; omega) hc hs hd fun q cA H1 hK1 hP1 hD1 hS1 => ix_Wsz fun hsz => ?_
  have hz2 : s.heap.size + cells = base + h.length := hz
  have hq := ix_q hP1 hD1 (by omega)
  subst hq
  have e1 := va_nm_boolean (hK1.2 5 _ rfl).2
  have e2 := va_nm_boolean (hG.1.2 1 _ rfl).2
  have e3 : cA = ca 1 := Option.some.inj (e1.symm.trans e2)
  subst e3
  exact k (by rw [List.length_append]; show _ = base + (h.length + 1); omega) H1 locs ls (by rw [ix_ws_app]; exact hP1) hS1 hl
theorem sv_anew (C : ix_Cx E) {n : Int32} {i t : Nat} (hd : decode (ix_cc (ix_Ej E)) pc = .ok (.anewarray i, 3)) (hf : ix_an (ix_o (ix_Ej E)) i = some t) (h0 : 0 ≤ n) (h1 : n.toNatClampNeg < 100000000) (hc : cells + 1 ≤ (ix_ER E).cells) (hs : slots + n.toNatClampNeg ≤ (ix_ER E).slots)
    (k : ix_V E (cells + 1) (slots + n.toNatClampNeg) (pc + 3) L (.ref h.length :: st) (h ++ [.inl (t, n.toNatClampNeg, .inr (.inr (.inr (.inr (fun _ => none)))))])) : ix_V E cells slots pc L (.int n :: st) h := by
  obtain ⟨p, l, e', R, s, m, args, below, meth, c, Q, j, base, D, ca, κ, X⟩ := E
  intro hz H locs ls hP hS hl
  have hG := C.2.2.2.2.2.1
  have hchk := ix_an_chk hf
  unfold ix_achk at hchk
  simp only [Bool.and_eq_true, decide_eq_true_eq] at hchk
  obtain ⟨⟨t2, t5⟩, h2⟩ := hchk
  refine va_newq (C := ix_aC t) C.1 C.2.1 C.2.2.2.1 (C.2.2.2.2.1 _ (ix_in_W h2)) (hG.2.2.2.1 t) hG.1 hP ix_wD hS (fun q hq => Nat.le_trans C.2.2.2.2.2.2.1 hq) (Int32.not_lt.mpr h0) rfl (by omega) hc hs hd fun q cA H1 hK1 hP1 hD1 hS1 => ix_Wsz fun hsz => ?_
  have hz2 : s.heap.size + cells = base + h.length := hz
  have hq := ix_q hP1 hD1 (by omega)
  subst hq
  have e1 := va_nmO (hK1.2 5 _ rfl).2 rfl
  have e2 := va_nmO (hG.1.2 t _ (ix_tys_at t2 t5)).2 rfl
  have e3 : cA = ca t := Option.some.inj (e1.symm.trans e2)
  subst e3
  exact k (by rw [List.length_append]; show _ = base + (h.length + 1); omega) H1 locs ls (by rw [ix_ws_app]; exact hP1) hS1 hl
end VHEAP
