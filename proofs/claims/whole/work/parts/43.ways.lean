/-! ===== ways: place, minute, got ===== -/
--need 42.quick
--def cx := ix_pv_s, ix_pi_s, zpn, ix_po_s, ix_po_n, ix_ph_s, ix_bk_v, ix_bk_n, zcv, zcv_ne, ↓reduceIte, Nat.reduceEqDiff, zn_m1, zd_lt_p, zd_lt_n, zd_le_p, zd_le_n, zd_eq_p, zd_eq_n, zd_0_p, zd_0_n, zd_0lt_p, zd_0lt_n, zd_le0_p, zd_le0_n, zn_lt0, zn_le0, zn_add, zn_mul, zn_sub, zm_lt, zm_le, zm_eq, zb_1, zb_0, not_true_eq_false, not_false_eq_true, t0_c, t0_g0, t0_g1, t0_g2, t0_g3, t0_g4, t0_g5, t0_g6, t0_g7, t0_g8, t0_g9, t0_g10, t0_s11, t0_g12, t0_s12, t0_g13, t0_g14, t0_g15, t0_g16, t0_c, rw_c
--def mx := ix_pv_s, ix_pi_s, zpn, ix_po_s, ix_po_n, ix_ph_s, ix_bk_v, ix_bk_n, zcv, zcv_ne, ↓reduceIte, Nat.reduceEqDiff, zn_m1, zd_lt_p, zd_lt_n, zd_le_p, zd_le_n, zd_eq_p, zd_eq_n, zd_0_p, zd_0_n, zd_0lt_p, zd_0lt_n, zd_le0_p, zd_le0_n, zn_lt0, zn_le0, zn_add, zn_mul, zn_sub, zm_lt, zm_le, zm_eq, zb_1, zb_0, not_true_eq_false, not_false_eq_true, mo_c, mo_g0, mo_s0, mo_g1, mo_g2, mo_g3, mo_s3, mo_g4, mo_s4, mo_g5, mo_s5, mo_g6, mo_s6, mo_g7, mo_s7, mo_g8, mo_s8, mo_g9, mo_g10, mo_g11, mo_g12, mo_g13, mo_s13, mo_g14, mo_s14, mo_g15, mo_s15, mo_g16, mo_g17, mo_s17, mo_g18, mo_s18, mo_g19, mo_g20, mo_s20, mo_g21, mo_s21, mo_g22, mo_s22, mo_g23, mo_s23, ra_25, wa_25, al_25, ra_68, wa_68, al_68, ra_69, wa_69, al_69, ra_70, wa_70, al_70, ra_71, wa_71, al_71, ra_72, wa_72, al_72, ra_73, wa_73, al_73, ra_74, wa_74, al_74, ra_75, wa_75, al_75
abbrev wyT : Type := Nat × Nat × Int32
def wgo (S : Nat → Int32) (cs : List Nat) (pace to : Nat) (s : wyT) : wyT := (to, s.2.1 + wkM pace s.1 to, s.2.2 + (sS (rn S cs 6) (s.2.1 + wkM pace s.1 to) - sS (rn S cs 6) s.2.1))
def wwt (S : Nat → Int32) (cs : List Nat) (t k : Nat) (s : wyT) : wyT := (s.1, s.2.1 + k, waitS (uS S cs t) s.2.1 k s.2.2)
def trw (μ : fm_M) (r pace : Nat) (s : wyT) : Prop := tri μ r pace s.1 s.2.1 s.2.2
def mtw (μ : fm_M) (s : wyT) : Prop := mtr μ s.1 s.2.1 s.2.2
/-- a number of the row as a natural number -/
def nS (S : Nat → Int32) (k : Nat) : Nat := (S k).toNatClampNeg
theorem nS_of {S : Nat → Int32} {k m : Nat} (h : S k = nI m) (hm : m < 10000) : nS S k = m := by
  unfold nS
  rw [h]
  exact nI_clamp (show m < 2 ^ 31 by omega)
theorem okN_nS {S : Nat → Int32} {k b : Nat} (h : okN S k b) (hb : b < 10000) : S k = nI (nS S k) ∧ nS S k ≤ b := by
  obtain ⟨m, h1, h2⟩ := h
  rw [nS_of h2 (by omega)]
  exact ⟨h2, h1⟩
section WY
variable {X : ix_X} {d : Nat} {τ : List fm_D} {μ : fm_M} {S : Nat → Int32} {N : Nat → Nat} {C : Nat → List Nat} {Q : Nat → Nat} {t m : Nat}
theorem QI_kd (h : QI μ τ S N C Q) (ht : t < N 0) : S (11 + t) = nI (nS S (11 + t)) ∧ nS S (11 + t) ≤ 6 := okN_nS (QI_v h ht).1 (by decide)
theorem QI_vv (h : QI μ τ S N C Q) (ht : t < N 0) : S (17 + t) = nI (nS S (17 + t)) ∧ nS S (17 + t) ≤ 9 := okN_nS (QI_v h ht).2.1 (by decide)
theorem QI_pl (h : QI μ τ S N C Q) (ht : t < N 0) : S (29 + t) = nI (nS S (29 + t)) ∧ nS S (29 + t) ≤ 99 := okN_nS (QI_v h ht).2.2.2 (by decide)
theorem QI_pc (h : QI μ τ S N C Q) {i : Nat} (hi : i < N 1) : S (59 + i) = nI (nS S (59 + i)) ∧ 1 ≤ nS S (59 + i) ∧ nS S (59 + i) ≤ 20 := by
  obtain ⟨m, h1, h2, h3⟩ := QI_pace h hi
  rw [nS_of h3 (by omega)]
  exact ⟨h3, h1, h2⟩
theorem QI_ct (h : QI μ τ S N C Q) {i : Nat} (hi : i < N 1) : S (64 + i) = nI (nS S (64 + i)) ∧ nS S (64 + i) ≤ 99 := okN_nS (h.1.2.2.2.2.1 i hi).2 (by decide)
theorem QI_kt {kind : Nat} {q : Nat} (h : trT μ τ S q t kind) : kind = nS S (11 + t) := (nS_of h.1 (by have := h.2.1; omega)).symm
theorem tf_qi {r q : Nat} {μ' : fm_M} (h : tf r μ μ') (hq : tpO q) (hne : q ≠ r) : μ' q = μ q := h.1 q hne (by have := tp_cases hq; omega)
theorem trw_tf {r q pace : Nat} {s : wyT} {μ' : fm_M} (hq : tpO q) (hne : q ≠ r) (h : tf r μ μ') (ht : trw μ q pace s) : trw μ' q pace s := tri_row ht (tf_qi h hq hne)
theorem tf_25 {r : Nat} {μ' : fm_M} (hr : tpO r) (h : tf r μ μ') : μ' 25 = μ 25 := h.1 25 (by have := tp_cases hr; omega) (by omega)
theorem cf_25 {μ' : fm_M} (h : cf μ μ') : μ' 25 = μ 25 := h.1 25 (by omega)
theorem mg_74 {μ' : fm_M} (h : mg μ μ') : μ' 74 = μ 74 := h.1 74 (by omega) (by omega) (by omega) (by omega) (by omega)
theorem cl_startQ {r i : Nat} (hr : tpO r) (h : QI μ τ S N C Q) (hi : i < N 1) : ∃ μ' : fm_M, ix_call X (d + 2) 88 [.ref 0, .ref r, .int (nI i)] (fm_W μ τ) = some (none, fm_W μ' τ) ∧ QI μ' τ S N C Q ∧ trw μ' r (nS S (59 + i)) (0, N 8, nI 0) ∧ tf r μ μ' := by
  obtain ⟨p0, p1, p2⟩ := QI_pc h hi
  obtain ⟨μ', a, b, c, e⟩ := cl_setOut (X := X) (d := d) hr h hi p0 p1 p2
  exact ⟨μ', a, c, b, e⟩
theorem cl_walkQ {r pace to : Nat} {s : wyT} (hr : tpO r) (h : QI μ τ S N C Q) (ht : trw μ r pace s) (h1 : 1 ≤ pace) (h2 : pace ≤ 20) (hp : s.1 ≤ 99) (hto : to ≤ 99) (hm : s.2.1 ≤ 1500) : ∃ μ' : fm_M, ix_call X (d + 2) 59 [.ref r, .int (nI to)] (fm_W μ τ) = some (none, fm_W μ' τ) ∧ QI μ' τ S N C Q ∧ trw μ' r pace (wgo S (csN N C) pace to s) ∧ tf r μ μ' := by
  have hw := wkM_le (pl := s.1) (to := to) h1 hp hto
  obtain ⟨μ', a, b, c, e⟩ := tp_walk (X := X) (d := d) (τ := τ) hr h.2.2.1 ht h1 (by omega) hp hto (by omega)
  exact ⟨μ', a, QI_tf hr h e b, c, e⟩
theorem cl_visitQ {r pace k : Nat} {s : wyT} (hr : tpO r) (h : QI μ τ S N C Q) (htt : t < N 0) (ht : trw μ r pace s) (h1 : 1 ≤ pace) (h2 : pace ≤ 20) (hp : s.1 ≤ 99) (hk : k ≤ 20) (hm : s.2.1 ≤ 1480) : ∃ μ' : fm_M, ix_call X (d + 5) 60 [.ref r, .ref (Q t), .int (nI k)] (fm_W μ τ) = some (none, fm_W μ' τ) ∧ QI μ' τ S N C Q ∧ trw μ' r pace (wwt S (csN N C) t k (wgo S (csN N C) pace (nS S (29 + t)) s)) ∧ tf r μ μ' := by
  obtain ⟨q1, q2, ⟨kind, hT⟩, q4⟩ := QI_tree h htt
  obtain ⟨v1, v2⟩ := QI_vv h htt
  obtain ⟨k1, k2⟩ := QI_kd h htt
  obtain ⟨p1, p2⟩ := QI_pl h htt
  have hkd := QI_kt hT
  subst hkd
  have hw := wkM_le (pl := s.1) (to := nS S (29 + t)) h1 hp p2
  obtain ⟨μ', a, b, c, e⟩ := tp_visit (X := X) (d := d) (k := k) hr v1 v2 htt (q4.trans p1) p2 hT h.2.2.1 ht h1 (by omega) hp (by omega)
  refine ⟨μ', a, QI_tf hr h e b, ?_, e⟩
  exact c
theorem cl_wetQ (h : QI μ τ S N C Q) (ht : t < N 0) (hm : m < 1600) : ∃ μ' : fm_M, ix_cv X (d + 4) (ix_cls (fm_W μ τ) (Q t)) [(0, 1, 289), (1, 4, 289), (2, 7, 289), (6, 37, 289), (7, 40, 289), (8, 43, 289), (9, 50, 4)] [.ref (Q t), .int (nI m)] (fm_W μ τ) = some (some (.int (uS S (csN N C) t m)), fm_W μ' τ) ∧ QI μ' τ S N C Q ∧ cf μ μ' := cl_under h ht hm
theorem cl_endQ {r pace : Nat} {s : wyT} (hr : tpO r) (h : QI μ τ S N C Q) (ht : trw μ r pace s) : ∃ μ' : fm_M, ix_call X d 61 [.ref r, .int (uS S (csN N C) t s.2.1)] (fm_W μ τ) = some (none, fm_W μ' τ) ∧ QI μ' τ S N C Q ∧ trw μ' r pace (wwt S (csN N C) t 1 s) ∧ tf r μ μ' := by
  obtain ⟨μ', a, b, c⟩ := tp_endure (X := X) (d := d) (τ := τ) (x := uS S (csN N C) t s.2.1) hr ht
  have hf := tf_row hr c
  exact ⟨μ', a, QI_tf hr h hf (ck_row h.2.2.1 (q := r) (by have := tp_cases hr; omega) c), b, hf⟩
theorem cl_takeQ {r r2 pace : Nat} {s : wyT} (hr : tpO r) (hr2 : tpO r2) (hne : r2 ≠ r) (h : QI μ τ S N C Q) (ht : trw μ r2 pace s) : ∃ μ' : fm_M, ix_call X d 62 [.ref r, .ref r2] (fm_W μ τ) = some (none, fm_W μ' τ) ∧ QI μ' τ S N C Q ∧ trw μ' r pace s ∧ tf r μ μ' := by
  obtain ⟨μ', a, b, c⟩ := tp_take (X := X) (d := d) (τ := τ) hr hr2 hne ht
  have hf := tf_row hr c
  exact ⟨μ', a, QI_tf hr h hf (ck_row h.2.2.1 (q := r) (by have := tp_cases hr; omega) c), b, hf⟩
theorem cl_outQ {r pace i what : Nat} {s : wyT} (hr : tpO r) (h : QI μ τ S N C Q) (ht : trw μ r pace s) (hn : N 8 ≤ s.2.1) (hi : i < N 1) (hwh : what ≤ 2) : ix_call X (d + 2) 89 [.ref 0, .ref r, .int (nI i), .int (nI what)] (fm_W μ τ) = some (some (.int (tlS S (S (64 + i)) what (s.2.1 - N 8) s.2.2)), fm_W μ τ) := cl_outcome hr ht (QI_nb h) (QI_now h) hn (QI_wa h) hi (QI_he h) hwh
theorem mo_startQ {l : Nat} (h : QI μ τ S N C Q) : ∃ μ' : fm_M, ix_call X d 174 [.ref 67, .int (nI l)] (fm_W μ τ) = some (none, fm_W μ' τ) ∧ QI μ' τ S N C Q ∧ mtw μ' (0, N 8 + l, nI 0) ∧ mg μ μ' := by
  obtain ⟨μ1, a1, c1, t1, f1⟩ := mo_starts (X := X) (d := d) (τ := τ) (l := l) h.2.2.2 (QI_S h (k := 8) (by decide) (by decide))
  exact ⟨μ1, a1, QI_mg h f1 c1, t1, f1⟩
theorem mo_walkQ {pace to : Nat} {s : wyT} (h : QI μ τ S N C Q) (ht : mtw μ s) (h1 : 1 ≤ pace) (h2 : pace ≤ 20) (hp : s.1 ≤ 99) (hto : to ≤ 99) (hm : s.2.1 ≤ 1500) : ∃ μ' : fm_M, ix_call X (d + 3) 175 [.ref 67, .int (nI to), .int (nI pace)] (fm_W μ τ) = some (none, fm_W μ' τ) ∧ QI μ' τ S N C Q ∧ mtw μ' (wgo S (csN N C) pace to s) ∧ mg μ μ' := by
  have hw := wkM_le (pl := s.1) (to := to) h1 hp hto
  obtain ⟨μ2, a2, c2, t2, f2⟩ := mo_walks (X := X) (d := d) (τ := τ) (to := to) h.2.2.2 ht h1 (by omega) hp hto (by omega)
  exact ⟨μ2, a2, QI_mg h f2 c2, t2, f2⟩
theorem mo_waitQ {k : Nat} {s : wyT} (h : QI μ τ S N C Q) (htt : t < N 0) (ht : mtw μ s) (hk : k ≤ 60) (hm : s.2.1 ≤ 1500) : ∃ μ' : fm_M, ix_call X (d + 6) 182 [.ref 67, .int (nI t), .int (nI k)] (fm_W μ τ) = some (none, fm_W μ' τ) ∧ QI μ' τ S N C Q ∧ mtw μ' (wwt S (csN N C) t k s) ∧ mg μ μ' := by
  obtain ⟨v1, v2⟩ := QI_vv h htt
  obtain ⟨k1, k2⟩ := QI_kd h htt
  obtain ⟨μ2, a2, c2, t2, f2⟩ := mo_waits (X := X) (d := d) (τ := τ) (k := k) h.2.2.2 ht htt k1 k2 v1 v2 (by omega)
  exact ⟨μ2, a2, QI_mg h f2 c2, t2, f2⟩
theorem mo_tellQ {i what : Nat} {s : wyT} (h : QI μ τ S N C Q) (ht : mtw μ s) (hn : N 8 ≤ s.2.1) (hi : i < N 1) (hwh : what ≤ 2) : ix_call X (d + 2) 176 [.ref 67, .int (nI i), .int (nI what)] (fm_W μ τ) = some (some (.int (tlS S (S (64 + i)) what (s.2.1 - N 8) s.2.2)), fm_W μ τ) := mo_tellsW h.2.2.2 ht (QI_S h (k := 8) (by decide) (by decide)) hn (by have := (QI_b h).2.1; omega) hwh
theorem mo_wetQ {coat : Int32} {s : wyT} (h : QI μ τ S N C Q) (ht : mtw μ s) : ix_call X (d + 1) 177 [.ref 67, .int coat] (fm_W μ τ) = some (some (.int (wbS S s.2.2 coat)), fm_W μ τ) := mo_wetBy h.2.2.2 ht
theorem wgo_le {pace to : Nat} {s : wyT} {cs : List Nat} (h1 : 1 ≤ pace) (hp : s.1 ≤ 99) (hto : to ≤ 99) : s.2.1 ≤ (wgo S cs pace to s).2.1 ∧ (wgo S cs pace to s).2.1 ≤ s.2.1 + 99 ∧ (wgo S cs pace to s).1 = to := by
  have := wkM_le (pl := s.1) (to := to) h1 hp hto
  simp only [wgo]
  exact ⟨by omega, by omega, trivial⟩
/-- straight home, l minutes later -/
def stW (S : Nat → Int32) (N : Nat → Nat) (cs : List Nat) (pace l : Nat) : wyT := wgo S cs pace (N 9) (0, N 8 + l, nI 0)
theorem stW_le {pace l : Nat} {cs : List Nat} (h1 : 1 ≤ pace) (h9 : N 9 ≤ 99) : N 8 ≤ (stW S N cs pace l).2.1 ∧ (stW S N cs pace l).2.1 ≤ N 8 + l + 99 := by
  have := wgo_le (S := S) (cs := cs) (pace := pace) (to := N 9) (s := (0, N 8 + l, nI 0)) h1 (by simp) h9
  unfold stW
  simp only at this ⊢
  omega
theorem mo_goSQ {pace l : Nat} (h : QI μ τ S N C Q) (h1 : 1 ≤ pace) (h2 : pace ≤ 20) (hl : l ≤ 100) : ∃ μ' : fm_M, ix_call X (d + 4) 173 [.ref 67, .int (nI pace), .int (nI l)] (fm_W μ τ) = some (none, fm_W μ' τ) ∧ QI μ' τ S N C Q ∧ mtw μ' (stW S N (csN N C) pace l) := by
  obtain ⟨μ', a, b, c⟩ := mo_goS (X := X) (d := d) h h1 h2 (show l ≤ 400 by omega)
  exact ⟨μ', a, b, c⟩
theorem cl_wetStr {pace l : Nat} {coat : Int32} (h : QI μ τ S N C Q) (h1 : 1 ≤ pace) (h2 : pace ≤ 20) (hl : l ≤ 100) : ∃ μ' : fm_M, ix_call X (d + 3) 107 [.ref 0, .int (nI pace), .int coat, .int (nI l)] (fm_W μ τ) = some (some (.int (wbS S (stW S N (csN N C) pace l).2.2 coat)), fm_W μ' τ) ∧ QI μ' τ S N C Q := by
  obtain ⟨b0, b1, b2, b3, b4, b5, b6, b8, b9, b10⟩ := QI_b h
  have k1 := cl_nowQ (X := X) (d := d + 1) h
  obtain ⟨μ1, a1, t1, f1⟩ := tp_setOut (X := X) (d := d + 2) (τ := τ) (μ := μ) (r := 64) (mn := N 8 + l) rfl h1 (show pace ≤ 100 by omega)
  have hf := tf_row (r := 64) rfl f1
  have q1 := QI_tf (r := 64) rfl h hf (ck_row h.2.2.1 (q := 64) (by omega) f1)
  have k2 := cl_homeQ (X := X) (d := d + 1) q1
  obtain ⟨μ2, a2, q2, t2, f2⟩ := cl_walkQ (X := X) (d := d) (r := 64) (to := N 9) (s := (0, N 8 + l, nI 0)) rfl q1 t1 h1 h2 (by simp) b9 (by simp only; omega)
  have k3 := cl_wetBy (X := X) (d := d + 2) (τ := τ) (gt := (stW S N (csN N C) pace l).2.2) (coat := coat) (QI_he q2)
  have g4 : μ2 64 4 = (stW S N (csN N C) pace l).2.2 := t2.2.2.2
  have hT : tpO 64 := rfl
  refine ⟨μ2, ?_, q2⟩
  simp (disch := first | assumption | omega | decide) only [e107, i107_0, i107_1, i107_4, i107_5, i107_6, i107_9, i107_10, i107_11, i107_14, i107_15, i107_18, i107_19, i107_20, i107_23, i107_26, i107_27, i107_28, i107_31, i107_34, i107_35, i107_38, ix_pv_s, ix_pi_s, zpn, ix_po_s, ix_po_n, ix_ph_s, ix_bk_v, ix_bk_n, zcv, zcv_ne, ↓reduceIte, Nat.reduceEqDiff, zn_m1, zd_lt_p, zd_lt_n, zd_le_p, zd_le_n, zd_eq_p, zd_eq_n, zd_0_p, zd_0_n, zd_0lt_p, zd_0lt_n, zd_le0_p, zd_le0_n, zn_lt0, zn_le0, zn_add, zn_mul, zn_sub, zm_lt, zm_le, zm_eq, zb_1, zb_0, not_true_eq_false, not_false_eq_true, t0_c, t0_g0, t0_g1, t0_g2, t0_g3, t0_g4, t0_g5, t0_g6, t0_g7, t0_g8, t0_g9, t0_g10, t0_s11, t0_g12, t0_s12, t0_g13, t0_g14, t0_g15, t0_g16, t0_c, rw_c, k1, a1, k2, a2, tp_c, tp_g0, tp_g1, tp_s1, tp_g2, tp_s2, tp_g3, tp_s3, tp_g4, tp_s4, g4, k3]
/-- by way of tree t, standing there k minutes, home -/
def viW (S : Nat → Int32) (N : Nat → Nat) (cs : List Nat) (i t k : Nat) : wyT := wgo S cs (nS S (59 + i)) (N 9) (wwt S cs t k (wgo S cs (nS S (59 + i)) (nS S (29 + t)) (0, N 8, nI 0)))
theorem cl_visited {i k what : Nat} (h : QI μ τ S N C Q) (hi : i < N 1) (ht : t < N 0) (hk : k ≤ 20) (hw : what ≤ 2) : ∃ μ' : fm_M, ix_call X (d + 6) 102 [.ref 0, .int (nI i), .ref (Q t), .int (nI k), .int (nI what)] (fm_W μ τ) = some (some (.int (tlS S (S (64 + i)) what ((viW S N (csN N C) i t k).2.1 - N 8) (viW S N (csN N C) i t k).2.2)), fm_W μ' τ) ∧ QI μ' τ S N C Q := by
  obtain ⟨b0, b1, b2, b3, b4, b5, b6, b8, b9, b10⟩ := QI_b h
  obtain ⟨p0, p1, p2⟩ := QI_pc h hi
  obtain ⟨l0, l1⟩ := QI_pl h ht
  obtain ⟨μ1, a1, q1, t1, f1⟩ := cl_startQ (X := X) (d := d + 3) (r := 64) rfl h hi
  obtain ⟨μ2, a2, q2, t2, f2⟩ := cl_visitQ (X := X) (d := d) (r := 64) (k := k) (s := (0, N 8, nI 0)) rfl q1 ht t1 p1 p2 (by simp) hk (by simp only; omega)
  have g1 := wgo_le (S := S) (cs := csN N C) (pace := nS S (59 + i)) (to := nS S (29 + t)) (s := (0, N 8, nI 0)) p1 (by simp) l1
  have k2 := cl_homeQ (X := X) (d := d + 4) q2
  obtain ⟨μ3, a3, q3, t3, f3⟩ := cl_walkQ (X := X) (d := d + 3) (r := 64) (to := N 9) rfl q2 t2 p1 p2 (by simp only [wwt]; omega) b9 (by simp only [wwt] at g1 ⊢; omega)
  have g2 := wgo_le (S := S) (cs := csN N C) (pace := nS S (59 + i)) (to := N 9) (s := wwt S (csN N C) t k (wgo S (csN N C) (nS S (59 + i)) (nS S (29 + t)) (0, N 8, nI 0))) p1 (by simp only [wwt]; omega) b9
  have k3 := cl_outQ (X := X) (d := d + 3) (r := 64) (what := what) rfl q3 t3 (by simp only [wwt] at g1 g2 ⊢; omega) hi hw
  have hT : tpO 64 := rfl
  refine ⟨μ3, ?_, q3⟩
  rw [viW]
  simp (disch := first | assumption | omega | decide) only [e102, i102_0, i102_1, i102_2, i102_5, i102_6, i102_9, i102_10, i102_13, i102_13n, i102_14, i102_15, i102_18, i102_19, i102_22, i102_23, i102_24, i102_27, i102_30, i102_31, i102_32, i102_35, i102_36, i102_38, i102_41, ix_pv_s, ix_pi_s, zpn, ix_po_s, ix_po_n, ix_ph_s, ix_bk_v, ix_bk_n, zcv, zcv_ne, ↓reduceIte, Nat.reduceEqDiff, zn_m1, zd_lt_p, zd_lt_n, zd_le_p, zd_le_n, zd_eq_p, zd_eq_n, zd_0_p, zd_0_n, zd_0lt_p, zd_0lt_n, zd_le0_p, zd_le0_n, zn_lt0, zn_le0, zn_add, zn_mul, zn_sub, zm_lt, zm_le, zm_eq, zb_1, zb_0, not_true_eq_false, not_false_eq_true, t0_c, t0_g0, t0_g1, t0_g2, t0_g3, t0_g4, t0_g5, t0_g6, t0_g7, t0_g8, t0_g9, t0_g10, t0_s11, t0_g12, t0_s12, t0_g13, t0_g14, t0_g15, t0_g16, t0_c, rw_c, tp_c, a1, a2, k2, a3, k3]
theorem mo_goBy {i k : Nat} (h : QI μ τ S N C Q) (hi : i < N 1) (ht : t < N 0) (hk : k ≤ 20) : ∃ μ' : fm_M, ix_call X (d + 7) 189 [.ref 67, .int (nI i), .int (nI t), .int (nI k)] (fm_W μ τ) = some (none, fm_W μ' τ) ∧ QI μ' τ S N C Q ∧ mtw μ' (viW S N (csN N C) i t k) ∧ N 8 ≤ (viW S N (csN N C) i t k).2.1 := by
  obtain ⟨b0, b1, b2, b3, b4, b5, b6, b8, b9, b10⟩ := QI_b h
  obtain ⟨p0, p1, p2⟩ := QI_pc h hi
  obtain ⟨l0, l1⟩ := QI_pl h ht
  have s9 := QI_S h (k := 9) (by decide) (by decide)
  obtain ⟨μ1, a1, q1, t1, f1⟩ := mo_startQ (X := X) (d := d + 6) (l := 0) h
  have e1 := QI_68 q1
  obtain ⟨μ2, a2, q2, t2, f2⟩ := mo_walkQ (X := X) (d := d + 3) (pace := nS S (59 + i)) (to := nS S (29 + t)) (s := (0, N 8, nI 0)) q1 t1 p1 p2 (by simp) l1 (by simp only; omega)
  have g1 := wgo_le (S := S) (cs := csN N C) (pace := nS S (59 + i)) (to := nS S (29 + t)) (s := (0, N 8, nI 0)) p1 (by simp) l1
  obtain ⟨μ3, a3, q3, t3, f3⟩ := mo_waitQ (X := X) (d := d) (k := k) q2 ht t2 (by omega) (by simp only at g1 ⊢; omega)
  have e3 := QI_68 q3
  have g3 : (wwt S (csN N C) t k (wgo S (csN N C) (nS S (59 + i)) (nS S (29 + t)) (0, N 8, nI 0))).1 ≤ 99 := by simp only [wwt]; omega
  have g4 : (wwt S (csN N C) t k (wgo S (csN N C) (nS S (59 + i)) (nS S (29 + t)) (0, N 8, nI 0))).2.1 ≤ N 8 + 119 ∧ N 8 ≤ (wwt S (csN N C) t k (wgo S (csN N C) (nS S (59 + i)) (nS S (29 + t)) (0, N 8, nI 0))).2.1 := by simp only [wwt] at g1 ⊢; omega
  obtain ⟨μ4, a4, q4, t4, f4⟩ := mo_walkQ (X := X) (d := d + 3) (pace := nS S (59 + i)) (to := N 9) q3 t3 p1 p2 g3 b9 (by omega)
  have g2 := wgo_le (S := S) (cs := csN N C) (pace := nS S (59 + i)) (to := N 9) (s := wwt S (csN N C) t k (wgo S (csN N C) (nS S (59 + i)) (nS S (29 + t)) (0, N 8, nI 0))) p1 g3 b9
  refine ⟨μ4, ?_, q4, t4, by unfold viW; omega⟩
  simp (disch := first | assumption | omega | decide) only [e189, i189_0, i189_1, i189_2, i189_5, i189_6, i189_7, i189_10, i189_12, i189_13, i189_14, i189_15, i189_16, i189_19, i189_21, i189_22, i189_23, i189_24, i189_27, i189_28, i189_29, i189_30, i189_33, i189_34, i189_35, i189_38, i189_40, i189_41, i189_42, i189_45, i189_47, i189_48, i189_49, i189_50, i189_53, ix_pv_s, ix_pi_s, zpn, ix_po_s, ix_po_n, ix_ph_s, ix_bk_v, ix_bk_n, zcv, zcv_ne, ↓reduceIte, Nat.reduceEqDiff, zn_m1, zd_lt_p, zd_lt_n, zd_le_p, zd_le_n, zd_eq_p, zd_eq_n, zd_0_p, zd_0_n, zd_0lt_p, zd_0lt_n, zd_le0_p, zd_le0_n, zn_lt0, zn_le0, zn_add, zn_mul, zn_sub, zm_lt, zm_le, zm_eq, zb_1, zb_0, not_true_eq_false, not_false_eq_true, mo_c, mo_g0, mo_s0, mo_g1, mo_g2, mo_g3, mo_s3, mo_g4, mo_s4, mo_g5, mo_s5, mo_g6, mo_s6, mo_g7, mo_s7, mo_g8, mo_s8, mo_g9, mo_g10, mo_g11, mo_g12, mo_g13, mo_s13, mo_g14, mo_s14, mo_g15, mo_s15, mo_g16, mo_g17, mo_s17, mo_g18, mo_s18, mo_g19, mo_g20, mo_s20, mo_g21, mo_s21, mo_g22, mo_s22, mo_g23, mo_s23, ra_25, wa_25, al_25, ra_68, wa_68, al_68, ra_69, wa_69, al_69, ra_70, wa_70, al_70, ra_71, wa_71, al_71, ra_72, wa_72, al_72, ra_73, wa_73, al_73, ra_74, wa_74, al_74, ra_75, wa_75, al_75, a1, e1, l0, p0, a2, a3, e3, s9, a4]
end WY
