/-! ===== what the tables' data rest on: words of the Statement, decided once ===== -/
def ix_in (w : Cond) : Bool := decide (w ∈ lw_tbl) && goodWord w
def ix_W : List Cond := lw_tbl.filter goodWord
theorem ix_in_W {w : Cond} (h : ix_in w = true) : w ∈ ix_W := by
  unfold ix_in at h
  rw [Bool.and_eq_true, decide_eq_true_eq] at h
  exact List.mem_filter.mpr h
theorem ix_W_tbl {w : Cond} (h : w ∈ ix_W) : w ∈ lw_tbl := (List.mem_filter.mp h).1
theorem ix_W_good {w : Cond} (h : w ∈ ix_W) : (w.onTables && w.keeps) = true ∨ ∃ ty, w = .arrayClass ty := good_of_word (List.mem_filter.mp h).2
theorem ix_find {α : Type} {l : List (Nat × Nat × α)} {o i : Nat} {e : α} (h : (l.find? (fun e => e.1 == o && e.2.1 == i)).map (fun e => e.2.2) = some e) : (o, i, e) ∈ l := by
  rw [Option.map_eq_some_iff] at h
  obtain ⟨⟨a, b, c⟩, h1, h2⟩ := h
  have h3 := List.find?_some h1
  have h4 := List.mem_of_find?_eq_some h1
  simp only [Bool.and_eq_true, beq_iff_eq] at h3 h2
  obtain ⟨rfl, rfl⟩ := h3
  subst h2
  exact h4
theorem ix_cl_at : ∀ c, c < 13 → ix_cl[c]? = some (ix_R c, ix_T c, ix_N c) := by
  intro c hc
  match c, hc with
  | 0, _ => rfl
  | 1, _ => rfl
  | 2, _ => rfl
  | 3, _ => rfl
  | 4, _ => rfl
  | 5, _ => rfl
  | 6, _ => rfl
  | 7, _ => rfl
  | 8, _ => rfl
  | 9, _ => rfl
  | 10, _ => rfl
  | 11, _ => rfl
  | 12, _ => rfl
  | n + 13, h => omega
theorem ix_cl_ty : ∀ c, c < 13 → ∀ k, k < ix_N c → parseFieldDescriptor (ix_T c k).2.2.1 = some (ix_ty c k) := by
  intro c hc
  match c, hc with
  | 0, _ => exact tyX0_ok
  | 1, _ => exact tyX1_ok
  | 2, _ => exact tyX2_ok
  | 3, _ => exact tyX3_ok
  | 4, _ => exact tyX4_ok
  | 5, _ => exact tyX5_ok
  | 6, _ => exact tyX6_ok
  | 7, _ => exact tyX7_ok
  | 8, _ => exact tyX8_ok
  | 9, _ => exact tyX9_ok
  | 10, _ => exact tyX10_ok
  | 11, _ => exact tyX11_ok
  | 12, _ => exact tyX12_ok
  | n + 13, h => omega
theorem ix_cl_nm : ∀ c, c < 13 → ∀ a, a < ix_N c → ∀ b, b < ix_N c → a ≠ b → (ix_T c a).2.1 ≠ (ix_T c b).2.1 := by
  intro c hc
  match c, hc with
  | 0, _ => exact nmX0
  | 1, _ => exact nmX1
  | 2, _ => exact nmX2
  | 3, _ => exact nmX3
  | 4, _ => exact nmX4
  | 5, _ => exact nmX5
  | 6, _ => exact nmX6
  | 7, _ => exact nmX7
  | 8, _ => exact nmX8
  | 9, _ => exact nmX9
  | 10, _ => exact nmX10
  | 11, _ => exact nmX11
  | 12, _ => exact nmX12
  | n + 13, h => omega
theorem ix_cl_ws0 : (List.range 13).all (fun c => (u_ws (ix_R c) (ix_T c) (ix_N c)).all ix_in) = true := by decide +kernel
theorem ix_cl_ws {c : Nat} (hc : c < 13) : ∀ w ∈ u_ws (ix_R c) (ix_T c) (ix_N c), w ∈ ix_W := fun w hw => ix_in_W (List.all_eq_true.mp (List.all_eq_true.mp ix_cl_ws0 c (List.mem_range.mpr hc)) w hw)
-- fields
def ix_fchk (e : Nat × Nat × Nat × List Nat × Nat × Nat) : Bool := match e with
  | (o, i, k, cs, kd, r) =>
    if kd = 2 then cs.isEmpty && ix_in (.fieldLink (ix_R o) i "java/lang/String" "value" "[B")
    else if kd = 3 then cs.isEmpty && ix_in (.fieldLink (ix_R o) i "java/lang/String" "coder" "B")
    else cs.all fun c => decide (c < 13) && decide (k < ix_N c) && ((ix_T c k).1 == ix_R r || ix_in (.sameField (ix_R r) (ix_T c k).1 (ix_T c k).2.1 (ix_T c k).2.2.1)) &&
      (if kd = 0 then ix_in (.fieldLink (ix_R o) i (ix_R r) (ix_T c k).2.1 (ix_T c k).2.2.1) else !(ix_T c k).2.2.2 && decide (Cond.fieldLinkNest (ix_R o) i (ix_R r) (ix_T c k).2.1 (ix_T c k).2.2.1 "TreeToTree" ∈ ix_nws))
theorem ix_fi_all : ix_fis.all ix_fchk = true := by decide +kernel
theorem ix_fi_chk {o i : Nat} {e : Nat × List Nat × Nat × Nat} (h : ix_fi o i = some e) : ix_fchk (o, i, e) = true := List.all_eq_true.mp ix_fi_all _ (ix_find h)
-- made objects, arrays, casts
def ix_aC (t : Nat) : String := if t = 2 then "TreeToTree$Tree" else if t = 3 then "TreeToTree$Spot" else "TreeToTree$Park"
def ix_nchk (e : Nat × Nat × Nat) : Bool := match e with
  | (o, i, c) => decide (c < 13) && ix_in (.classLink (ix_R o) i (ix_R c)) && ix_in (.instantiable (ix_R c) (ix_N c)) && ix_in (.initialized (ix_R c))
theorem ix_nw_all : ix_nwl.all ix_nchk = true := by decide +kernel
theorem ix_nw_chk {o i c : Nat} (h : ix_nw o i = some c) : ix_nchk (o, i, c) = true := List.all_eq_true.mp ix_nw_all _ (ix_find h)
def ix_achk (e : Nat × Nat × Nat) : Bool := match e with
  | (o, i, t) => decide (2 ≤ t) && decide (t < 5) && ix_in (.classLink (ix_R o) i (ix_aC t))
theorem ix_an_all : ix_ans.all ix_achk = true := by decide +kernel
theorem ix_an_chk {o i t : Nat} (h : ix_an o i = some t) : ix_achk (o, i, t) = true := List.all_eq_true.mp ix_an_all _ (ix_find h)
theorem ix_ac_int : ix_in (.arrayClass .int) = true := by decide +kernel
theorem ix_ac_bool : ix_in (.arrayClass .boolean) = true := by decide +kernel
def ix_yes (t c : Nat) : Bool := decide (c < 13) && decide (t < 13) && (c == t || decide (Cond.castable (ix_R c) (ix_R t) ∈ ix_nws))
def ix_ichk (e : Nat × Nat × Nat × List Nat × List Nat) : Bool := match e with
  | (o, i, t, ys, ns) => ix_in (.classLink (ix_R o) i (ix_R t)) && ys.all (ix_yes t) && ns.all (fun c => decide (c < 13) && decide ((ix_R c, ix_R t) ∈ ix_ncs))
theorem ix_io_all : ix_ios.all ix_ichk = true := by decide +kernel
theorem ix_io_chk {o i : Nat} {e : Nat × List Nat × List Nat} (h : ix_io o i = some e) : ix_ichk (o, i, e) = true := List.all_eq_true.mp ix_io_all _ (ix_find h)
def ix_kchk (e : Nat × Nat × Nat × List Nat) : Bool := match e with
  | (o, i, t, ys) => ix_in (.classLink (ix_R o) i (ix_R t)) && ys.all (ix_yes t)
theorem ix_ck_all : ix_cks.all ix_kchk = true := by decide +kernel
theorem ix_ck_chk {o i : Nat} {e : Nat × List Nat} (h : ix_ck o i = some e) : ix_kchk (o, i, e) = true := List.all_eq_true.mp ix_ck_all _ (ix_find h)
/-- which objects may lie in which array: by a cast, or of the very class -/
theorem ix_okst_c {t c : Nat} (h : ix_okst t c = true) : c < 13 ∧ 2 ≤ t ∧ t < 5 ∧ (ix_R c = ix_aC t ∨ Cond.castable (ix_R c) (ix_aC t) ∈ ix_nws) := by
  have h13 : c < 13 ∧ 2 ≤ t ∧ t < 5 := by
    unfold ix_okst at h
    simp only [Bool.or_eq_true, Bool.and_eq_true, beq_iff_eq, List.contains_iff_mem, List.mem_cons, List.not_mem_nil, or_false] at h
    omega
  refine ⟨h13.1, h13.2.1, h13.2.2, ?_⟩
  have key : (List.range 13).all (fun c => (List.range 5).all fun t => !ix_okst t c || (ix_R c == ix_aC t || decide (Cond.castable (ix_R c) (ix_aC t) ∈ ix_nws))) = true := by decide +kernel
  have h1 := List.all_eq_true.mp (List.all_eq_true.mp key c (List.mem_range.mpr h13.1)) t (List.mem_range.mpr h13.2.2)
  rw [h] at h1
  simpa using h1
-- constants
def ix_gchk (e : Nat × Nat × Value) : Bool := match e with
  | (o, i, v) => (v == .int 1 && ix_in (.fieldLink (ix_R o) i "java/lang/String" "COMPACT_STRINGS" "Z")) || (v == .retAddr 1 && ix_in (.fieldLink (ix_R o) i "jdk/internal/util/Preconditions" "SIOOBE_FORMATTER" "Ljava/util/function/BiFunction;"))
theorem ix_gs_all : ix_gss.all ix_gchk = true := by decide +kernel
theorem ix_gs_chk {o i : Nat} {v : Value} (h : ix_gs o i = some v) : ix_gchk (o, i, v) = true := List.all_eq_true.mp ix_gs_all _ (ix_find h)
def ix_lchk (e : Nat × Nat × Value) : Bool := match e with
  | (o, i, .int x) => ix_in (.constant (ix_R o) i x)
  | (o, i, .long x) => ix_in (.constantLong (ix_R o) i x)
  | (o, i, .retAddr q) => ix_lits.any (fun w => w.1 == ix_R o && w.2.1 == i && 2 + 2 * w.2.2.2 == q)
  | _ => false
theorem ix_lc_all : ix_lcs.all ix_lchk = true := by decide +kernel
theorem ix_lc_chk {o i : Nat} {v : Value} (h : ix_lc o i = some v) : ix_lchk (o, i, v) = true := List.all_eq_true.mp ix_lc_all _ (ix_find h)
-- methods: words found by their places (table, place)
def ix_tabs : List (List Cond) := [k2_sels lw_privs, tables_1_1, tables_1_2, tables_1_3, tables_1_4, tables_1_5, tables_1_6, tables_1_7]
def ix_pw (w : Cond) (p : Nat × Nat) : Bool := (match ix_tabs[p.1]? with
  | some l => decide (l[p.2]? = some w)
  | none => false) && goodWord w
theorem ix_tabs_mem {l : List Cond} {w : Cond} (hl : l ∈ ix_tabs) (hw : w ∈ l) : w ∈ lw_tbl := by
  unfold lw_tbl tables_1
  simp only [ix_tabs, List.mem_cons, List.not_mem_nil, or_false] at hl
  simp only [List.mem_append]
  rcases hl with rfl | rfl | rfl | rfl | rfl | rfl | rfl | rfl <;> simp [hw]
theorem ix_pw_W {w : Cond} {p : Nat × Nat} (h : ix_pw w p = true) : w ∈ ix_W := by
  unfold ix_pw at h
  rw [Bool.and_eq_true] at h
  obtain ⟨h1, h2⟩ := h
  cases hl : ix_tabs[p.1]? with
  | none => rw [hl] at h1; cases h1
  | some l =>
    rw [hl] at h1
    simp only [decide_eq_true_eq] at h1
    exact List.mem_filter.mpr ⟨ix_tabs_mem (List.mem_of_getElem? hl) (List.mem_of_getElem? h1), h2⟩
def ix_pws (ws : List Cond) (ps : List (Nat × Nat)) : Bool := ws.length == ps.length && (ws.zip ps).all (fun q => ix_pw q.1 q.2)
theorem ix_pws_W {ws : List Cond} {ps : List (Nat × Nat)} (h : ix_pws ws ps = true) : ∀ w ∈ ws, w ∈ ix_W := by
  unfold ix_pws at h
  rw [Bool.and_eq_true, beq_iff_eq] at h
  obtain ⟨h1, h2⟩ := h
  intro w hw
  obtain ⟨k, hk⟩ := List.getElem?_of_mem hw
  have hlt : k < ws.length := (List.getElem?_eq_some_iff.mp hk).1
  have hp : ps[k]? = some ps[k] := List.getElem?_eq_getElem (by omega)
  have hz : (ws.zip ps)[k]? = some (w, ps[k]) := List.getElem?_zip_eq_some.mpr ⟨hk, hp⟩
  exact ix_pw_W (List.all_eq_true.mp h2 _ (List.mem_of_getElem? hz))
def ix_mcode (j : Nat) : Cond := .code (ix_y j) (ix_cc j) (ix_mx j) (ix_rt j)
def ix_mchk (j : Nat) : Bool := plainName (ix_y j).cls && decide (ix_mx j ≤ 20) && (ix_y j).cls == ix_R (ix_o j) && (ix_y j).cls != "java/lang/invoke/MethodHandle" && (ix_y j).cls != "java/lang/invoke/VarHandle"
theorem ix_m_all : (List.range 236).all ix_mchk = true := by decide +kernel
theorem ix_m_chk {j : Nat} (h : j < 236) : ix_mchk j = true := List.all_eq_true.mp ix_m_all j (List.mem_range.mpr h)
theorem ix_good_code (y : MethodName) (b : ByteArray) (n : Nat) (r : Option FieldType) : goodWord (.code y b n r) = true := rfl
theorem ix_mem {l : List Cond} {i : Nat} {w : Cond} (hl : l ∈ ix_tabs) (h : l[i]? = some w) (hg : goodWord w = true) : w ∈ ix_W := List.mem_filter.mpr ⟨ix_tabs_mem hl (List.mem_of_getElem? h), hg⟩
theorem ix_tab_1 : tables_1_1 ∈ ix_tabs := by simp [ix_tabs]
theorem ix_tab_2 : tables_1_2 ∈ ix_tabs := by simp [ix_tabs]
theorem ix_tab_3 : tables_1_3 ∈ ix_tabs := by simp [ix_tabs]
theorem ix_tab_4 : tables_1_4 ∈ ix_tabs := by simp [ix_tabs]
theorem ix_tab_5 : tables_1_5 ∈ ix_tabs := by simp [ix_tabs]
theorem ix_tab_6 : tables_1_6 ∈ ix_tabs := by simp [ix_tabs]
theorem ix_tab_7 : tables_1_7 ∈ ix_tabs := by simp [ix_tabs]
theorem ix_mc_0 : ix_mcode 0 ∈ ix_W := ix_mem (i := 27) ix_tab_3 rfl (ix_good_code _ _ _ _)
theorem ix_mc_1 : ix_mcode 1 ∈ ix_W := ix_mem (i := 73) ix_tab_3 rfl (ix_good_code _ _ _ _)
theorem ix_mc_2 : ix_mcode 2 ∈ ix_W := ix_mem (i := 142) ix_tab_4 rfl (ix_good_code _ _ _ _)
theorem ix_mc_3 : ix_mcode 3 ∈ ix_W := ix_mem (i := 17) ix_tab_3 rfl (ix_good_code _ _ _ _)
theorem ix_mc_4 : ix_mcode 4 ∈ ix_W := ix_mem (i := 97) ix_tab_3 rfl (ix_good_code _ _ _ _)
theorem ix_mc_5 : ix_mcode 5 ∈ ix_W := ix_mem (i := 187) ix_tab_4 rfl (ix_good_code _ _ _ _)
theorem ix_mc_6 : ix_mcode 6 ∈ ix_W := ix_mem (i := 7) ix_tab_3 rfl (ix_good_code _ _ _ _)
theorem ix_mc_7 : ix_mcode 7 ∈ ix_W := ix_mem (i := 104) ix_tab_3 rfl (ix_good_code _ _ _ _)
theorem ix_mc_8 : ix_mcode 8 ∈ ix_W := ix_mem (i := 198) ix_tab_4 rfl (ix_good_code _ _ _ _)
theorem ix_mc_9 : ix_mcode 9 ∈ ix_W := ix_mem (i := 69) ix_tab_1 rfl (ix_good_code _ _ _ _)
theorem ix_mc_10 : ix_mcode 10 ∈ ix_W := ix_mem (i := 16) ix_tab_2 rfl (ix_good_code _ _ _ _)
theorem ix_mc_11 : ix_mcode 11 ∈ ix_W := ix_mem (i := 24) ix_tab_2 rfl (ix_good_code _ _ _ _)
theorem ix_mc_12 : ix_mcode 12 ∈ ix_W := ix_mem (i := 28) ix_tab_2 rfl (ix_good_code _ _ _ _)
theorem ix_mc_13 : ix_mcode 13 ∈ ix_W := ix_mem (i := 33) ix_tab_2 rfl (ix_good_code _ _ _ _)
theorem ix_mc_14 : ix_mcode 14 ∈ ix_W := ix_mem (i := 85) ix_tab_2 rfl (ix_good_code _ _ _ _)
theorem ix_mc_15 : ix_mcode 15 ∈ ix_W := ix_mem (i := 89) ix_tab_2 rfl (ix_good_code _ _ _ _)
theorem ix_mc_16 : ix_mcode 16 ∈ ix_W := ix_mem (i := 93) ix_tab_2 rfl (ix_good_code _ _ _ _)
theorem ix_mc_17 : ix_mcode 17 ∈ ix_W := ix_mem (i := 100) ix_tab_2 rfl (ix_good_code _ _ _ _)
theorem ix_mc_18 : ix_mcode 18 ∈ ix_W := ix_mem (i := 104) ix_tab_2 rfl (ix_good_code _ _ _ _)
theorem ix_mc_19 : ix_mcode 19 ∈ ix_W := ix_mem (i := 108) ix_tab_2 rfl (ix_good_code _ _ _ _)
theorem ix_mc_20 : ix_mcode 20 ∈ ix_W := ix_mem (i := 169) ix_tab_2 rfl (ix_good_code _ _ _ _)
theorem ix_mc_21 : ix_mcode 21 ∈ ix_W := ix_mem (i := 90) ix_tab_3 rfl (ix_good_code _ _ _ _)
theorem ix_mc_22 : ix_mcode 22 ∈ ix_W := ix_mem (i := 33) ix_tab_1 rfl (ix_good_code _ _ _ _)
theorem ix_mc_23 : ix_mcode 23 ∈ ix_W := ix_mem (i := 169) ix_tab_1 rfl (ix_good_code _ _ _ _)
theorem ix_mc_24 : ix_mcode 24 ∈ ix_W := ix_mem (i := 173) ix_tab_1 rfl (ix_good_code _ _ _ _)
theorem ix_mc_25 : ix_mcode 25 ∈ ix_W := ix_mem (i := 236) ix_tab_1 rfl (ix_good_code _ _ _ _)
theorem ix_mc_26 : ix_mcode 26 ∈ ix_W := ix_mem (i := 8) ix_tab_2 rfl (ix_good_code _ _ _ _)
theorem ix_mc_27 : ix_mcode 27 ∈ ix_W := ix_mem (i := 173) ix_tab_2 rfl (ix_good_code _ _ _ _)
theorem ix_mc_28 : ix_mcode 28 ∈ ix_W := ix_mem (i := 159) ix_tab_3 rfl (ix_good_code _ _ _ _)
theorem ix_mc_29 : ix_mcode 29 ∈ ix_W := ix_mem (i := 3) ix_tab_5 rfl (ix_good_code _ _ _ _)
theorem ix_mc_30 : ix_mcode 30 ∈ ix_W := ix_mem (i := 13) ix_tab_5 rfl (ix_good_code _ _ _ _)
theorem ix_mc_31 : ix_mcode 31 ∈ ix_W := ix_mem (i := 107) ix_tab_1 rfl (ix_good_code _ _ _ _)
theorem ix_mc_32 : ix_mcode 32 ∈ ix_W := ix_mem (i := 185) ix_tab_2 rfl (ix_good_code _ _ _ _)
theorem ix_mc_33 : ix_mcode 33 ∈ ix_W := ix_mem (i := 195) ix_tab_2 rfl (ix_good_code _ _ _ _)
theorem ix_mc_34 : ix_mcode 34 ∈ ix_W := ix_mem (i := 80) ix_tab_3 rfl (ix_good_code _ _ _ _)
theorem ix_mc_35 : ix_mcode 35 ∈ ix_W := ix_mem (i := 84) ix_tab_3 rfl (ix_good_code _ _ _ _)
theorem ix_mc_36 : ix_mcode 36 ∈ ix_W := ix_mem (i := 203) ix_tab_2 rfl (ix_good_code _ _ _ _)
theorem ix_mc_37 : ix_mcode 37 ∈ ix_W := ix_mem (i := 100) ix_tab_3 rfl (ix_good_code _ _ _ _)
theorem ix_mc_38 : ix_mcode 38 ∈ ix_W := ix_mem (i := 149) ix_tab_4 rfl (ix_good_code _ _ _ _)
theorem ix_mc_39 : ix_mcode 39 ∈ ix_W := ix_mem (i := 237) ix_tab_2 rfl (ix_good_code _ _ _ _)
theorem ix_mc_40 : ix_mcode 40 ∈ ix_W := ix_mem (i := 76) ix_tab_3 rfl (ix_good_code _ _ _ _)
theorem ix_mc_41 : ix_mcode 41 ∈ ix_W := ix_mem (i := 164) ix_tab_4 rfl (ix_good_code _ _ _ _)
theorem ix_mc_42 : ix_mcode 42 ∈ ix_W := ix_mem (i := 37) ix_tab_3 rfl (ix_good_code _ _ _ _)
theorem ix_mc_43 : ix_mcode 43 ∈ ix_W := ix_mem (i := 118) ix_tab_3 rfl (ix_good_code _ _ _ _)
theorem ix_mc_44 : ix_mcode 44 ∈ ix_W := ix_mem (i := 147) ix_tab_3 rfl (ix_good_code _ _ _ _)
theorem ix_mc_45 : ix_mcode 45 ∈ ix_W := ix_mem (i := 173) ix_tab_4 rfl (ix_good_code _ _ _ _)
theorem ix_mc_46 : ix_mcode 46 ∈ ix_W := ix_mem (i := 232) ix_tab_4 rfl (ix_good_code _ _ _ _)
theorem ix_mc_47 : ix_mcode 47 ∈ ix_W := ix_mem (i := 25) ix_tab_5 rfl (ix_good_code _ _ _ _)
theorem ix_mc_48 : ix_mcode 48 ∈ ix_W := ix_mem (i := 206) ix_tab_2 rfl (ix_good_code _ _ _ _)
theorem ix_mc_49 : ix_mcode 49 ∈ ix_W := ix_mem (i := 112) ix_tab_3 rfl (ix_good_code _ _ _ _)
theorem ix_mc_50 : ix_mcode 50 ∈ ix_W := ix_mem (i := 123) ix_tab_3 rfl (ix_good_code _ _ _ _)
theorem ix_mc_51 : ix_mcode 51 ∈ ix_W := ix_mem (i := 134) ix_tab_3 rfl (ix_good_code _ _ _ _)
theorem ix_mc_52 : ix_mcode 52 ∈ ix_W := ix_mem (i := 156) ix_tab_4 rfl (ix_good_code _ _ _ _)
theorem ix_mc_53 : ix_mcode 53 ∈ ix_W := ix_mem (i := 178) ix_tab_4 rfl (ix_good_code _ _ _ _)
theorem ix_mc_54 : ix_mcode 54 ∈ ix_W := ix_mem (i := 204) ix_tab_4 rfl (ix_good_code _ _ _ _)
theorem ix_mc_55 : ix_mcode 55 ∈ ix_W := ix_mem (i := 239) ix_tab_4 rfl (ix_good_code _ _ _ _)
theorem ix_mc_56 : ix_mcode 56 ∈ ix_W := ix_mem (i := 29) ix_tab_5 rfl (ix_good_code _ _ _ _)
theorem ix_mc_57 : ix_mcode 57 ∈ ix_W := ix_mem (i := 146) ix_tab_1 rfl (ix_good_code _ _ _ _)
theorem ix_mc_58 : ix_mcode 58 ∈ ix_W := ix_mem (i := 200) ix_tab_3 rfl (ix_good_code _ _ _ _)
theorem ix_mc_59 : ix_mcode 59 ∈ ix_W := ix_mem (i := 205) ix_tab_3 rfl (ix_good_code _ _ _ _)
theorem ix_mc_60 : ix_mcode 60 ∈ ix_W := ix_mem (i := 234) ix_tab_3 rfl (ix_good_code _ _ _ _)
theorem ix_mc_61 : ix_mcode 61 ∈ ix_W := ix_mem (i := 0) ix_tab_4 rfl (ix_good_code _ _ _ _)
theorem ix_mc_62 : ix_mcode 62 ∈ ix_W := ix_mem (i := 17) ix_tab_4 rfl (ix_good_code _ _ _ _)
theorem ix_mc_63 : ix_mcode 63 ∈ ix_W := ix_mem (i := 25) ix_tab_1 rfl (ix_good_code _ _ _ _)
theorem ix_mc_64 : ix_mcode 64 ∈ ix_W := ix_mem (i := 229) ix_tab_1 rfl (ix_good_code _ _ _ _)
theorem ix_mc_65 : ix_mcode 65 ∈ ix_W := ix_mem (i := 232) ix_tab_1 rfl (ix_good_code _ _ _ _)
theorem ix_mc_66 : ix_mcode 66 ∈ ix_W := ix_mem (i := 0) ix_tab_2 rfl (ix_good_code _ _ _ _)
theorem ix_mc_67 : ix_mcode 67 ∈ ix_W := ix_mem (i := 4) ix_tab_2 rfl (ix_good_code _ _ _ _)
theorem ix_mc_68 : ix_mcode 68 ∈ ix_W := ix_mem (i := 12) ix_tab_2 rfl (ix_good_code _ _ _ _)
theorem ix_mc_69 : ix_mcode 69 ∈ ix_W := ix_mem (i := 177) ix_tab_2 rfl (ix_good_code _ _ _ _)
theorem ix_mc_70 : ix_mcode 70 ∈ ix_W := ix_mem (i := 181) ix_tab_2 rfl (ix_good_code _ _ _ _)
theorem ix_mc_71 : ix_mcode 71 ∈ ix_W := ix_mem (i := 190) ix_tab_2 rfl (ix_good_code _ _ _ _)
theorem ix_mc_72 : ix_mcode 72 ∈ ix_W := ix_mem (i := 198) ix_tab_2 rfl (ix_good_code _ _ _ _)
theorem ix_mc_73 : ix_mcode 73 ∈ ix_W := ix_mem (i := 58) ix_tab_3 rfl (ix_good_code _ _ _ _)
theorem ix_mc_74 : ix_mcode 74 ∈ ix_W := ix_mem (i := 62) ix_tab_3 rfl (ix_good_code _ _ _ _)
theorem ix_mc_75 : ix_mcode 75 ∈ ix_W := ix_mem (i := 66) ix_tab_3 rfl (ix_good_code _ _ _ _)
theorem ix_mc_76 : ix_mcode 76 ∈ ix_W := ix_mem (i := 139) ix_tab_3 rfl (ix_good_code _ _ _ _)
theorem ix_mc_77 : ix_mcode 77 ∈ ix_W := ix_mem (i := 143) ix_tab_3 rfl (ix_good_code _ _ _ _)
theorem ix_mc_78 : ix_mcode 78 ∈ ix_W := ix_mem (i := 151) ix_tab_3 rfl (ix_good_code _ _ _ _)
theorem ix_mc_79 : ix_mcode 79 ∈ ix_W := ix_mem (i := 155) ix_tab_3 rfl (ix_good_code _ _ _ _)
theorem ix_mc_80 : ix_mcode 80 ∈ ix_W := ix_mem (i := 163) ix_tab_3 rfl (ix_good_code _ _ _ _)
theorem ix_mc_81 : ix_mcode 81 ∈ ix_W := ix_mem (i := 167) ix_tab_3 rfl (ix_good_code _ _ _ _)
theorem ix_mc_82 : ix_mcode 82 ∈ ix_W := ix_mem (i := 171) ix_tab_3 rfl (ix_good_code _ _ _ _)
theorem ix_mc_83 : ix_mcode 83 ∈ ix_W := ix_mem (i := 175) ix_tab_3 rfl (ix_good_code _ _ _ _)
theorem ix_mc_84 : ix_mcode 84 ∈ ix_W := ix_mem (i := 180) ix_tab_3 rfl (ix_good_code _ _ _ _)
theorem ix_mc_85 : ix_mcode 85 ∈ ix_W := ix_mem (i := 184) ix_tab_3 rfl (ix_good_code _ _ _ _)
theorem ix_mc_86 : ix_mcode 86 ∈ ix_W := ix_mem (i := 188) ix_tab_3 rfl (ix_good_code _ _ _ _)
theorem ix_mc_87 : ix_mcode 87 ∈ ix_W := ix_mem (i := 192) ix_tab_3 rfl (ix_good_code _ _ _ _)
theorem ix_mc_88 : ix_mcode 88 ∈ ix_W := ix_mem (i := 196) ix_tab_3 rfl (ix_good_code _ _ _ _)
theorem ix_mc_89 : ix_mcode 89 ∈ ix_W := ix_mem (i := 213) ix_tab_3 rfl (ix_good_code _ _ _ _)
theorem ix_mc_90 : ix_mcode 90 ∈ ix_W := ix_mem (i := 217) ix_tab_3 rfl (ix_good_code _ _ _ _)
theorem ix_mc_91 : ix_mcode 91 ∈ ix_W := ix_mem (i := 221) ix_tab_3 rfl (ix_good_code _ _ _ _)
theorem ix_mc_92 : ix_mcode 92 ∈ ix_W := ix_mem (i := 226) ix_tab_3 rfl (ix_good_code _ _ _ _)
theorem ix_mc_93 : ix_mcode 93 ∈ ix_W := ix_mem (i := 230) ix_tab_3 rfl (ix_good_code _ _ _ _)
theorem ix_mc_94 : ix_mcode 94 ∈ ix_W := ix_mem (i := 4) ix_tab_4 rfl (ix_good_code _ _ _ _)
theorem ix_mc_95 : ix_mcode 95 ∈ ix_W := ix_mem (i := 8) ix_tab_4 rfl (ix_good_code _ _ _ _)
theorem ix_mc_96 : ix_mcode 96 ∈ ix_W := ix_mem (i := 13) ix_tab_4 rfl (ix_good_code _ _ _ _)
theorem ix_mc_97 : ix_mcode 97 ∈ ix_W := ix_mem (i := 21) ix_tab_4 rfl (ix_good_code _ _ _ _)
theorem ix_mc_98 : ix_mcode 98 ∈ ix_W := ix_mem (i := 25) ix_tab_4 rfl (ix_good_code _ _ _ _)
theorem ix_mc_99 : ix_mcode 99 ∈ ix_W := ix_mem (i := 29) ix_tab_4 rfl (ix_good_code _ _ _ _)
theorem ix_mc_100 : ix_mcode 100 ∈ ix_W := ix_mem (i := 34) ix_tab_4 rfl (ix_good_code _ _ _ _)
theorem ix_mc_101 : ix_mcode 101 ∈ ix_W := ix_mem (i := 38) ix_tab_4 rfl (ix_good_code _ _ _ _)
theorem ix_mc_102 : ix_mcode 102 ∈ ix_W := ix_mem (i := 42) ix_tab_4 rfl (ix_good_code _ _ _ _)
theorem ix_mc_103 : ix_mcode 103 ∈ ix_W := ix_mem (i := 46) ix_tab_4 rfl (ix_good_code _ _ _ _)
theorem ix_mc_104 : ix_mcode 104 ∈ ix_W := ix_mem (i := 51) ix_tab_4 rfl (ix_good_code _ _ _ _)
theorem ix_mc_105 : ix_mcode 105 ∈ ix_W := ix_mem (i := 55) ix_tab_4 rfl (ix_good_code _ _ _ _)
theorem ix_mc_106 : ix_mcode 106 ∈ ix_W := ix_mem (i := 59) ix_tab_4 rfl (ix_good_code _ _ _ _)
theorem ix_mc_107 : ix_mcode 107 ∈ ix_W := ix_mem (i := 63) ix_tab_4 rfl (ix_good_code _ _ _ _)
theorem ix_mc_108 : ix_mcode 108 ∈ ix_W := ix_mem (i := 67) ix_tab_4 rfl (ix_good_code _ _ _ _)
theorem ix_mc_109 : ix_mcode 109 ∈ ix_W := ix_mem (i := 71) ix_tab_4 rfl (ix_good_code _ _ _ _)
theorem ix_mc_110 : ix_mcode 110 ∈ ix_W := ix_mem (i := 75) ix_tab_4 rfl (ix_good_code _ _ _ _)
theorem ix_mc_111 : ix_mcode 111 ∈ ix_W := ix_mem (i := 79) ix_tab_4 rfl (ix_good_code _ _ _ _)
theorem ix_mc_112 : ix_mcode 112 ∈ ix_W := ix_mem (i := 83) ix_tab_4 rfl (ix_good_code _ _ _ _)
theorem ix_mc_113 : ix_mcode 113 ∈ ix_W := ix_mem (i := 87) ix_tab_4 rfl (ix_good_code _ _ _ _)
theorem ix_mc_114 : ix_mcode 114 ∈ ix_W := ix_mem (i := 91) ix_tab_4 rfl (ix_good_code _ _ _ _)
theorem ix_mc_115 : ix_mcode 115 ∈ ix_W := ix_mem (i := 95) ix_tab_4 rfl (ix_good_code _ _ _ _)
theorem ix_mc_116 : ix_mcode 116 ∈ ix_W := ix_mem (i := 99) ix_tab_4 rfl (ix_good_code _ _ _ _)
theorem ix_mc_117 : ix_mcode 117 ∈ ix_W := ix_mem (i := 103) ix_tab_4 rfl (ix_good_code _ _ _ _)
theorem ix_mc_118 : ix_mcode 118 ∈ ix_W := ix_mem (i := 107) ix_tab_4 rfl (ix_good_code _ _ _ _)
theorem ix_mc_119 : ix_mcode 119 ∈ ix_W := ix_mem (i := 111) ix_tab_4 rfl (ix_good_code _ _ _ _)
theorem ix_mc_120 : ix_mcode 120 ∈ ix_W := ix_mem (i := 115) ix_tab_4 rfl (ix_good_code _ _ _ _)
theorem ix_mc_121 : ix_mcode 121 ∈ ix_W := ix_mem (i := 119) ix_tab_4 rfl (ix_good_code _ _ _ _)
theorem ix_mc_122 : ix_mcode 122 ∈ ix_W := ix_mem (i := 123) ix_tab_4 rfl (ix_good_code _ _ _ _)
theorem ix_mc_123 : ix_mcode 123 ∈ ix_W := ix_mem (i := 127) ix_tab_4 rfl (ix_good_code _ _ _ _)
theorem ix_mc_124 : ix_mcode 124 ∈ ix_W := ix_mem (i := 131) ix_tab_4 rfl (ix_good_code _ _ _ _)
theorem ix_mc_125 : ix_mcode 125 ∈ ix_W := ix_mem (i := 135) ix_tab_4 rfl (ix_good_code _ _ _ _)
theorem ix_mc_126 : ix_mcode 126 ∈ ix_W := ix_mem (i := 209) ix_tab_4 rfl (ix_good_code _ _ _ _)
theorem ix_mc_127 : ix_mcode 127 ∈ ix_W := ix_mem (i := 213) ix_tab_4 rfl (ix_good_code _ _ _ _)
theorem ix_mc_128 : ix_mcode 128 ∈ ix_W := ix_mem (i := 216) ix_tab_4 rfl (ix_good_code _ _ _ _)
theorem ix_mc_129 : ix_mcode 129 ∈ ix_W := ix_mem (i := 220) ix_tab_4 rfl (ix_good_code _ _ _ _)
theorem ix_mc_130 : ix_mcode 130 ∈ ix_W := ix_mem (i := 9) ix_tab_5 rfl (ix_good_code _ _ _ _)
theorem ix_mc_131 : ix_mcode 131 ∈ ix_W := ix_mem (i := 33) ix_tab_5 rfl (ix_good_code _ _ _ _)
theorem ix_mc_132 : ix_mcode 132 ∈ ix_W := ix_mem (i := 38) ix_tab_5 rfl (ix_good_code _ _ _ _)
theorem ix_mc_133 : ix_mcode 133 ∈ ix_W := ix_mem (i := 116) ix_tab_5 rfl (ix_good_code _ _ _ _)
theorem ix_mc_134 : ix_mcode 134 ∈ ix_W := ix_mem (i := 119) ix_tab_5 rfl (ix_good_code _ _ _ _)
theorem ix_mc_135 : ix_mcode 135 ∈ ix_W := ix_mem (i := 123) ix_tab_5 rfl (ix_good_code _ _ _ _)
theorem ix_mc_136 : ix_mcode 136 ∈ ix_W := ix_mem (i := 127) ix_tab_5 rfl (ix_good_code _ _ _ _)
theorem ix_mc_137 : ix_mcode 137 ∈ ix_W := ix_mem (i := 131) ix_tab_5 rfl (ix_good_code _ _ _ _)
theorem ix_mc_138 : ix_mcode 138 ∈ ix_W := ix_mem (i := 136) ix_tab_5 rfl (ix_good_code _ _ _ _)
theorem ix_mc_139 : ix_mcode 139 ∈ ix_W := ix_mem (i := 140) ix_tab_5 rfl (ix_good_code _ _ _ _)
theorem ix_mc_140 : ix_mcode 140 ∈ ix_W := ix_mem (i := 146) ix_tab_5 rfl (ix_good_code _ _ _ _)
theorem ix_mc_141 : ix_mcode 141 ∈ ix_W := ix_mem (i := 150) ix_tab_5 rfl (ix_good_code _ _ _ _)
theorem ix_mc_142 : ix_mcode 142 ∈ ix_W := ix_mem (i := 156) ix_tab_5 rfl (ix_good_code _ _ _ _)
theorem ix_mc_143 : ix_mcode 143 ∈ ix_W := ix_mem (i := 160) ix_tab_5 rfl (ix_good_code _ _ _ _)
theorem ix_mc_144 : ix_mcode 144 ∈ ix_W := ix_mem (i := 164) ix_tab_5 rfl (ix_good_code _ _ _ _)
theorem ix_mc_145 : ix_mcode 145 ∈ ix_W := ix_mem (i := 168) ix_tab_5 rfl (ix_good_code _ _ _ _)
theorem ix_mc_146 : ix_mcode 146 ∈ ix_W := ix_mem (i := 172) ix_tab_5 rfl (ix_good_code _ _ _ _)
theorem ix_mc_147 : ix_mcode 147 ∈ ix_W := ix_mem (i := 177) ix_tab_5 rfl (ix_good_code _ _ _ _)
theorem ix_mc_148 : ix_mcode 148 ∈ ix_W := ix_mem (i := 183) ix_tab_5 rfl (ix_good_code _ _ _ _)
theorem ix_mc_149 : ix_mcode 149 ∈ ix_W := ix_mem (i := 187) ix_tab_5 rfl (ix_good_code _ _ _ _)
theorem ix_mc_150 : ix_mcode 150 ∈ ix_W := ix_mem (i := 191) ix_tab_5 rfl (ix_good_code _ _ _ _)
theorem ix_mc_151 : ix_mcode 151 ∈ ix_W := ix_mem (i := 195) ix_tab_5 rfl (ix_good_code _ _ _ _)
theorem ix_mc_152 : ix_mcode 152 ∈ ix_W := ix_mem (i := 199) ix_tab_5 rfl (ix_good_code _ _ _ _)
theorem ix_mc_153 : ix_mcode 153 ∈ ix_W := ix_mem (i := 203) ix_tab_5 rfl (ix_good_code _ _ _ _)
theorem ix_mc_154 : ix_mcode 154 ∈ ix_W := ix_mem (i := 207) ix_tab_5 rfl (ix_good_code _ _ _ _)
theorem ix_mc_155 : ix_mcode 155 ∈ ix_W := ix_mem (i := 211) ix_tab_5 rfl (ix_good_code _ _ _ _)
theorem ix_mc_156 : ix_mcode 156 ∈ ix_W := ix_mem (i := 215) ix_tab_5 rfl (ix_good_code _ _ _ _)
theorem ix_mc_157 : ix_mcode 157 ∈ ix_W := ix_mem (i := 218) ix_tab_5 rfl (ix_good_code _ _ _ _)
theorem ix_mc_158 : ix_mcode 158 ∈ ix_W := ix_mem (i := 222) ix_tab_5 rfl (ix_good_code _ _ _ _)
theorem ix_mc_159 : ix_mcode 159 ∈ ix_W := ix_mem (i := 226) ix_tab_5 rfl (ix_good_code _ _ _ _)
theorem ix_mc_160 : ix_mcode 160 ∈ ix_W := ix_mem (i := 230) ix_tab_5 rfl (ix_good_code _ _ _ _)
theorem ix_mc_161 : ix_mcode 161 ∈ ix_W := ix_mem (i := 234) ix_tab_5 rfl (ix_good_code _ _ _ _)
theorem ix_mc_162 : ix_mcode 162 ∈ ix_W := ix_mem (i := 238) ix_tab_5 rfl (ix_good_code _ _ _ _)
theorem ix_mc_163 : ix_mcode 163 ∈ ix_W := ix_mem (i := 2) ix_tab_6 rfl (ix_good_code _ _ _ _)
theorem ix_mc_164 : ix_mcode 164 ∈ ix_W := ix_mem (i := 6) ix_tab_6 rfl (ix_good_code _ _ _ _)
theorem ix_mc_165 : ix_mcode 165 ∈ ix_W := ix_mem (i := 10) ix_tab_6 rfl (ix_good_code _ _ _ _)
theorem ix_mc_166 : ix_mcode 166 ∈ ix_W := ix_mem (i := 14) ix_tab_6 rfl (ix_good_code _ _ _ _)
theorem ix_mc_167 : ix_mcode 167 ∈ ix_W := ix_mem (i := 18) ix_tab_6 rfl (ix_good_code _ _ _ _)
theorem ix_mc_168 : ix_mcode 168 ∈ ix_W := ix_mem (i := 22) ix_tab_6 rfl (ix_good_code _ _ _ _)
theorem ix_mc_169 : ix_mcode 169 ∈ ix_W := ix_mem (i := 26) ix_tab_6 rfl (ix_good_code _ _ _ _)
theorem ix_mc_170 : ix_mcode 170 ∈ ix_W := ix_mem (i := 30) ix_tab_6 rfl (ix_good_code _ _ _ _)
theorem ix_mc_171 : ix_mcode 171 ∈ ix_W := ix_mem (i := 34) ix_tab_6 rfl (ix_good_code _ _ _ _)
theorem ix_mc_172 : ix_mcode 172 ∈ ix_W := ix_mem (i := 38) ix_tab_6 rfl (ix_good_code _ _ _ _)
theorem ix_mc_173 : ix_mcode 173 ∈ ix_W := ix_mem (i := 42) ix_tab_6 rfl (ix_good_code _ _ _ _)
theorem ix_mc_174 : ix_mcode 174 ∈ ix_W := ix_mem (i := 46) ix_tab_6 rfl (ix_good_code _ _ _ _)
theorem ix_mc_175 : ix_mcode 175 ∈ ix_W := ix_mem (i := 50) ix_tab_6 rfl (ix_good_code _ _ _ _)
theorem ix_mc_176 : ix_mcode 176 ∈ ix_W := ix_mem (i := 54) ix_tab_6 rfl (ix_good_code _ _ _ _)
theorem ix_mc_177 : ix_mcode 177 ∈ ix_W := ix_mem (i := 58) ix_tab_6 rfl (ix_good_code _ _ _ _)
theorem ix_mc_178 : ix_mcode 178 ∈ ix_W := ix_mem (i := 62) ix_tab_6 rfl (ix_good_code _ _ _ _)
theorem ix_mc_179 : ix_mcode 179 ∈ ix_W := ix_mem (i := 66) ix_tab_6 rfl (ix_good_code _ _ _ _)
theorem ix_mc_180 : ix_mcode 180 ∈ ix_W := ix_mem (i := 70) ix_tab_6 rfl (ix_good_code _ _ _ _)
theorem ix_mc_181 : ix_mcode 181 ∈ ix_W := ix_mem (i := 74) ix_tab_6 rfl (ix_good_code _ _ _ _)
theorem ix_mc_182 : ix_mcode 182 ∈ ix_W := ix_mem (i := 78) ix_tab_6 rfl (ix_good_code _ _ _ _)
theorem ix_mc_183 : ix_mcode 183 ∈ ix_W := ix_mem (i := 82) ix_tab_6 rfl (ix_good_code _ _ _ _)
theorem ix_mc_184 : ix_mcode 184 ∈ ix_W := ix_mem (i := 86) ix_tab_6 rfl (ix_good_code _ _ _ _)
theorem ix_mc_185 : ix_mcode 185 ∈ ix_W := ix_mem (i := 90) ix_tab_6 rfl (ix_good_code _ _ _ _)
theorem ix_mc_186 : ix_mcode 186 ∈ ix_W := ix_mem (i := 94) ix_tab_6 rfl (ix_good_code _ _ _ _)
theorem ix_mc_187 : ix_mcode 187 ∈ ix_W := ix_mem (i := 98) ix_tab_6 rfl (ix_good_code _ _ _ _)
theorem ix_mc_188 : ix_mcode 188 ∈ ix_W := ix_mem (i := 102) ix_tab_6 rfl (ix_good_code _ _ _ _)
theorem ix_mc_189 : ix_mcode 189 ∈ ix_W := ix_mem (i := 107) ix_tab_6 rfl (ix_good_code _ _ _ _)
theorem ix_mc_190 : ix_mcode 190 ∈ ix_W := ix_mem (i := 111) ix_tab_6 rfl (ix_good_code _ _ _ _)
theorem ix_mc_191 : ix_mcode 191 ∈ ix_W := ix_mem (i := 115) ix_tab_6 rfl (ix_good_code _ _ _ _)
theorem ix_mc_192 : ix_mcode 192 ∈ ix_W := ix_mem (i := 119) ix_tab_6 rfl (ix_good_code _ _ _ _)
theorem ix_mc_193 : ix_mcode 193 ∈ ix_W := ix_mem (i := 123) ix_tab_6 rfl (ix_good_code _ _ _ _)
theorem ix_mc_194 : ix_mcode 194 ∈ ix_W := ix_mem (i := 127) ix_tab_6 rfl (ix_good_code _ _ _ _)
theorem ix_mc_195 : ix_mcode 195 ∈ ix_W := ix_mem (i := 131) ix_tab_6 rfl (ix_good_code _ _ _ _)
theorem ix_mc_196 : ix_mcode 196 ∈ ix_W := ix_mem (i := 135) ix_tab_6 rfl (ix_good_code _ _ _ _)
theorem ix_mc_197 : ix_mcode 197 ∈ ix_W := ix_mem (i := 139) ix_tab_6 rfl (ix_good_code _ _ _ _)
theorem ix_mc_198 : ix_mcode 198 ∈ ix_W := ix_mem (i := 143) ix_tab_6 rfl (ix_good_code _ _ _ _)
theorem ix_mc_199 : ix_mcode 199 ∈ ix_W := ix_mem (i := 147) ix_tab_6 rfl (ix_good_code _ _ _ _)
theorem ix_mc_200 : ix_mcode 200 ∈ ix_W := ix_mem (i := 151) ix_tab_6 rfl (ix_good_code _ _ _ _)
theorem ix_mc_201 : ix_mcode 201 ∈ ix_W := ix_mem (i := 155) ix_tab_6 rfl (ix_good_code _ _ _ _)
theorem ix_mc_202 : ix_mcode 202 ∈ ix_W := ix_mem (i := 159) ix_tab_6 rfl (ix_good_code _ _ _ _)
theorem ix_mc_203 : ix_mcode 203 ∈ ix_W := ix_mem (i := 163) ix_tab_6 rfl (ix_good_code _ _ _ _)
theorem ix_mc_204 : ix_mcode 204 ∈ ix_W := ix_mem (i := 168) ix_tab_6 rfl (ix_good_code _ _ _ _)
theorem ix_mc_205 : ix_mcode 205 ∈ ix_W := ix_mem (i := 172) ix_tab_6 rfl (ix_good_code _ _ _ _)
theorem ix_mc_206 : ix_mcode 206 ∈ ix_W := ix_mem (i := 176) ix_tab_6 rfl (ix_good_code _ _ _ _)
theorem ix_mc_207 : ix_mcode 207 ∈ ix_W := ix_mem (i := 180) ix_tab_6 rfl (ix_good_code _ _ _ _)
theorem ix_mc_208 : ix_mcode 208 ∈ ix_W := ix_mem (i := 184) ix_tab_6 rfl (ix_good_code _ _ _ _)
theorem ix_mc_209 : ix_mcode 209 ∈ ix_W := ix_mem (i := 188) ix_tab_6 rfl (ix_good_code _ _ _ _)
theorem ix_mc_210 : ix_mcode 210 ∈ ix_W := ix_mem (i := 192) ix_tab_6 rfl (ix_good_code _ _ _ _)
theorem ix_mc_211 : ix_mcode 211 ∈ ix_W := ix_mem (i := 196) ix_tab_6 rfl (ix_good_code _ _ _ _)
theorem ix_mc_212 : ix_mcode 212 ∈ ix_W := ix_mem (i := 199) ix_tab_6 rfl (ix_good_code _ _ _ _)
theorem ix_mc_213 : ix_mcode 213 ∈ ix_W := ix_mem (i := 203) ix_tab_6 rfl (ix_good_code _ _ _ _)
theorem ix_mc_214 : ix_mcode 214 ∈ ix_W := ix_mem (i := 207) ix_tab_6 rfl (ix_good_code _ _ _ _)
theorem ix_mc_215 : ix_mcode 215 ∈ ix_W := ix_mem (i := 211) ix_tab_6 rfl (ix_good_code _ _ _ _)
theorem ix_mc_216 : ix_mcode 216 ∈ ix_W := ix_mem (i := 215) ix_tab_6 rfl (ix_good_code _ _ _ _)
theorem ix_mc_217 : ix_mcode 217 ∈ ix_W := ix_mem (i := 219) ix_tab_6 rfl (ix_good_code _ _ _ _)
theorem ix_mc_218 : ix_mcode 218 ∈ ix_W := ix_mem (i := 223) ix_tab_6 rfl (ix_good_code _ _ _ _)
theorem ix_mc_219 : ix_mcode 219 ∈ ix_W := ix_mem (i := 227) ix_tab_6 rfl (ix_good_code _ _ _ _)
theorem ix_mc_220 : ix_mcode 220 ∈ ix_W := ix_mem (i := 231) ix_tab_6 rfl (ix_good_code _ _ _ _)
theorem ix_mc_221 : ix_mcode 221 ∈ ix_W := ix_mem (i := 235) ix_tab_6 rfl (ix_good_code _ _ _ _)
theorem ix_mc_222 : ix_mcode 222 ∈ ix_W := ix_mem (i := 239) ix_tab_6 rfl (ix_good_code _ _ _ _)
theorem ix_mc_223 : ix_mcode 223 ∈ ix_W := ix_mem (i := 3) ix_tab_7 rfl (ix_good_code _ _ _ _)
theorem ix_mc_224 : ix_mcode 224 ∈ ix_W := ix_mem (i := 37) ix_tab_2 rfl (ix_good_code _ _ _ _)
theorem ix_mc_225 : ix_mcode 225 ∈ ix_W := ix_mem (i := 41) ix_tab_2 rfl (ix_good_code _ _ _ _)
theorem ix_mc_226 : ix_mcode 226 ∈ ix_W := ix_mem (i := 47) ix_tab_2 rfl (ix_good_code _ _ _ _)
theorem ix_mc_227 : ix_mcode 227 ∈ ix_W := ix_mem (i := 51) ix_tab_2 rfl (ix_good_code _ _ _ _)
theorem ix_mc_228 : ix_mcode 228 ∈ ix_W := ix_mem (i := 57) ix_tab_2 rfl (ix_good_code _ _ _ _)
theorem ix_mc_229 : ix_mcode 229 ∈ ix_W := ix_mem (i := 113) ix_tab_2 rfl (ix_good_code _ _ _ _)
theorem ix_mc_230 : ix_mcode 230 ∈ ix_W := ix_mem (i := 117) ix_tab_2 rfl (ix_good_code _ _ _ _)
theorem ix_mc_231 : ix_mcode 231 ∈ ix_W := ix_mem (i := 54) ix_tab_2 rfl (ix_good_code _ _ _ _)
theorem ix_mc_232 : ix_mcode 232 ∈ ix_W := ix_mem (i := 121) ix_tab_2 rfl (ix_good_code _ _ _ _)
theorem ix_mc_233 : ix_mcode 233 ∈ ix_W := ix_mem (i := 124) ix_tab_2 rfl (ix_good_code _ _ _ _)
theorem ix_mc_234 : ix_mcode 234 ∈ ix_W := ix_mem (i := 129) ix_tab_2 rfl (ix_good_code _ _ _ _)
theorem ix_mc_235 : ix_mcode 235 ∈ ix_W := ix_mem (i := 62) ix_tab_2 rfl (ix_good_code _ _ _ _)
theorem ix_mcw_0 : ∀ k, k < 40 → ix_mcode (0 + k) ∈ ix_W := by
  intro k hk
  match k, hk with
  | 0, _ => exact ix_mc_0
  | 1, _ => exact ix_mc_1
  | 2, _ => exact ix_mc_2
  | 3, _ => exact ix_mc_3
  | 4, _ => exact ix_mc_4
  | 5, _ => exact ix_mc_5
  | 6, _ => exact ix_mc_6
  | 7, _ => exact ix_mc_7
  | 8, _ => exact ix_mc_8
  | 9, _ => exact ix_mc_9
  | 10, _ => exact ix_mc_10
  | 11, _ => exact ix_mc_11
  | 12, _ => exact ix_mc_12
  | 13, _ => exact ix_mc_13
  | 14, _ => exact ix_mc_14
  | 15, _ => exact ix_mc_15
  | 16, _ => exact ix_mc_16
  | 17, _ => exact ix_mc_17
  | 18, _ => exact ix_mc_18
  | 19, _ => exact ix_mc_19
  | 20, _ => exact ix_mc_20
  | 21, _ => exact ix_mc_21
  | 22, _ => exact ix_mc_22
  | 23, _ => exact ix_mc_23
  | 24, _ => exact ix_mc_24
  | 25, _ => exact ix_mc_25
  | 26, _ => exact ix_mc_26
  | 27, _ => exact ix_mc_27
  | 28, _ => exact ix_mc_28
  | 29, _ => exact ix_mc_29
  | 30, _ => exact ix_mc_30
  | 31, _ => exact ix_mc_31
  | 32, _ => exact ix_mc_32
  | 33, _ => exact ix_mc_33
  | 34, _ => exact ix_mc_34
  | 35, _ => exact ix_mc_35
  | 36, _ => exact ix_mc_36
  | 37, _ => exact ix_mc_37
  | 38, _ => exact ix_mc_38
  | 39, _ => exact ix_mc_39
  | n + 40, h => omega
theorem ix_mcw_1 : ∀ k, k < 40 → ix_mcode (40 + k) ∈ ix_W := by
  intro k hk
  match k, hk with
  | 0, _ => exact ix_mc_40
  | 1, _ => exact ix_mc_41
  | 2, _ => exact ix_mc_42
  | 3, _ => exact ix_mc_43
  | 4, _ => exact ix_mc_44
  | 5, _ => exact ix_mc_45
  | 6, _ => exact ix_mc_46
  | 7, _ => exact ix_mc_47
  | 8, _ => exact ix_mc_48
  | 9, _ => exact ix_mc_49
  | 10, _ => exact ix_mc_50
  | 11, _ => exact ix_mc_51
  | 12, _ => exact ix_mc_52
  | 13, _ => exact ix_mc_53
  | 14, _ => exact ix_mc_54
  | 15, _ => exact ix_mc_55
  | 16, _ => exact ix_mc_56
  | 17, _ => exact ix_mc_57
  | 18, _ => exact ix_mc_58
  | 19, _ => exact ix_mc_59
  | 20, _ => exact ix_mc_60
  | 21, _ => exact ix_mc_61
  | 22, _ => exact ix_mc_62
  | 23, _ => exact ix_mc_63
  | 24, _ => exact ix_mc_64
  | 25, _ => exact ix_mc_65
  | 26, _ => exact ix_mc_66
  | 27, _ => exact ix_mc_67
  | 28, _ => exact ix_mc_68
  | 29, _ => exact ix_mc_69
  | 30, _ => exact ix_mc_70
  | 31, _ => exact ix_mc_71
  | 32, _ => exact ix_mc_72
  | 33, _ => exact ix_mc_73
  | 34, _ => exact ix_mc_74
  | 35, _ => exact ix_mc_75
  | 36, _ => exact ix_mc_76
  | 37, _ => exact ix_mc_77
  | 38, _ => exact ix_mc_78
  | 39, _ => exact ix_mc_79
  | n + 40, h => omega
theorem ix_mcw_2 : ∀ k, k < 40 → ix_mcode (80 + k) ∈ ix_W := by
  intro k hk
  match k, hk with
  | 0, _ => exact ix_mc_80
  | 1, _ => exact ix_mc_81
  | 2, _ => exact ix_mc_82
  | 3, _ => exact ix_mc_83
  | 4, _ => exact ix_mc_84
  | 5, _ => exact ix_mc_85
  | 6, _ => exact ix_mc_86
  | 7, _ => exact ix_mc_87
  | 8, _ => exact ix_mc_88
  | 9, _ => exact ix_mc_89
  | 10, _ => exact ix_mc_90
  | 11, _ => exact ix_mc_91
  | 12, _ => exact ix_mc_92
  | 13, _ => exact ix_mc_93
  | 14, _ => exact ix_mc_94
  | 15, _ => exact ix_mc_95
  | 16, _ => exact ix_mc_96
  | 17, _ => exact ix_mc_97
  | 18, _ => exact ix_mc_98
  | 19, _ => exact ix_mc_99
  | 20, _ => exact ix_mc_100
  | 21, _ => exact ix_mc_101
  | 22, _ => exact ix_mc_102
  | 23, _ => exact ix_mc_103
  | 24, _ => exact ix_mc_104
  | 25, _ => exact ix_mc_105
  | 26, _ => exact ix_mc_106
  | 27, _ => exact ix_mc_107
  | 28, _ => exact ix_mc_108
  | 29, _ => exact ix_mc_109
  | 30, _ => exact ix_mc_110
  | 31, _ => exact ix_mc_111
  | 32, _ => exact ix_mc_112
  | 33, _ => exact ix_mc_113
  | 34, _ => exact ix_mc_114
  | 35, _ => exact ix_mc_115
  | 36, _ => exact ix_mc_116
  | 37, _ => exact ix_mc_117
  | 38, _ => exact ix_mc_118
  | 39, _ => exact ix_mc_119
  | n + 40, h => omega
theorem ix_mcw_3 : ∀ k, k < 40 → ix_mcode (120 + k) ∈ ix_W := by
  intro k hk
  match k, hk with
  | 0, _ => exact ix_mc_120
  | 1, _ => exact ix_mc_121
  | 2, _ => exact ix_mc_122
  | 3, _ => exact ix_mc_123
  | 4, _ => exact ix_mc_124
  | 5, _ => exact ix_mc_125
  | 6, _ => exact ix_mc_126
  | 7, _ => exact ix_mc_127
  | 8, _ => exact ix_mc_128
  | 9, _ => exact ix_mc_129
  | 10, _ => exact ix_mc_130
  | 11, _ => exact ix_mc_131
  | 12, _ => exact ix_mc_132
  | 13, _ => exact ix_mc_133
  | 14, _ => exact ix_mc_134
  | 15, _ => exact ix_mc_135
  | 16, _ => exact ix_mc_136
  | 17, _ => exact ix_mc_137
  | 18, _ => exact ix_mc_138
  | 19, _ => exact ix_mc_139
  | 20, _ => exact ix_mc_140
  | 21, _ => exact ix_mc_141
  | 22, _ => exact ix_mc_142
  | 23, _ => exact ix_mc_143
  | 24, _ => exact ix_mc_144
  | 25, _ => exact ix_mc_145
  | 26, _ => exact ix_mc_146
  | 27, _ => exact ix_mc_147
  | 28, _ => exact ix_mc_148
  | 29, _ => exact ix_mc_149
  | 30, _ => exact ix_mc_150
  | 31, _ => exact ix_mc_151
  | 32, _ => exact ix_mc_152
  | 33, _ => exact ix_mc_153
  | 34, _ => exact ix_mc_154
  | 35, _ => exact ix_mc_155
  | 36, _ => exact ix_mc_156
  | 37, _ => exact ix_mc_157
  | 38, _ => exact ix_mc_158
  | 39, _ => exact ix_mc_159
  | n + 40, h => omega
theorem ix_mcw_4 : ∀ k, k < 40 → ix_mcode (160 + k) ∈ ix_W := by
  intro k hk
  match k, hk with
  | 0, _ => exact ix_mc_160
  | 1, _ => exact ix_mc_161
  | 2, _ => exact ix_mc_162
  | 3, _ => exact ix_mc_163
  | 4, _ => exact ix_mc_164
  | 5, _ => exact ix_mc_165
  | 6, _ => exact ix_mc_166
  | 7, _ => exact ix_mc_167
  | 8, _ => exact ix_mc_168
  | 9, _ => exact ix_mc_169
  | 10, _ => exact ix_mc_170
  | 11, _ => exact ix_mc_171
  | 12, _ => exact ix_mc_172
  | 13, _ => exact ix_mc_173
  | 14, _ => exact ix_mc_174
  | 15, _ => exact ix_mc_175
  | 16, _ => exact ix_mc_176
  | 17, _ => exact ix_mc_177
  | 18, _ => exact ix_mc_178
  | 19, _ => exact ix_mc_179
  | 20, _ => exact ix_mc_180
  | 21, _ => exact ix_mc_181
  | 22, _ => exact ix_mc_182
  | 23, _ => exact ix_mc_183
  | 24, _ => exact ix_mc_184
  | 25, _ => exact ix_mc_185
  | 26, _ => exact ix_mc_186
  | 27, _ => exact ix_mc_187
  | 28, _ => exact ix_mc_188
  | 29, _ => exact ix_mc_189
  | 30, _ => exact ix_mc_190
  | 31, _ => exact ix_mc_191
  | 32, _ => exact ix_mc_192
  | 33, _ => exact ix_mc_193
  | 34, _ => exact ix_mc_194
  | 35, _ => exact ix_mc_195
  | 36, _ => exact ix_mc_196
  | 37, _ => exact ix_mc_197
  | 38, _ => exact ix_mc_198
  | 39, _ => exact ix_mc_199
  | n + 40, h => omega
theorem ix_mcw_5 : ∀ k, k < 36 → ix_mcode (200 + k) ∈ ix_W := by
  intro k hk
  match k, hk with
  | 0, _ => exact ix_mc_200
  | 1, _ => exact ix_mc_201
  | 2, _ => exact ix_mc_202
  | 3, _ => exact ix_mc_203
  | 4, _ => exact ix_mc_204
  | 5, _ => exact ix_mc_205
  | 6, _ => exact ix_mc_206
  | 7, _ => exact ix_mc_207
  | 8, _ => exact ix_mc_208
  | 9, _ => exact ix_mc_209
  | 10, _ => exact ix_mc_210
  | 11, _ => exact ix_mc_211
  | 12, _ => exact ix_mc_212
  | 13, _ => exact ix_mc_213
  | 14, _ => exact ix_mc_214
  | 15, _ => exact ix_mc_215
  | 16, _ => exact ix_mc_216
  | 17, _ => exact ix_mc_217
  | 18, _ => exact ix_mc_218
  | 19, _ => exact ix_mc_219
  | 20, _ => exact ix_mc_220
  | 21, _ => exact ix_mc_221
  | 22, _ => exact ix_mc_222
  | 23, _ => exact ix_mc_223
  | 24, _ => exact ix_mc_224
  | 25, _ => exact ix_mc_225
  | 26, _ => exact ix_mc_226
  | 27, _ => exact ix_mc_227
  | 28, _ => exact ix_mc_228
  | 29, _ => exact ix_mc_229
  | 30, _ => exact ix_mc_230
  | 31, _ => exact ix_mc_231
  | 32, _ => exact ix_mc_232
  | 33, _ => exact ix_mc_233
  | 34, _ => exact ix_mc_234
  | 35, _ => exact ix_mc_235
  | n + 36, h => omega
theorem ix_mcode_W {j : Nat} (h : j < 236) : ix_mcode j ∈ ix_W := by
  rcases (show j < 40 ∨ (40 ≤ j ∧ j < 80) ∨ (80 ≤ j ∧ j < 120) ∨ (120 ≤ j ∧ j < 160) ∨ (160 ≤ j ∧ j < 200) ∨ (200 ≤ j ∧ j < 236) by omega) with q | q | q | q | q | q
  · have := ix_mcw_0 (j - 0) (by omega); rwa [show 0 + (j - 0) = j by omega] at this
  · have := ix_mcw_1 (j - 40) (by omega); rwa [show 40 + (j - 40) = j by omega] at this
  · have := ix_mcw_2 (j - 80) (by omega); rwa [show 80 + (j - 80) = j by omega] at this
  · have := ix_mcw_3 (j - 120) (by omega); rwa [show 120 + (j - 120) = j by omega] at this
  · have := ix_mcw_4 (j - 160) (by omega); rwa [show 160 + (j - 160) = j by omega] at this
  · have := ix_mcw_5 (j - 200) (by omega); rwa [show 200 + (j - 200) = j by omega] at this
def ix_iwt : List (Option (Nat × Nat)) := [some (3, 26), some (3, 72), some (4, 141), some (3, 16), some (3, 96), some (4, 186), some (3, 6), some (3, 103), some (4, 197), some (1, 68), some (2, 14), some (2, 23), some (2, 27), some (2, 32), some (2, 84), some (2, 88), some (2, 92), some (2, 99), some (2, 103), some (2, 107), some (2, 168), some (3, 88), some (1, 32), some (1, 167), some (1, 171), some (1, 234), some (2, 6), some (2, 171), some (3, 157), some (5, 1), some (5, 11), some (1, 106), some (2, 183), some (2, 193), some (3, 78), some (3, 82), some (2, 202), some (3, 99), some (4, 148), some (2, 236), some (3, 75), some (4, 163), some (3, 36), some (3, 117), some (3, 145), some (4, 172), some (4, 231), some (5, 24), some (2, 205), some (3, 111), some (3, 68), some (3, 125), some (4, 137), some (4, 159), some (4, 181), some (4, 222), some (5, 15), some (1, 145), some (3, 198), some (3, 203), some (3, 232), some (3, 238), some (4, 15), some (1, 24), some (1, 227), none, some (1, 238), some (2, 3), some (2, 11), some (2, 176), some (2, 180), some (2, 188), none, some (3, 56), some (3, 61), some (3, 65), some (3, 137), some (3, 141), some (3, 149), some (3, 153), some (3, 161), some (3, 166), some (3, 169), some (3, 173), some (3, 178), some (3, 182), some (3, 186), some (3, 190), some (3, 195), some (3, 212), some (3, 216), some (3, 220), some (3, 224), some (3, 228), some (4, 2), some (4, 7), some (4, 12), some (4, 20), some (4, 24), some (4, 28), some (4, 32), some (4, 36), some (4, 41), some (4, 44), some (4, 49), some (4, 53), some (4, 57), some (4, 62), some (4, 65), some (4, 69), some (4, 73), some (4, 77), some (4, 81), some (4, 85), some (4, 89), some (4, 93), some (4, 97), some (4, 101), none, some (4, 109), some (4, 113), some (4, 117), some (4, 122), some (4, 125), some (4, 129), some (4, 133), some (4, 207), some (4, 211), none, some (4, 218), some (5, 7), some (5, 31), some (5, 37), some (5, 114), none, some (5, 121), some (5, 126), some (5, 130), some (5, 135), some (5, 139), some (5, 145), some (5, 149), some (5, 155), some (5, 159), some (5, 163), some (5, 167), some (5, 171), some (5, 176), some (5, 182), some (5, 185), some (5, 189), some (5, 194), some (5, 198), some (5, 202), some (5, 206), some (5, 210), some (5, 214), none, some (5, 221), some (5, 225), some (5, 229), some (5, 232), some (5, 236), some (6, 0), some (6, 4), some (6, 9), some (6, 12), some (6, 16), some (6, 20), some (6, 24), some (6, 28), some (6, 32), some (6, 36), some (6, 41), some (6, 45), some (6, 49), some (6, 53), some (6, 57), some (6, 61), some (6, 65), some (6, 68), some (6, 72), some (6, 77), some (6, 80), some (6, 85), some (6, 89), some (6, 93), some (6, 96), some (6, 100), some (6, 106), some (6, 109), some (6, 113), some (6, 117), some (6, 121), some (6, 125), some (6, 129), some (6, 133), some (6, 137), some (6, 141), some (6, 145), some (6, 149), some (6, 153), some (6, 157), some (6, 161), none, some (6, 170), some (6, 174), some (6, 178), some (6, 182), some (6, 186), some (6, 190), some (6, 195), none, some (6, 202), some (6, 206), some (6, 210), some (6, 214), some (6, 218), some (6, 222), some (6, 225), some (6, 229), some (6, 233), some (6, 237), some (7, 1), some (2, 35), some (2, 39), some (2, 45), some (2, 49), none, some (2, 111), some (2, 115), none, none, none, none, none]
def ix_mok (j n : Nat) : Bool := decide (j < 236) && decide ((parseMethodDescriptor (ix_y j).desc).map (fun d => d.parameters.length) = some n)
def ix_x (j : Nat) (C : String) : MethodName := ⟨C, (ix_y j).name, (ix_y j).desc⟩
def ix_xc (kd : Nat) : String := ix_R ((kd - 100) / 20)
def ix_xo (kd : Nat) : String := ix_R ((kd - 100) % 20)
/-- the words of a target of a virtual call -/
def ix_tw (o i : Nat) (e : Nat × Nat × Nat) : List Cond := match e with
  | (c, j, kd) => if kd = 4 then [.instanceMethod (ix_y j), .methodLink (ix_R o) i (ix_y j), .selects (ix_R c) (ix_y j) (ix_y j), .initialized (ix_R c)]
    else [.instanceMethod (ix_y j), .methodLink (ix_R o) i (ix_x j (ix_xc kd)), .sameMethod (ix_xc kd) (ix_xo kd) (ix_y j).name (ix_y j).desc, .selects (ix_R c) (ix_x j (ix_xc kd)) (ix_y j), .initialized (ix_y j).cls]
def ix_tchk (n : Nat) (e : Nat × Nat × Nat) : Bool := match e with
  | (c, j, kd) => ix_mok j n && decide (c < 13) && (if kd = 4 then ix_R c == (ix_y j).cls
    else ix_xo kd != "java/lang/invoke/MethodHandle" && ix_xo kd != "java/lang/invoke/VarHandle" && (decide (Cond.declares (ix_x j (ix_xo kd)) ∈ ix_nws) || (List.range 236).any (fun j' => decide (ix_y j' = ix_x j (ix_xo kd)) && (match ix_iwt[j']? with
      | some (some q) => ix_pw (.instanceMethod (ix_x j (ix_xo kd))) q
      | _ => false))))
def ix_sw (o i k : Nat) (e : Nat × Nat × Nat) : List Cond := match e with
  | (_, j, xc) => if k = 3 then [.instanceMethod (ix_y j), .initialized (ix_y j).cls, .methodLink (ix_R o) i (ix_y j), .sameMethod (ix_y j).cls (ix_y j).cls (ix_y j).name (ix_y j).desc, .superclass (ix_R o) (ix_y j).cls]
    else [.instanceMethod (ix_y j), .initialized (ix_y j).cls, .methodLink (ix_R o) i (ix_x j (ix_R xc)), .sameMethod (ix_R xc) (ix_y j).cls (ix_y j).name (ix_y j).desc, .superclass (ix_R o) (ix_R xc), .superclass (ix_R xc) (ix_y j).cls]
/-- the words of a call -/
def ix_cw (e : Nat × Nat × Nat × Nat × List (Nat × Nat × Nat)) : List Cond := match e with
  | (o, i, k, _, tg) =>
    if k = 0 then tg.flatMap fun e => [.methodLink (ix_R o) i (ix_y e.2.1), .static (ix_y e.2.1), .initialized (ix_y e.2.1).cls]
    else if k = 1 then tg.flatMap fun e => [.methodLink (ix_R o) i (ix_y e.2.1), .instanceMethod (ix_y e.2.1), .initialized (ix_y e.2.1).cls]
    else if k = 2 then tg.flatMap fun e => [.instanceMethod (ix_y e.2.1), .initialized (ix_y e.2.1).cls]
    else if k = 3 ∨ k = 9 then tg.flatMap (ix_sw o i k)
    else if k = 4 then tg.flatMap (ix_tw o i)
    else if k = 6 then tg.flatMap fun e => [.methodLink (ix_R o) i (ix_y e.2.1), .instanceMethod (ix_y e.2.1), .selects "java/lang/String" (ix_y e.2.1) (ix_y e.2.1), .initialized "java/lang/String"]
    else if k = 7 then [.methodLink (ix_R o) i Lib.objectInit, .instanceMethod Lib.objectInit, .code Lib.objectInit ⟨#[0xb1]⟩ 1 none]
    else if k = 8 then [.methodLink (ix_R o) i arraycopyName, .native arraycopyName, .static arraycopyName, .initialized "java/lang/System"]
    else if k = 10 then [.methodLink (ix_R o) i Lib.Math.max.name, .static Lib.Math.max.name, .initialized "java/lang/Math", .code Lib.Math.max.name Lib.Math.max.code 2 (some .int)]
    else if k = 11 then [.methodLink (ix_R o) i Lib.Math.min.name, .static Lib.Math.min.name, .initialized "java/lang/Math", .code Lib.Math.min.name Lib.Math.min.code 2 (some .int)]
    else if k = 12 then [.methodLink (ix_R o) i Lib.Math.abs.name, .static Lib.Math.abs.name, .initialized "java/lang/Math", .code Lib.Math.abs.name Lib.Math.abs.code 1 (some .int)]
    else []
/-- what else a call rests on -/
def ix_cchk (e : Nat × Nat × Nat × Nat × List (Nat × Nat × Nat)) : Bool := match e with
  | (o, i, k, n, tg) =>
    if k = 0 then tg.all fun e => ix_mok e.2.1 n
    else if k = 1 then tg.all fun e => ix_mok e.2.1 n && (ix_y e.2.1).name == "<init>" && decide (ix_rt e.2.1 = none)
    else if k = 2 then tg.all fun e => ix_mok e.2.1 n && (ix_y e.2.1).name == "<init>" && decide (ix_rt e.2.1 = none) && decide (Cond.methodLinkNest (ix_R o) i (ix_y e.2.1) "TreeToTree" ∈ ix_nws)
    else if k = 3 ∨ k = 9 then tg.all fun e => ix_mok e.2.1 n && decide (e.1 < 13) && (ix_y e.2.1).name != "<init>"
    else if k = 4 then tg.all (ix_tchk n)
    else if k = 6 then tg.all fun e => ix_mok e.2.1 n && (ix_y e.2.1).cls == "java/lang/String"
    else true
def ix_cps : List (List (Nat × Nat)) := [
  [(3, 28), (2, 236), (1, 15)],
  [(3, 75), (1, 15), (3, 74), (7, 4), (3, 32)],
  [(3, 94), (1, 36), (1, 3), (1, 37)],
  [(1, 167), (4, 143), (1, 168), (1, 2)],
  [(4, 137), (1, 13), (4, 144), (4, 145), (3, 32), (3, 2)],
  [(3, 18), (2, 202), (1, 14)],
  [(3, 99), (1, 14), (3, 98), (7, 5), (3, 22)],
  [(1, 167), (4, 188), (1, 168), (1, 2)],
  [(4, 181), (1, 13), (4, 189), (4, 190), (3, 22), (2, 232)],
  [(4, 148), (4, 192), (4, 193), (4, 195), (1, 14)],
  [(3, 8), (2, 205), (1, 13)],
  [(3, 68), (1, 13), (3, 105), (3, 70), (3, 12), (3, 68), (1, 13), (3, 105), (3, 70), (3, 12)],
  [(3, 111), (3, 106), (3, 107), (3, 109), (1, 13), (3, 111), (3, 106), (3, 107), (3, 110), (1, 13)],
  [(1, 167), (4, 199), (1, 168), (1, 2)],
  [(4, 181), (1, 13), (4, 200), (4, 183), (3, 12), (4, 181), (1, 13), (4, 200), (4, 183), (3, 12)],
  [(1, 70), (1, 27), (1, 28)],
  [(2, 17), (2, 18), (1, 3), (2, 19)],
  [(2, 6), (2, 20), (2, 7), (1, 2)],
  [(2, 23), (2, 21), (0, 2), (1, 4)],
  [(2, 27), (2, 25), (0, 3), (1, 4)],
  [(2, 84), (2, 82), (0, 5), (1, 4)],
  [(2, 32), (2, 30), (0, 4), (1, 4)],
  [(2, 99), (2, 97), (0, 8), (1, 4)],
  [(2, 168), (2, 166), (0, 11), (1, 4)],
  [(2, 34), (2, 35), (2, 36), (1, 8)],
  [(2, 44), (2, 45), (2, 46), (1, 8)],
  [(2, 88), (2, 86), (0, 6), (1, 4)],
  [(2, 92), (2, 90), (0, 7), (1, 4)],
  [(2, 103), (2, 101), (0, 9), (1, 4)],
  [(2, 107), (2, 105), (0, 10), (1, 4)],
  [(2, 110), (2, 111), (2, 112), (1, 8)],
  [(1, 34), (1, 27), (1, 28)],
  [(1, 35), (1, 36), (1, 3), (1, 37)],
  [(5, 4), (2, 18), (1, 3), (2, 19)],
  [(5, 5), (4, 238), (4, 237), (1, 20)],
  [(1, 108), (1, 27), (1, 28)],
  [(3, 85), (2, 18), (1, 3), (2, 19)],
  [(3, 86), (1, 36), (1, 3), (1, 37)],
  [(3, 88), (3, 87), (3, 89), (1, 4)],
  [(3, 82), (3, 81), (3, 83), (1, 5)],
  [(2, 204), (2, 205), (1, 13)],
  [(3, 68), (1, 13), (3, 101), (3, 70), (2, 232), (3, 68), (1, 13), (3, 101), (3, 70), (2, 232)],
  [(1, 167), (4, 150), (1, 168), (1, 2)],
  [(4, 137), (1, 13), (4, 151), (4, 139), (2, 232), (4, 137), (1, 13), (4, 151), (4, 139), (2, 232)],
  [(2, 238), (2, 205), (1, 13)],
  [(3, 78), (3, 77), (3, 79), (1, 5)],
  [(3, 82), (3, 92), (3, 83), (1, 5)],
  [(3, 93), (1, 36), (1, 3), (1, 37)],
  [(1, 167), (4, 165), (1, 168), (1, 2)],
  [(4, 159), (1, 13), (4, 166), (4, 161), (3, 2), (4, 159), (1, 13), (4, 166), (4, 161), (3, 2)],
  [(3, 38), (3, 6), (1, 16)],
  [(3, 103), (1, 16), (3, 119), (7, 6), (3, 48)],
  [(3, 111), (3, 120), (3, 121), (3, 122), (1, 13)],
  [(1, 167), (4, 174), (1, 168), (1, 2)],
  [(4, 159), (1, 13), (4, 175), (4, 176), (3, 48), (3, 12)],
  [(4, 222), (1, 13), (4, 233), (4, 234), (3, 48), (3, 12)],
  [(4, 236), (4, 238), (4, 237), (1, 20)],
  [(5, 15), (1, 13), (5, 26), (5, 27), (3, 48), (3, 12)],
  [(2, 207), (1, 27), (1, 28)],
  [(3, 82), (3, 113), (3, 83), (1, 5)],
  [(3, 125), (3, 124), (3, 127), (3, 128), (1, 13), (3, 125), (3, 124), (3, 127), (3, 129), (1, 13), (3, 125), (3, 124), (3, 127), (3, 130), (1, 13), (3, 125), (3, 124), (3, 127), (3, 131), (1, 13), (3, 125), (3, 124), (3, 127), (3, 132), (1, 13), (3, 125), (3, 124), (3, 127), (3, 133), (1, 13), (3, 125), (3, 124), (3, 126), (1, 13)],
  [(3, 135), (1, 36), (1, 3), (1, 37)],
  [(1, 167), (4, 157), (1, 168), (1, 2)],
  [(4, 141), (4, 179), (4, 139), (4, 140), (1, 18), (4, 148), (4, 179), (4, 139), (4, 147), (1, 14), (4, 137), (4, 179), (4, 139), (4, 152), (1, 13), (4, 148), (4, 179), (4, 139), (4, 153), (1, 14), (4, 137), (4, 179), (4, 139), (4, 154), (1, 13), (4, 137), (4, 179), (4, 139), (4, 155), (1, 13), (4, 137), (4, 179), (4, 138), (1, 13)],
  [(4, 163), (4, 205), (4, 161), (4, 162), (1, 15), (4, 159), (4, 205), (4, 161), (4, 167), (1, 13), (4, 159), (4, 205), (4, 161), (4, 168), (1, 13), (4, 159), (4, 205), (4, 161), (4, 169), (1, 13), (4, 163), (4, 205), (4, 161), (4, 170), (1, 15), (4, 172), (4, 205), (4, 161), (4, 171), (1, 19), (4, 159), (4, 205), (4, 160), (1, 13)],
  [(1, 147), (1, 27), (1, 28)],
  [(3, 201), (1, 36), (1, 3), (1, 37)],
  [(3, 206), (3, 207), (1, 3), (3, 208)],
  [(3, 82), (3, 209), (3, 83), (1, 5)],
  [(3, 203), (3, 235), (3, 204), (1, 6)],
  [(3, 72), (3, 236), (3, 70), (3, 71), (1, 18), (3, 96), (3, 236), (3, 70), (3, 95), (1, 17), (3, 103), (3, 236), (3, 70), (3, 102), (1, 16), (3, 99), (3, 236), (3, 70), (3, 114), (1, 14), (3, 75), (3, 236), (3, 70), (3, 115), (1, 15), (3, 117), (3, 236), (3, 70), (3, 116), (1, 19), (3, 68), (3, 236), (3, 69), (1, 13)],
  [(3, 238), (3, 237), (3, 239), (1, 6)],
  [(1, 26), (1, 27), (1, 28)],
  [(1, 31), (1, 32), (1, 2)],
  [(1, 68), (1, 4)],
  [(1, 105), (1, 106), (1, 5)],
  [(1, 144), (1, 145), (1, 6)],
  [(1, 167), (1, 166), (1, 168), (1, 2)],
  [(1, 171), (1, 170), (1, 172), (1, 2)],
  [(1, 230), (1, 231), (1, 1)],
  [(1, 234), (1, 233), (1, 235), (1, 2)],
  [(2, 3), (2, 1), (0, 0), (1, 1)],
  [(2, 11), (2, 9), (0, 1), (1, 1)],
  [(2, 14), (2, 13), (2, 15), (1, 4)],
  [(2, 171), (2, 170), (2, 172), (1, 2)],
  [(2, 176), (2, 174), (0, 12), (1, 1)],
  [(2, 180), (2, 178), (0, 13), (1, 1)],
  [(2, 191), (2, 18), (1, 3), (2, 19)],
  [(2, 193), (2, 192), (2, 194), (1, 5)],
  [(2, 196), (2, 197), (1, 1)],
  [(3, 61), (3, 59), (0, 14), (1, 1)],
  [(3, 65), (3, 63), (0, 15), (1, 1)],
  [(3, 72), (3, 67), (3, 70), (3, 71), (1, 18), (3, 96), (3, 67), (3, 70), (3, 95), (1, 17), (3, 103), (3, 67), (3, 70), (3, 102), (1, 16), (3, 99), (3, 67), (3, 70), (3, 114), (1, 14), (3, 75), (3, 67), (3, 70), (3, 115), (1, 15), (3, 117), (3, 67), (3, 70), (3, 116), (1, 19), (3, 68), (3, 67), (3, 69), (1, 13)],
  [(3, 145), (3, 144), (3, 146), (1, 19)],
  [(3, 157), (3, 156), (3, 158), (1, 2)],
  [(2, 6), (2, 5), (2, 7), (1, 2)],
  [(3, 166), (3, 164), (0, 16), (1, 1)],
  [(3, 78), (3, 176), (3, 79), (1, 5)],
  [(3, 195), (3, 193), (0, 17), (1, 1)],
  [(3, 203), (3, 202), (3, 204), (1, 6)],
  [(3, 212), (3, 210), (0, 18), (1, 1)],
  [(3, 232), (3, 231), (3, 233), (1, 6)],
  [(4, 7), (4, 5), (0, 21), (1, 1)],
  [(4, 41), (4, 39), (0, 26), (1, 1)],
  [(3, 82), (4, 47), (3, 83), (1, 5)],
  [(3, 216), (3, 214), (0, 19), (1, 1)],
  [(3, 220), (3, 218), (0, 20), (1, 1)],
  [(4, 62), (4, 60), (0, 27), (1, 1)],
  [(4, 105), (4, 106), (1, 1)],
  [(4, 122), (4, 120), (0, 28), (1, 1)],
  [(4, 141), (4, 136), (4, 139), (4, 140), (1, 18), (4, 148), (4, 136), (4, 139), (4, 147), (1, 14), (4, 137), (4, 136), (4, 139), (4, 152), (1, 13), (4, 148), (4, 136), (4, 139), (4, 153), (1, 14), (4, 137), (4, 136), (4, 139), (4, 154), (1, 13), (4, 137), (4, 136), (4, 139), (4, 155), (1, 13), (4, 137), (4, 136), (4, 138), (1, 13)],
  [(4, 163), (4, 158), (4, 161), (4, 162), (1, 15), (4, 159), (4, 158), (4, 161), (4, 167), (1, 13), (4, 159), (4, 158), (4, 161), (4, 168), (1, 13), (4, 159), (4, 158), (4, 161), (4, 169), (1, 13), (4, 163), (4, 158), (4, 161), (4, 170), (1, 15), (4, 172), (4, 158), (4, 161), (4, 171), (1, 19), (4, 159), (4, 158), (4, 160), (1, 13)],
  [(4, 181), (4, 180), (4, 183), (4, 184), (1, 13), (4, 186), (4, 180), (4, 183), (4, 185), (1, 17), (4, 197), (4, 180), (4, 183), (4, 196), (1, 16), (4, 181), (4, 180), (4, 183), (4, 201), (1, 13), (4, 181), (4, 180), (4, 183), (4, 202), (1, 13), (4, 197), (4, 180), (4, 183), (4, 203), (1, 16), (4, 181), (4, 180), (4, 182), (1, 13)],
  [(4, 214), (4, 215), (1, 1)],
  [(4, 222), (4, 221), (4, 224), (4, 225), (1, 13), (4, 222), (4, 221), (4, 224), (4, 226), (1, 13), (4, 222), (4, 221), (4, 224), (4, 227), (1, 13), (4, 222), (4, 221), (4, 224), (4, 228), (1, 13), (4, 222), (4, 221), (4, 224), (4, 229), (1, 13), (4, 231), (4, 221), (4, 224), (4, 230), (1, 19), (4, 222), (4, 221), (4, 223), (1, 13)],
  [(5, 1), (5, 0), (5, 2), (1, 2)],
  [(5, 11), (5, 10), (5, 12), (1, 2)],
  [(5, 15), (5, 14), (5, 17), (5, 18), (1, 13), (5, 15), (5, 14), (5, 17), (5, 19), (1, 13), (5, 15), (5, 14), (5, 17), (5, 20), (1, 13), (5, 15), (5, 14), (5, 17), (5, 21), (1, 13), (5, 15), (5, 14), (5, 17), (5, 22), (1, 13), (5, 24), (5, 14), (5, 17), (5, 23), (1, 19), (5, 15), (5, 14), (5, 16), (1, 13)],
  [(2, 183), (2, 182), (2, 184), (1, 5)],
  [(2, 201), (2, 202), (1, 14)],
  [(2, 235), (2, 236), (1, 15)],
  [(3, 5), (3, 6), (1, 16)],
  [(3, 15), (3, 16), (1, 17)],
  [(3, 25), (3, 26), (1, 18)],
  [(3, 35), (3, 36), (1, 19)],
  [(3, 50), (2, 205), (1, 13)],
  [(3, 198), (3, 197), (3, 199), (1, 6)],
  [(3, 222), (1, 36), (1, 3), (1, 37)],
  [(3, 238), (4, 30), (3, 239), (1, 6)],
  [(4, 12), (4, 10), (0, 22), (1, 1)],
  [(4, 24), (4, 22), (0, 24), (1, 1)],
  [(4, 28), (4, 26), (0, 25), (1, 1)],
  [(4, 15), (4, 14), (4, 16), (1, 6)],
  [(4, 20), (4, 18), (0, 23), (1, 1)],
  [(5, 39), (1, 27), (1, 28)],
  [(5, 117), (5, 118), (1, 7)],
  [(5, 130), (5, 128), (0, 30), (1, 7)],
  [(5, 141), (2, 35), (2, 36), (1, 8)],
  [(5, 142), (2, 45), (2, 46), (1, 8)],
  [(5, 145), (5, 143), (0, 33), (1, 7)],
  [(5, 167), (5, 165), (0, 38), (1, 7)],
  [(5, 171), (5, 169), (0, 39), (1, 7)],
  [(5, 159), (5, 157), (0, 36), (1, 7)],
  [(5, 176), (5, 174), (0, 40), (1, 7)],
  [(5, 149), (5, 147), (0, 34), (1, 7)],
  [(5, 163), (5, 161), (0, 37), (1, 7)],
  [(5, 139), (5, 137), (0, 32), (1, 7)],
  [(5, 135), (5, 133), (0, 31), (1, 7)],
  [(5, 155), (5, 153), (0, 35), (1, 7)],
  [(5, 126), (5, 124), (0, 29), (1, 7)],
  [(5, 182), (5, 180), (0, 41), (1, 7)],
  [(5, 214), (5, 212), (0, 47), (1, 7)],
  [(5, 216), (5, 217), (1, 7)],
  [(5, 210), (5, 208), (0, 46), (1, 7)],
  [(5, 206), (5, 204), (0, 45), (1, 7)],
  [(5, 225), (5, 223), (0, 49), (1, 7)],
  [(5, 202), (5, 200), (0, 44), (1, 7)],
  [(5, 221), (5, 219), (0, 48), (1, 7)],
  [(5, 229), (5, 227), (0, 50), (1, 7)],
  [(5, 194), (5, 192), (0, 42), (1, 7)],
  [(5, 198), (5, 196), (0, 43), (1, 7)],
  [(6, 9), (6, 7), (0, 51), (1, 7)],
  [(6, 61), (6, 59), (0, 57), (1, 7)],
  [(6, 57), (6, 55), (0, 56), (1, 7)],
  [(6, 65), (6, 63), (0, 58), (1, 7)],
  [(6, 45), (6, 43), (0, 53), (1, 7)],
  [(6, 49), (6, 47), (0, 54), (1, 7)],
  [(6, 41), (6, 39), (0, 52), (1, 7)],
  [(6, 53), (6, 51), (0, 55), (1, 7)],
  [(6, 77), (6, 75), (0, 59), (1, 7)],
  [(6, 89), (6, 87), (0, 61), (1, 7)],
  [(6, 93), (6, 91), (0, 62), (1, 7)],
  [(6, 85), (6, 83), (0, 60), (1, 7)],
  [(6, 106), (6, 104), (0, 63), (1, 7)],
  [(6, 166), (6, 167), (1, 7)],
  [(6, 202), (6, 200), (0, 65), (1, 7)],
  [(6, 197), (6, 198), (1, 7)],
  [(6, 206), (6, 204), (0, 66), (1, 7)],
  [(6, 195), (6, 193), (0, 64), (1, 7)],
  [(6, 214), (6, 212), (0, 68), (1, 7)],
  [(6, 210), (6, 208), (0, 67), (1, 7)],
  [(6, 222), (6, 220), (0, 70), (1, 7)],
  [(6, 218), (6, 216), (0, 69), (1, 7)],
  [(1, 23), (1, 24), (1, 1)],
  [(5, 36), (5, 37), (1, 7)],
  [(1, 227), (1, 226), (1, 228), (1, 1)],
  [(5, 114), (5, 113), (5, 115), (1, 7)],
  [(1, 238), (1, 237), (1, 239), (1, 1)],
  [(5, 121), (5, 120), (5, 122), (1, 7)],
  [(2, 188), (2, 187), (2, 189), (1, 1)],
  [(5, 185), (5, 184), (5, 186), (1, 7)],
  [(3, 56), (3, 55), (3, 57), (1, 1)],
  [(5, 189), (5, 188), (5, 190), (1, 7)],
  [(3, 137), (3, 136), (3, 138), (1, 1)],
  [(5, 232), (5, 231), (5, 233), (1, 7)],
  [(3, 141), (3, 140), (3, 142), (1, 1)],
  [(5, 236), (5, 235), (5, 237), (1, 7)],
  [(3, 149), (3, 148), (3, 150), (1, 1)],
  [(6, 0), (5, 239), (6, 1), (1, 7)],
  [(3, 153), (3, 152), (3, 154), (1, 1)],
  [(6, 4), (6, 3), (6, 5), (1, 7)],
  [(3, 161), (3, 160), (3, 162), (1, 1)],
  [(6, 12), (6, 11), (6, 13), (1, 7)],
  [(3, 169), (3, 168), (3, 170), (1, 1)],
  [(6, 16), (6, 15), (6, 17), (1, 7)],
  [(3, 173), (3, 172), (3, 174), (1, 1)],
  [(6, 20), (6, 19), (6, 21), (1, 7)],
  [(3, 178), (3, 177), (3, 179), (1, 1)],
  [(6, 24), (6, 23), (6, 25), (1, 7)],
  [(3, 182), (3, 181), (3, 183), (1, 1)],
  [(6, 28), (6, 27), (6, 29), (1, 7)],
  [(3, 186), (3, 185), (3, 187), (1, 1)],
  [(6, 32), (6, 31), (6, 33), (1, 7)],
  [(3, 190), (3, 189), (3, 191), (1, 1)],
  [(6, 36), (6, 35), (6, 37), (1, 7)],
  [(3, 224), (3, 223), (3, 225), (1, 1)],
  [(6, 68), (6, 67), (6, 69), (1, 7)],
  [(3, 228), (3, 227), (3, 229), (1, 1)],
  [(6, 72), (6, 71), (6, 73), (1, 7)],
  [(4, 2), (4, 1), (4, 3), (1, 1)],
  [(6, 80), (6, 79), (6, 81), (1, 7)],
  [(4, 32), (4, 31), (4, 33), (1, 1)],
  [(6, 96), (6, 95), (6, 97), (1, 7)],
  [(4, 36), (4, 35), (4, 37), (1, 1)],
  [(6, 100), (6, 99), (6, 101), (1, 7)],
  [(4, 44), (4, 43), (4, 45), (1, 1)],
  [(6, 109), (6, 108), (6, 110), (1, 7)],
  [(4, 49), (4, 48), (4, 50), (1, 1)],
  [(6, 113), (6, 112), (6, 114), (1, 7)],
  [(4, 53), (4, 52), (4, 54), (1, 1)],
  [(6, 117), (6, 116), (6, 118), (1, 7)],
  [(4, 57), (4, 56), (4, 58), (1, 1)],
  [(6, 121), (6, 120), (6, 122), (1, 7)],
  [(4, 65), (4, 64), (4, 66), (1, 1)],
  [(6, 125), (6, 124), (6, 126), (1, 7)],
  [(4, 69), (4, 68), (4, 70), (1, 1)],
  [(6, 129), (6, 128), (6, 130), (1, 7)],
  [(4, 73), (4, 72), (4, 74), (1, 1)],
  [(6, 133), (6, 132), (6, 134), (1, 7)],
  [(4, 77), (4, 76), (4, 78), (1, 1)],
  [(6, 137), (6, 136), (6, 138), (1, 7)],
  [(4, 81), (4, 80), (4, 82), (1, 1)],
  [(6, 141), (6, 140), (6, 142), (1, 7)],
  [(4, 85), (4, 84), (4, 86), (1, 1)],
  [(6, 145), (6, 144), (6, 146), (1, 7)],
  [(4, 89), (4, 88), (4, 90), (1, 1)],
  [(6, 149), (6, 148), (6, 150), (1, 7)],
  [(4, 93), (4, 92), (4, 94), (1, 1)],
  [(6, 153), (6, 152), (6, 154), (1, 7)],
  [(4, 97), (4, 96), (4, 98), (1, 1)],
  [(6, 157), (6, 156), (6, 158), (1, 7)],
  [(4, 101), (4, 100), (4, 102), (1, 1)],
  [(6, 161), (6, 160), (6, 162), (1, 7)],
  [(4, 109), (4, 108), (4, 110), (1, 1)],
  [(6, 170), (6, 169), (6, 171), (1, 7)],
  [(4, 113), (4, 112), (4, 114), (1, 1)],
  [(6, 174), (6, 173), (6, 175), (1, 7)],
  [(4, 117), (4, 116), (4, 118), (1, 1)],
  [(6, 178), (6, 177), (6, 179), (1, 7)],
  [(4, 125), (4, 124), (4, 126), (1, 1)],
  [(6, 182), (6, 181), (6, 183), (1, 7)],
  [(4, 129), (4, 128), (4, 130), (1, 1)],
  [(6, 186), (6, 185), (6, 187), (1, 7)],
  [(4, 133), (4, 132), (4, 134), (1, 1)],
  [(6, 190), (6, 189), (6, 191), (1, 7)],
  [(4, 207), (4, 206), (4, 208), (1, 1)],
  [(6, 225), (6, 224), (6, 226), (1, 7)],
  [(4, 211), (4, 210), (4, 212), (1, 1)],
  [(6, 229), (6, 228), (6, 230), (1, 7)],
  [(4, 218), (4, 217), (4, 219), (1, 1)],
  [(6, 233), (6, 232), (6, 234), (1, 7)],
  [(5, 7), (5, 6), (5, 8), (1, 1)],
  [(6, 237), (6, 236), (6, 238), (1, 7)],
  [(5, 31), (5, 30), (5, 32), (1, 1)],
  [(7, 1), (7, 0), (7, 2), (1, 7)],
  [(2, 38), (2, 39), (2, 40), (1, 8)],
  [(2, 48), (2, 49), (2, 50), (1, 8)],
  [(2, 52), (2, 53), (1, 9)],
  [(2, 118), (2, 35), (2, 36), (1, 8)],
  [(2, 114), (2, 115), (2, 116), (1, 8)],
  [(2, 119), (2, 120), (1, 9)],
  [(2, 60), (2, 61), (1, 10)],
  [(2, 55), (2, 56), (1, 8)],
  [(2, 126), (2, 18), (1, 3), (2, 19)],
  [(2, 122), (2, 123), (1, 9)],
  [(2, 125), (1, 36), (1, 3), (1, 37)],
  [(2, 127), (2, 128), (1, 9)]]
theorem ix_cp_len : ix_cps.length = ix_cas.length := by decide +kernel
theorem ix_cp_0 : (((ix_cas.zip ix_cps).drop 0).take 40).all (fun q => ix_pws (ix_cw q.1) q.2) = true := by decide +kernel
theorem ix_cq_0 : ((ix_cas.drop 0).take 40).all ix_cchk = true := by decide +kernel
theorem ix_cp_1 : (((ix_cas.zip ix_cps).drop 40).take 40).all (fun q => ix_pws (ix_cw q.1) q.2) = true := by decide +kernel
theorem ix_cq_1 : ((ix_cas.drop 40).take 40).all ix_cchk = true := by decide +kernel
theorem ix_cp_2 : (((ix_cas.zip ix_cps).drop 80).take 40).all (fun q => ix_pws (ix_cw q.1) q.2) = true := by decide +kernel
theorem ix_cq_2 : ((ix_cas.drop 80).take 40).all ix_cchk = true := by decide +kernel
theorem ix_cp_3 : (((ix_cas.zip ix_cps).drop 120).take 40).all (fun q => ix_pws (ix_cw q.1) q.2) = true := by decide +kernel
theorem ix_cq_3 : ((ix_cas.drop 120).take 40).all ix_cchk = true := by decide +kernel
theorem ix_cp_4 : (((ix_cas.zip ix_cps).drop 160).take 40).all (fun q => ix_pws (ix_cw q.1) q.2) = true := by decide +kernel
theorem ix_cq_4 : ((ix_cas.drop 160).take 40).all ix_cchk = true := by decide +kernel
theorem ix_cp_5 : (((ix_cas.zip ix_cps).drop 200).take 40).all (fun q => ix_pws (ix_cw q.1) q.2) = true := by decide +kernel
theorem ix_cq_5 : ((ix_cas.drop 200).take 40).all ix_cchk = true := by decide +kernel
theorem ix_cp_6 : (((ix_cas.zip ix_cps).drop 240).take 40).all (fun q => ix_pws (ix_cw q.1) q.2) = true := by decide +kernel
theorem ix_cq_6 : ((ix_cas.drop 240).take 40).all ix_cchk = true := by decide +kernel
theorem ix_cp_7 : (((ix_cas.zip ix_cps).drop 280).take 40).all (fun q => ix_pws (ix_cw q.1) q.2) = true := by decide +kernel
theorem ix_cq_7 : ((ix_cas.drop 280).take 40).all ix_cchk = true := by decide +kernel
theorem ix_chunk {α : Type} {f : α → Bool} {l : List α} {n : Nat} (h1 : (l.take n).all f = true) (h2 : (l.drop n).all f = true) : l.all f = true := by rw [← List.take_append_drop n l, List.all_append, h1, h2]; rfl
theorem ix_chunk2 {α : Type} {f : α → Bool} {l : List α} {a n : Nat} (h1 : ((l.drop a).take n).all f = true) (h2 : (l.drop (a + n)).all f = true) : (l.drop a).all f = true := ix_chunk (n := n) h1 (by rw [List.drop_drop]; exact h2)
theorem ix_cp_all : (ix_cas.zip ix_cps).all (fun q => ix_pws (ix_cw q.1) q.2) = true := (ix_chunk2 (a := 0) (n := 40) ix_cp_0 (ix_chunk2 (a := 40) (n := 40) ix_cp_1 (ix_chunk2 (a := 80) (n := 40) ix_cp_2 (ix_chunk2 (a := 120) (n := 40) ix_cp_3 (ix_chunk2 (a := 160) (n := 40) ix_cp_4 (ix_chunk2 (a := 200) (n := 40) ix_cp_5 (ix_chunk2 (a := 240) (n := 40) ix_cp_6 (ix_chunk2 (a := 280) (n := 40) ix_cp_7 (by rw [List.drop_eq_nil_of_le (by decide +kernel)]; rfl)))))))))
theorem ix_ca_all : ix_cas.all ix_cchk = true := (ix_chunk2 (a := 0) (n := 40) ix_cq_0 (ix_chunk2 (a := 40) (n := 40) ix_cq_1 (ix_chunk2 (a := 80) (n := 40) ix_cq_2 (ix_chunk2 (a := 120) (n := 40) ix_cq_3 (ix_chunk2 (a := 160) (n := 40) ix_cq_4 (ix_chunk2 (a := 200) (n := 40) ix_cq_5 (ix_chunk2 (a := 240) (n := 40) ix_cq_6 (ix_chunk2 (a := 280) (n := 40) ix_cq_7 (by rw [List.drop_eq_nil_of_le (by decide +kernel)]; rfl)))))))))
theorem ix_ca_chk {o i : Nat} {e : Nat × Nat × List (Nat × Nat × Nat)} (h : ix_ca o i = some e) : ix_cchk (o, i, e) = true := List.all_eq_true.mp ix_ca_all _ (ix_find h)
theorem ix_zip_all {α β : Type} {f : α × β → Bool} {a : α} : ∀ {as : List α} {bs : List β}, bs.length = as.length → (as.zip bs).all f = true → a ∈ as → ∃ b, f (a, b) = true := by
  intro as
  induction as with
  | nil => intro bs _ _ ha; cases ha
  | cons x l ih =>
    intro bs hl h ha
    cases bs with
    | nil => simp at hl
    | cons y m =>
      simp only [List.zip_cons_cons, List.all_cons, Bool.and_eq_true] at h
      rcases List.mem_cons.mp ha with rfl | ha
      · exact ⟨y, h.1⟩
      · exact ih (by simpa using hl) h.2 ha
theorem ix_ca_W {o i : Nat} {e : Nat × Nat × List (Nat × Nat × Nat)} (h : ix_ca o i = some e) : ∀ w ∈ ix_cw (o, i, e), w ∈ ix_W := by
  obtain ⟨b, hb⟩ := ix_zip_all ix_cp_len ix_cp_all (ix_find h)
  exact ix_pws_W hb
