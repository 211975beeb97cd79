/-! ===== the spots of the class ===== -/
--need 25.ahead
/-- the spot of tree u of the model, 6 the open -/
def spp (u : Nat) : Nat := if u = 6 then 50 else 52 + 2 * u
/-- one spot knows its rain -/
def spK (μ : fm_M) (S : Nat → Int32) (cs : List Nat) (p u : Nat) : Prop := μ (spp u) 2 = nI p ∧ μ (spp u) 3 = (if u = 6 then nI 9 else nI u) ∧ μ (spp u) 4 = (if u = 6 then nI 9 else S (11 + u)) ∧ μ (spp u) 5 = (if u = 6 then nI 9 else S (17 + u)) ∧ ∃ kn, kn ≤ 1600 ∧ μ (spp u) 1 = nI kn ∧ ∀ k, k ≤ kn → μ (spp u + 1) k = sS (rn S cs u) k
/-- what the class knows of the rain -/
def ck (μ : fm_M) (S : Nat → Int32) (cs : List Nat) (p n : Nat) : Prop := n ≤ 6 ∧ pr_cs μ p cs ∧ ∀ u, u < n ∨ u = 6 → spK μ S cs p u
/-- only what the class knows of the rain has changed -/
def cf (μ μ' : fm_M) : Prop := (∀ r, r < 26 ∨ 64 ≤ r ∨ (r < 50 ∧ r % 4 ≠ 0) → μ' r = μ r) ∧ cs2 μ μ'
theorem cf_refl {μ : fm_M} : cf μ μ := ⟨fun _ _ => rfl, cs2_refl⟩
theorem cf_trans {μ1 μ2 μ3 : fm_M} (h : cf μ1 μ2) (h' : cf μ2 μ3) : cf μ1 μ3 := ⟨fun r a => (h'.1 r a).trans (h.1 r a), cs2_trans h.2 h'.2⟩
theorem spp_O {u : Nat} (hu : u ≤ 6) : spO (spp u) := by
  unfold spp
  split
  · exact sp_O (i := 0) (by decide)
  · have := sp_O (i := u + 1) (by omega)
    rwa [show 50 + 2 * (u + 1) = 52 + 2 * u by omega] at this
theorem spp_ne {u v : Nat} (hu : u ≤ 6) (hv : v ≤ 6) (h : u ≠ v) : spp u ≠ spp v ∧ spp u ≠ spp v + 1 ∧ spp u + 1 ≠ spp v ∧ spp u + 1 ≠ spp v + 1 := by
  unfold spp
  split <;> split <;> omega
section SK
variable {X : ix_X} {d : Nat} {τ : List fm_D} {μ : fm_M}
theorem sp_cf {r p : Nat} {μ' : fm_M} (hr : spO r) (hp : pkO p) (h : spF r p μ μ') : cf μ μ' := by
  obtain ⟨i, hi, rfl⟩ := sp_cases hr
  have hp' := pk_cases hp
  refine ⟨fun q hq => h.1 q (by omega) (by omega) (by omega), fun j k hj hk => ?_, fun j hj => ?_⟩
  · by_cases e : j = i
    · subst e
      exact h.2.1 k hk
    · rw [h.1 (50 + 2 * j) (by omega) (by omega) (by omega)]
  · by_cases e : j = i
    · subst e
      have := h.2.2
      rwa [show 50 + 2 * j + 1 = 51 + 2 * j by omega] at this
    · rw [h.1 (51 + 2 * j) (by omega) (by omega) (by omega)]
theorem ck_of {S : Nat → Int32} {cs : List Nat} {p n u : Nat} {μ' : fm_M} (h : ck μ S cs p n) (hu : u < n ∨ u = 6) (hF : spF (spp u) p μ μ') (hv : ∃ kn, kn ≤ 1600 ∧ μ' (spp u) 1 = nI kn ∧ ∀ k, k ≤ kn → μ' (spp u + 1) k = sS (rn S cs u) k) : ck μ' S cs p n := by
  obtain ⟨hn, hp, hs⟩ := h
  have hu6 : u ≤ 6 := by omega
  obtain ⟨n1, n2, n3, n4, n5, n6⟩ := sp_pk (spp_O hu6) hp.1
  refine ⟨hn, pr_cs_of hp (hF.1 p (Ne.symm n1) (by omega) (by omega)) (hF.1 (p + 1) (Ne.symm n2) (by omega) (by omega)), fun v hv' => ?_⟩
  obtain ⟨a, b, c, e, f⟩ := hs v hv'
  by_cases huv : u = v
  · subst huv
    exact ⟨(hF.2.1 2 (by decide)).trans a, (hF.2.1 3 (by decide)).trans b, (hF.2.1 4 (by decide)).trans c, (hF.2.1 5 (by decide)).trans e, hv⟩
  · have hv6 : v ≤ 6 := by omega
    obtain ⟨m1, m2, m3, m4⟩ := spp_ne hu6 hv6 huv
    obtain ⟨o1, o2, o3, o4, o5, o6⟩ := sp_pk (spp_O hv6) hp.1
    have e1 : μ' (spp v) = μ (spp v) := hF.1 _ (Ne.symm m1) (Ne.symm m3) o3
    have e2 : μ' (spp v + 1) = μ (spp v + 1) := hF.1 _ (Ne.symm m2) (Ne.symm m4) o6
    unfold spK
    rw [e1, e2]
    exact ⟨a, b, c, e, f⟩
theorem ck_ahead {S : Nat → Int32} {cs : List Nat} {p n u m : Nat} (h : ck μ S cs p n) (hu : u < n ∨ u = 6) (hm : m ≤ 1600) : ∃ μ' : fm_M, ix_call X (d + 1) 35 [.ref (spp u), .int (nI m)] (fm_W μ τ) = some (some (.int (sS (rn S cs u) m)), fm_W μ' τ) ∧ ck μ' S cs p n ∧ cf μ μ' := by
  have hu6 : u ≤ 6 := by have := h.1; omega
  obtain ⟨a, b, c, e, kn, f1, f2, f3⟩ := h.2.2 u hu
  obtain ⟨μ', w1, w2, w3⟩ := ah_n (X := X) (d := d) (τ := τ) (f := rn S cs u) (spp_O hu6) hm h.2.1 a (fun m => by rw [b, c, e]; rfl) f2 f1 f3
  exact ⟨μ', w1, ck_of h hu w2 w3, sp_cf (spp_O hu6) h.2.1.1 w2⟩
theorem ck_aheadN {S : Nat → Int32} {cs : List Nat} {p n u : Nat} {x : Int32} (h : ck μ S cs p n) (hu : u < n ∨ u = 6) (hx : x < 0) : ∃ μ' : fm_M, ix_call X (d + 1) 35 [.ref (spp u), .int x] (fm_W μ τ) = some (some (.int (nI 0)), fm_W μ' τ) ∧ ck μ' S cs p n ∧ cf μ μ' := by
  have hu6 : u ≤ 6 := by have := h.1; omega
  obtain ⟨a, b, c, e, kn, f1, f2, f3⟩ := h.2.2 u hu
  obtain ⟨μ', w1, w2, w3⟩ := ah_neg (X := X) (d := d) (τ := τ) (f := rn S cs u) (spp_O hu6) hx h.2.1 a (fun m => by rw [b, c, e]; rfl) f2 f1 f3
  exact ⟨μ', w1, ck_of h hu w2 w3, sp_cf (spp_O hu6) h.2.1.1 w2⟩
theorem ck_rainAt {S : Nat → Int32} {cs : List Nat} {p n u m : Nat} (h : ck μ S cs p n) (hu : u < n ∨ u = 6) (hm : m < 1600) : ∃ μ' : fm_M, ix_call X (d + 2) 34 [.ref (spp u), .int (nI m)] (fm_W μ τ) = some (some (.int (sS (rn S cs u) (m + 1) - sS (rn S cs u) m)), fm_W μ' τ) ∧ ck μ' S cs p n ∧ cf μ μ' := by
  have hu6 : u ≤ 6 := by have := h.1; omega
  obtain ⟨μ1, a1, b1, c1⟩ := ck_ahead (X := X) (d := d) (τ := τ) (m := m + 1) h hu (by omega)
  obtain ⟨μ2, a2, b2, c2⟩ := ck_ahead (X := X) (d := d) (τ := τ) (m := m) b1 hu (by omega)
  refine ⟨μ2, ?_, b2, cf_trans c1 c2⟩
  have hO := spp_O hu6
  simp (disch := first | assumption | omega | decide) only [e34, i34_0, i34_1, i34_2, i34_3, i34_4, i34_7, i34_8, i34_9, i34_12, i34_13, ix_pv_s, ix_pi_s, zpn, ix_po_s, ix_po_n, ix_ph_s, ix_bk_v, ix_bk_n, zcv, zcv_ne, ↓reduceIte, Nat.reduceEqDiff, zn_m1, zd_lt_p, zd_lt_n, zd_le_p, zd_le_n, zd_eq_p, zd_eq_n, zd_0_p, zd_0_n, zd_0lt_p, zd_0lt_n, zd_le0_p, zd_le0_n, zn_lt0, zn_le0, zn_add, zn_mul, zn_sub, zm_lt, zm_le, zm_eq, zb_1, zb_0, not_true_eq_false, not_false_eq_true, sp_c, a1, a2]
end SK
