/-! ===== what asking leaves alone ===== -/
--need 35.out
/-- scratch alone has changed -/
def qf (μ μ' : fm_M) : Prop := (∀ r, (r < 25 ∨ (26 ≤ r ∧ r < 50 ∧ r % 4 ≠ 0) ∨ r = 68 ∨ r = 69 ∨ 75 ≤ r) → μ' r = μ r) ∧ cs2 μ μ' ∧ ∀ k, k ≠ 13 → k ≠ 14 → k ≠ 15 → k ≠ 17 → k ≠ 18 → μ' 67 k = μ 67 k
section QF
variable {μ : fm_M} {S : Nat → Int32} {cs : List Nat} {n p r : Nat}
theorem qf_refl : qf μ μ := ⟨fun _ _ => rfl, cs2_refl, fun _ _ _ _ _ _ => rfl⟩
theorem qf_trans {μ1 μ2 μ3 : fm_M} (h : qf μ1 μ2) (h' : qf μ2 μ3) : qf μ1 μ3 := ⟨fun r a => (h'.1 r a).trans (h.1 r a), cs2_trans h.2.1 h'.2.1, fun k a b c e f => (h'.2.2 k a b c e f).trans (h.2.2 k a b c e f)⟩
theorem qf_tf {μ' : fm_M} (hr : tpO r) (h : tf r μ μ') : qf μ μ' := by
  have := tp_cases hr
  exact ⟨fun q hq => h.1 q (by omega) (by omega), h.2, fun k _ _ _ _ _ => by rw [h.1 67 (by omega) (by omega)]⟩
theorem qf_cf {μ' : fm_M} (h : cf μ μ') : qf μ μ' := qf_tf (r := 64) rfl (tf_cf h)
theorem qf_mg {μ' : fm_M} (h : mg μ μ') : qf μ μ' := ⟨fun q hq => h.1 q (by omega) (by omega) (by omega) (by omega) (by omega), cs2_rows (fun q a b => h.1 q (by omega) (by omega) (by omega) (by omega) (by omega)), fun k a b c _ _ => h.2 k a b c⟩
/-- what the model knows stays when its rows stay -/
theorem mk2_row {μ' : fm_M} (h : mk2 μ S n cs) (h1 : μ' 68 = μ 68) (h2 : μ' 72 = μ 72) (h3 : μ' 73 = μ 73) : mk2 μ' S n cs := by
  obtain ⟨⟨a, b, c⟩, e⟩ := h
  refine ⟨⟨a, by rw [h1]; exact b, fun v hv => ?_⟩, h1.trans e⟩
  rw [h1]
  exact fk_of (c v hv) (by rw [h3]) (fun k _ => by rw [h2])
theorem mk2_tf {μ' : fm_M} (hr : tpO r) (h : mk2 μ S n cs) (hf : tf r μ μ') : mk2 μ' S n cs := by
  have := tp_cases hr
  exact mk2_row h (hf.1 68 (by omega) (by omega)) (hf.1 72 (by omega) (by omega)) (hf.1 73 (by omega) (by omega))
theorem mk2_cf {μ' : fm_M} (h : mk2 μ S n cs) (hf : cf μ μ') : mk2 μ' S n cs := mk2_tf (r := 64) rfl h (tf_cf hf)
/-- what the program knows stays when its rows stay -/
theorem ck_rows {μ' : fm_M} (h : ck μ S cs p n) (he : ∀ x, 26 ≤ x → x < 64 → μ' x = μ x) : ck μ' S cs p n := by
  obtain ⟨hn, hp, hs⟩ := h
  have hp' := pk_cases hp.1
  refine ⟨hn, pr_cs_of hp (he p (by omega) (by omega)) (he (p + 1) (by omega) (by omega)), fun v hv => ?_⟩
  have h1 : μ' (spp v) = μ (spp v) := he _ (by unfold spp; split <;> omega) (by unfold spp; split <;> omega)
  have h2 : μ' (spp v + 1) = μ (spp v + 1) := he _ (by unfold spp; split <;> omega) (by unfold spp; split <;> omega)
  have := hs v hv
  unfold spK at this ⊢
  rw [h1, h2]
  exact this
theorem ck_mg {μ' : fm_M} (h : ck μ S cs p n) (hf : mg μ μ') : ck μ' S cs p n := ck_rows h (fun x a b => hf.1 x (by omega) (by omega) (by omega) (by omega) (by omega))
end QF
