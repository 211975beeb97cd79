/-! ===== rows added, rows cleared: the invariant (gen56.py) ===== -/
--need 55.mut
section AD
variable {τ : List fm_D} {μ μ1 μ2 : fm_M} {S : Nat → Int32} {N : Nat → Nat} {C : Nat → List Nat} {Q : Nat → Nat}
theorem QI_addW (h : QI μ τ S N C Q) (hn : N 1 < 5) {p c : Nat} (h1 : 1 ≤ p) (h2 : p ≤ 20) (h3 : c ≤ 99) (hμ1 : μ1 = fm_u (fm_u (fm_u (μ) 8 (N 1 * 2) (nI p)) 8 (N 1 * 2 + 1) (nI c)) 7 4 (nI (N 1 + 1))) (hμ2 : μ2 = fm_u (fm_u (fm_u (μ1) 68 (59 + N 1) (nI p)) 68 (64 + N 1) (nI c)) 68 1 (nI (N 1 + 1))) : QI μ2 τ (upd (upd (upd (S) (59 + N 1) (nI p)) (64 + N 1) (nI c)) 1 (nI (N 1 + 1))) (fun k => if k = 1 then N 1 + 1 else N k) C Q := by
  obtain ⟨b0, b1, b2, b3, b4, b5, b6, b8, b9, b10⟩ := QI_b h
  have e68 := QI_68 h
  have e1 : ∀ k, k ≠ 1 → k ≠ 59 + N 1 → k ≠ 64 + N 1 → (upd (upd (upd (S) (59 + N 1) (nI p)) (64 + N 1) (nI c)) 1 (nI (N 1 + 1))) k = S k := fun k a0 a1 a2 => by rw [pk_un a0, pk_un a2, pk_un a1]
  have em : ∀ r, r ≠ 68 → r ≠ 7 → r ≠ 8 → μ2 r = μ r := fun r x y z => by rw [hμ2, fm_un x, fm_un x, fm_un x, hμ1, fm_un y, fm_un z, fm_un z]
  have er : ∀ k, k ≠ 4 → μ2 7 k = μ 7 k := fun k hk => by rw [hμ2, fm_un (by decide), fm_un (by decide), fm_un (by decide), hμ1, fm_uk hk, fm_un (by decide), fm_un (by decide)]
  have ez : μ2 7 4 = nI (N 1 + 1) := by rw [hμ2, fm_un (by decide), fm_un (by decide), fm_un (by decide), hμ1, fm_us]
  have ea : μ2 8 = upd (upd (μ 8) (N 1 * 2) (nI p)) (N 1 * 2 + 1) (nI c) := by rw [hμ2, fm_un (by decide), fm_un (by decide), fm_un (by decide), hμ1, fm_un (by decide), fm_uu, fm_uu]
  refine QI_mut h (fun k hk => e1 k (by omega) (by omega) (by omega)) ⟨fun q hq => em q (by omega) (by omega) (by omega), fun q hq => ?h5⟩ ?h68 rfl rfl ?hk ⟨hn, b3, b4, b5, b6, b8, b9, b10⟩ ?sW (uL h rfl rfl (fun k a b => e1 k (by omega) (by omega) (by omega))) (uR h rfl rfl (fun k a b => e1 k (by omega) (by omega) (by omega))) (uE h rfl rfl (fun k a b => e1 k (by omega) (by omega) (by omega))) (vN h (em 1 (by decide) (by decide) (by decide)) (em 2 (by decide) (by decide) (by decide)) (fun k a => e1 k (by omega) (by omega) (by omega))) (vT h rfl (em 4 (by decide) (by decide) (by decide)) (em 5 (by decide) (by decide) (by decide)) (fun k a => e1 k (by omega) (by omega) (by omega))) ?gW (vL h rfl (em 10 (by decide) (by decide) (by decide)) (em 11 (by decide) (by decide) (by decide)) (fun k a => e1 k (by omega) (by omega) (by omega))) (vR h rfl (em 13 (by decide) (by decide) (by decide)) (em 14 (by decide) (by decide) (by decide)) (fun k a => e1 k (by omega) (by omega) (by omega))) (vE h rfl (em 16 (by decide) (by decide) (by decide)) (em 17 (by decide) (by decide) (by decide)) (fun k a => e1 k (by omega) (by omega) (by omega)))
  case h5 =>
    by_cases hq7 : q = 7
    · subst hq7
      exact er 5 (by decide)
    · rw [em q (by omega) hq7 (by omega)]
  case h68 => rw [hμ2, fm_uu, fm_uu, fm_uu, hμ1, fm_un (by decide), fm_un (by decide), fm_un (by decide), e68]
  case hk =>
    intro k k1 k2
    by_cases q : k = 1
    · subst q
      exact pk_us
    · rw [e1 k q (by omega) (by omega), QI_S h k1 k2]
      exact congrArg nI (if_neg q).symm
  case sW =>
    intro i hi
    have hi' : i < N 1 + 1 := hi
    by_cases q : i = N 1
    · subst q
      exact ⟨⟨p, h1, h2, by rw [pk_un (show 59 + N 1 ≠ 1 by omega), pk_un (show 59 + N 1 ≠ 64 + N 1 by omega), pk_us]⟩, ⟨c, h3, by rw [pk_un (show 64 + N 1 ≠ 1 by omega), pk_us]⟩⟩
    · have := (h.1.2.2.2.2.1 i (by omega))
      unfold okN at this ⊢
      rw [e1 (59 + i) (by omega) (by omega) (by omega), e1 (64 + i) (by omega) (by omega) (by omega)]
      exact this
  case gW =>
    obtain ⟨⟨z0, z1, z2⟩, zc⟩ : gW μ S N := h.2.1.1.2.2.1
    refine ⟨⟨(er 0 (by decide)).trans z0, (er 1 (by decide)).trans z1, ez.trans pk_us.symm⟩, fun i hi => ?_⟩
    have hi' : i < N 1 + 1 := hi
    rw [ea]
    by_cases q : i = N 1
    · subst q
      exact ⟨by rw [pk_un (show N 1 * 2 ≠ N 1 * 2 + 1 by omega), pk_us, pk_un (show 59 + N 1 ≠ 1 by omega), pk_un (show 59 + N 1 ≠ 64 + N 1 by omega), pk_us], by rw [pk_us, pk_un (show 64 + N 1 ≠ 1 by omega), pk_us]⟩
    · have := zc i (by omega)
      rw [pk_un (show i * 2 ≠ N 1 * 2 + 1 by omega), pk_un (show i * 2 ≠ N 1 * 2 by omega), pk_un (show i * 2 + 1 ≠ N 1 * 2 + 1 by omega), pk_un (show i * 2 + 1 ≠ N 1 * 2 by omega), e1 (59 + i) (by omega) (by omega) (by omega), e1 (64 + i) (by omega) (by omega) (by omega)]
      exact this
theorem QI_addL (h : QI μ τ S N C Q) (hn : N 3 < 4) {x : Int32} {n : Nat} (h1 : x = -1 ∨ ∃ t, t < N 0 ∧ x = nI t) (h2 : n ≤ 20) (hμ1 : μ1 = fm_u (fm_u (fm_u (μ) 11 (N 3 * 2) (x)) 11 (N 3 * 2 + 1) (nI n)) 10 4 (nI (N 3 + 1))) (hμ2 : μ2 = fm_u (fm_u (fm_u (μ1) 68 (69 + N 3) (x)) 68 (73 + N 3) (nI n)) 68 3 (nI (N 3 + 1))) : QI μ2 τ (upd (upd (upd (S) (69 + N 3) (x)) (73 + N 3) (nI n)) 3 (nI (N 3 + 1))) (fun k => if k = 3 then N 3 + 1 else N k) C Q := by
  obtain ⟨b0, b1, b2, b3, b4, b5, b6, b8, b9, b10⟩ := QI_b h
  have e68 := QI_68 h
  have e1 : ∀ k, k ≠ 3 → k ≠ 69 + N 3 → k ≠ 73 + N 3 → (upd (upd (upd (S) (69 + N 3) (x)) (73 + N 3) (nI n)) 3 (nI (N 3 + 1))) k = S k := fun k a0 a1 a2 => by rw [pk_un a0, pk_un a2, pk_un a1]
  have em : ∀ r, r ≠ 68 → r ≠ 10 → r ≠ 11 → μ2 r = μ r := fun r x y z => by rw [hμ2, fm_un x, fm_un x, fm_un x, hμ1, fm_un y, fm_un z, fm_un z]
  have er : ∀ k, k ≠ 4 → μ2 10 k = μ 10 k := fun k hk => by rw [hμ2, fm_un (by decide), fm_un (by decide), fm_un (by decide), hμ1, fm_uk hk, fm_un (by decide), fm_un (by decide)]
  have ez : μ2 10 4 = nI (N 3 + 1) := by rw [hμ2, fm_un (by decide), fm_un (by decide), fm_un (by decide), hμ1, fm_us]
  have ea : μ2 11 = upd (upd (μ 11) (N 3 * 2) (x)) (N 3 * 2 + 1) (nI n) := by rw [hμ2, fm_un (by decide), fm_un (by decide), fm_un (by decide), hμ1, fm_un (by decide), fm_uu, fm_uu]
  refine QI_mut h (fun k hk => e1 k (by omega) (by omega) (by omega)) ⟨fun q hq => em q (by omega) (by omega) (by omega), fun q hq => ?h5⟩ ?h68 rfl rfl ?hk ⟨b1, hn, b4, b5, b6, b8, b9, b10⟩ (uW h rfl (fun k a b => e1 k (by omega) (by omega) (by omega))) ?sL (uR h rfl rfl (fun k a b => e1 k (by omega) (by omega) (by omega))) (uE h rfl rfl (fun k a b => e1 k (by omega) (by omega) (by omega))) (vN h (em 1 (by decide) (by decide) (by decide)) (em 2 (by decide) (by decide) (by decide)) (fun k a => e1 k (by omega) (by omega) (by omega))) (vT h rfl (em 4 (by decide) (by decide) (by decide)) (em 5 (by decide) (by decide) (by decide)) (fun k a => e1 k (by omega) (by omega) (by omega))) (vW h rfl (em 7 (by decide) (by decide) (by decide)) (em 8 (by decide) (by decide) (by decide)) (fun k a => e1 k (by omega) (by omega) (by omega))) ?gL (vR h rfl (em 13 (by decide) (by decide) (by decide)) (em 14 (by decide) (by decide) (by decide)) (fun k a => e1 k (by omega) (by omega) (by omega))) (vE h rfl (em 16 (by decide) (by decide) (by decide)) (em 17 (by decide) (by decide) (by decide)) (fun k a => e1 k (by omega) (by omega) (by omega)))
  case h5 =>
    by_cases hq10 : q = 10
    · subst hq10
      exact er 5 (by decide)
    · rw [em q (by omega) hq10 (by omega)]
  case h68 => rw [hμ2, fm_uu, fm_uu, fm_uu, hμ1, fm_un (by decide), fm_un (by decide), fm_un (by decide), e68]
  case hk =>
    intro k k1 k2
    by_cases q : k = 3
    · subst q
      exact pk_us
    · rw [e1 k q (by omega) (by omega), QI_S h k1 k2]
      exact congrArg nI (if_neg q).symm
  case sL =>
    intro i hi
    have hi' : i < N 3 + 1 := hi
    by_cases q : i = N 3
    · subst q
      refine ⟨?_, ⟨n, h2, by rw [pk_un (show 73 + N 3 ≠ 3 by omega), pk_us]⟩⟩
      rw [pk_un (show 69 + N 3 ≠ 3 by omega), pk_un (show 69 + N 3 ≠ 73 + N 3 by omega), pk_us]
      exact h1
    · have := (h.1.2.2.2.2.2.1 i (by omega))
      unfold okN at this ⊢
      rw [e1 (69 + i) (by omega) (by omega) (by omega), e1 (73 + i) (by omega) (by omega) (by omega)]
      exact this
  case gL =>
    obtain ⟨⟨z0, z1, z2⟩, zc⟩ : gL μ S N := h.2.1.1.2.2.2.1
    refine ⟨⟨(er 0 (by decide)).trans z0, (er 1 (by decide)).trans z1, ez.trans pk_us.symm⟩, fun i hi => ?_⟩
    have hi' : i < N 3 + 1 := hi
    rw [ea]
    by_cases q : i = N 3
    · subst q
      exact ⟨by rw [pk_un (show N 3 * 2 ≠ N 3 * 2 + 1 by omega), pk_us, pk_un (show 69 + N 3 ≠ 3 by omega), pk_un (show 69 + N 3 ≠ 73 + N 3 by omega), pk_us], by rw [pk_us, pk_un (show 73 + N 3 ≠ 3 by omega), pk_us]⟩
    · have := zc i (by omega)
      rw [pk_un (show i * 2 ≠ N 3 * 2 + 1 by omega), pk_un (show i * 2 ≠ N 3 * 2 by omega), pk_un (show i * 2 + 1 ≠ N 3 * 2 + 1 by omega), pk_un (show i * 2 + 1 ≠ N 3 * 2 by omega), e1 (69 + i) (by omega) (by omega) (by omega), e1 (73 + i) (by omega) (by omega) (by omega)]
      exact this
theorem QI_clrL (h : QI μ τ S N C Q) (hμ1 : μ1 = fm_u μ 10 4 (nI 0)) (hμ2 : μ2 = fm_u μ1 68 3 (nI 0)) : QI μ2 τ (upd S 3 (nI 0)) (fun k => if k = 3 then 0 else N k) C Q := by
  obtain ⟨b0, b1, b2, b3, b4, b5, b6, b8, b9, b10⟩ := QI_b h
  have e68 := QI_68 h
  have e1 : ∀ k, k ≠ 3 → (upd S 3 (nI 0)) k = S k := fun k a0 => pk_un a0
  have em : ∀ r, r ≠ 68 → r ≠ 10 → μ2 r = μ r := fun r x y => by rw [hμ2, fm_un x, hμ1, fm_un y]
  have er : ∀ k, k ≠ 4 → μ2 10 k = μ 10 k := fun k hk => by rw [hμ2, fm_un (by decide), hμ1, fm_uk hk]
  have ez : μ2 10 4 = nI 0 := by rw [hμ2, fm_un (by decide), hμ1, fm_us]
  refine QI_mut h (fun k hk => e1 k (by omega)) ⟨fun q hq => em q (by omega) (by omega), fun q hq => ?h5⟩ ?h68 rfl rfl ?hk ⟨b1, by simp, b4, b5, b6, b8, b9, b10⟩ (uW h rfl (fun k a b => e1 k (by omega))) ?sL (uR h rfl rfl (fun k a b => e1 k (by omega))) (uE h rfl rfl (fun k a b => e1 k (by omega))) (vN h (em 1 (by decide) (by decide)) (em 2 (by decide) (by decide)) (fun k a => e1 k (by omega))) (vT h rfl (em 4 (by decide) (by decide)) (em 5 (by decide) (by decide)) (fun k a => e1 k (by omega))) (vW h rfl (em 7 (by decide) (by decide)) (em 8 (by decide) (by decide)) (fun k a => e1 k (by omega))) ?gL (vR h rfl (em 13 (by decide) (by decide)) (em 14 (by decide) (by decide)) (fun k a => e1 k (by omega))) (vE h rfl (em 16 (by decide) (by decide)) (em 17 (by decide) (by decide)) (fun k a => e1 k (by omega)))
  case h5 =>
    by_cases hq10 : q = 10
    · subst hq10
      exact er 5 (by decide)
    · rw [em q (by omega) hq10]
  case h68 => rw [hμ2, fm_uu, hμ1, fm_un (by decide), e68]
  case hk =>
    intro k k1 k2
    by_cases q : k = 3
    · subst q
      exact pk_us
    · rw [e1 k q, QI_S h k1 k2]
      exact congrArg nI (if_neg q).symm
  case sL => exact fun i hi => absurd hi (by simp)
  case gL =>
    obtain ⟨⟨z0, z1, z2⟩, zc⟩ : gL μ S N := h.2.1.1.2.2.2.1
    exact ⟨⟨(er 0 (by decide)).trans z0, (er 1 (by decide)).trans z1, ez.trans pk_us.symm⟩, fun i hi => absurd hi (by simp)⟩
theorem QI_addR (h : QI μ τ S N C Q) (hn : N 4 < 4) {t n : Nat} (h1 : t < N 0) (h2 : n ≤ 20) (hμ1 : μ1 = fm_u (fm_u (fm_u (μ) 14 (N 4 * 2) (nI t)) 14 (N 4 * 2 + 1) (nI n)) 13 4 (nI (N 4 + 1))) (hμ2 : μ2 = fm_u (fm_u (fm_u (μ1) 68 (77 + N 4) (nI t)) 68 (81 + N 4) (nI n)) 68 4 (nI (N 4 + 1))) : QI μ2 τ (upd (upd (upd (S) (77 + N 4) (nI t)) (81 + N 4) (nI n)) 4 (nI (N 4 + 1))) (fun k => if k = 4 then N 4 + 1 else N k) C Q := by
  obtain ⟨b0, b1, b2, b3, b4, b5, b6, b8, b9, b10⟩ := QI_b h
  have e68 := QI_68 h
  have e1 : ∀ k, k ≠ 4 → k ≠ 77 + N 4 → k ≠ 81 + N 4 → (upd (upd (upd (S) (77 + N 4) (nI t)) (81 + N 4) (nI n)) 4 (nI (N 4 + 1))) k = S k := fun k a0 a1 a2 => by rw [pk_un a0, pk_un a2, pk_un a1]
  have em : ∀ r, r ≠ 68 → r ≠ 13 → r ≠ 14 → μ2 r = μ r := fun r x y z => by rw [hμ2, fm_un x, fm_un x, fm_un x, hμ1, fm_un y, fm_un z, fm_un z]
  have er : ∀ k, k ≠ 4 → μ2 13 k = μ 13 k := fun k hk => by rw [hμ2, fm_un (by decide), fm_un (by decide), fm_un (by decide), hμ1, fm_uk hk, fm_un (by decide), fm_un (by decide)]
  have ez : μ2 13 4 = nI (N 4 + 1) := by rw [hμ2, fm_un (by decide), fm_un (by decide), fm_un (by decide), hμ1, fm_us]
  have ea : μ2 14 = upd (upd (μ 14) (N 4 * 2) (nI t)) (N 4 * 2 + 1) (nI n) := by rw [hμ2, fm_un (by decide), fm_un (by decide), fm_un (by decide), hμ1, fm_un (by decide), fm_uu, fm_uu]
  refine QI_mut h (fun k hk => e1 k (by omega) (by omega) (by omega)) ⟨fun q hq => em q (by omega) (by omega) (by omega), fun q hq => ?h5⟩ ?h68 rfl rfl ?hk ⟨b1, b3, hn, b5, b6, b8, b9, b10⟩ (uW h rfl (fun k a b => e1 k (by omega) (by omega) (by omega))) (uL h rfl rfl (fun k a b => e1 k (by omega) (by omega) (by omega))) ?sR (uE h rfl rfl (fun k a b => e1 k (by omega) (by omega) (by omega))) (vN h (em 1 (by decide) (by decide) (by decide)) (em 2 (by decide) (by decide) (by decide)) (fun k a => e1 k (by omega) (by omega) (by omega))) (vT h rfl (em 4 (by decide) (by decide) (by decide)) (em 5 (by decide) (by decide) (by decide)) (fun k a => e1 k (by omega) (by omega) (by omega))) (vW h rfl (em 7 (by decide) (by decide) (by decide)) (em 8 (by decide) (by decide) (by decide)) (fun k a => e1 k (by omega) (by omega) (by omega))) (vL h rfl (em 10 (by decide) (by decide) (by decide)) (em 11 (by decide) (by decide) (by decide)) (fun k a => e1 k (by omega) (by omega) (by omega))) ?gR (vE h rfl (em 16 (by decide) (by decide) (by decide)) (em 17 (by decide) (by decide) (by decide)) (fun k a => e1 k (by omega) (by omega) (by omega)))
  case h5 =>
    by_cases hq13 : q = 13
    · subst hq13
      exact er 5 (by decide)
    · rw [em q (by omega) hq13 (by omega)]
  case h68 => rw [hμ2, fm_uu, fm_uu, fm_uu, hμ1, fm_un (by decide), fm_un (by decide), fm_un (by decide), e68]
  case hk =>
    intro k k1 k2
    by_cases q : k = 4
    · subst q
      exact pk_us
    · rw [e1 k q (by omega) (by omega), QI_S h k1 k2]
      exact congrArg nI (if_neg q).symm
  case sR =>
    intro i hi
    have hi' : i < N 4 + 1 := hi
    by_cases q : i = N 4
    · subst q
      exact ⟨⟨t, h1, by rw [pk_un (show 77 + N 4 ≠ 4 by omega), pk_un (show 77 + N 4 ≠ 81 + N 4 by omega), pk_us]⟩, ⟨n, h2, by rw [pk_un (show 81 + N 4 ≠ 4 by omega), pk_us]⟩⟩
    · have := (h.1.2.2.2.2.2.2.1 i (by omega))
      unfold okN at this ⊢
      rw [e1 (77 + i) (by omega) (by omega) (by omega), e1 (81 + i) (by omega) (by omega) (by omega)]
      exact this
  case gR =>
    obtain ⟨⟨z0, z1, z2⟩, zc⟩ : gR μ S N := h.2.1.1.2.2.2.2.1
    refine ⟨⟨(er 0 (by decide)).trans z0, (er 1 (by decide)).trans z1, ez.trans pk_us.symm⟩, fun i hi => ?_⟩
    have hi' : i < N 4 + 1 := hi
    rw [ea]
    by_cases q : i = N 4
    · subst q
      exact ⟨by rw [pk_un (show N 4 * 2 ≠ N 4 * 2 + 1 by omega), pk_us, pk_un (show 77 + N 4 ≠ 4 by omega), pk_un (show 77 + N 4 ≠ 81 + N 4 by omega), pk_us], by rw [pk_us, pk_un (show 81 + N 4 ≠ 4 by omega), pk_us]⟩
    · have := zc i (by omega)
      rw [pk_un (show i * 2 ≠ N 4 * 2 + 1 by omega), pk_un (show i * 2 ≠ N 4 * 2 by omega), pk_un (show i * 2 + 1 ≠ N 4 * 2 + 1 by omega), pk_un (show i * 2 + 1 ≠ N 4 * 2 by omega), e1 (77 + i) (by omega) (by omega) (by omega), e1 (81 + i) (by omega) (by omega) (by omega)]
      exact this
theorem QI_clrR (h : QI μ τ S N C Q) (hμ1 : μ1 = fm_u μ 13 4 (nI 0)) (hμ2 : μ2 = fm_u μ1 68 4 (nI 0)) : QI μ2 τ (upd S 4 (nI 0)) (fun k => if k = 4 then 0 else N k) C Q := by
  obtain ⟨b0, b1, b2, b3, b4, b5, b6, b8, b9, b10⟩ := QI_b h
  have e68 := QI_68 h
  have e1 : ∀ k, k ≠ 4 → (upd S 4 (nI 0)) k = S k := fun k a0 => pk_un a0
  have em : ∀ r, r ≠ 68 → r ≠ 13 → μ2 r = μ r := fun r x y => by rw [hμ2, fm_un x, hμ1, fm_un y]
  have er : ∀ k, k ≠ 4 → μ2 13 k = μ 13 k := fun k hk => by rw [hμ2, fm_un (by decide), hμ1, fm_uk hk]
  have ez : μ2 13 4 = nI 0 := by rw [hμ2, fm_un (by decide), hμ1, fm_us]
  refine QI_mut h (fun k hk => e1 k (by omega)) ⟨fun q hq => em q (by omega) (by omega), fun q hq => ?h5⟩ ?h68 rfl rfl ?hk ⟨b1, b3, by simp, b5, b6, b8, b9, b10⟩ (uW h rfl (fun k a b => e1 k (by omega))) (uL h rfl rfl (fun k a b => e1 k (by omega))) ?sR (uE h rfl rfl (fun k a b => e1 k (by omega))) (vN h (em 1 (by decide) (by decide)) (em 2 (by decide) (by decide)) (fun k a => e1 k (by omega))) (vT h rfl (em 4 (by decide) (by decide)) (em 5 (by decide) (by decide)) (fun k a => e1 k (by omega))) (vW h rfl (em 7 (by decide) (by decide)) (em 8 (by decide) (by decide)) (fun k a => e1 k (by omega))) (vL h rfl (em 10 (by decide) (by decide)) (em 11 (by decide) (by decide)) (fun k a => e1 k (by omega))) ?gR (vE h rfl (em 16 (by decide) (by decide)) (em 17 (by decide) (by decide)) (fun k a => e1 k (by omega)))
  case h5 =>
    by_cases hq13 : q = 13
    · subst hq13
      exact er 5 (by decide)
    · rw [em q (by omega) hq13]
  case h68 => rw [hμ2, fm_uu, hμ1, fm_un (by decide), e68]
  case hk =>
    intro k k1 k2
    by_cases q : k = 4
    · subst q
      exact pk_us
    · rw [e1 k q, QI_S h k1 k2]
      exact congrArg nI (if_neg q).symm
  case sR => exact fun i hi => absurd hi (by simp)
  case gR =>
    obtain ⟨⟨z0, z1, z2⟩, zc⟩ : gR μ S N := h.2.1.1.2.2.2.2.1
    exact ⟨⟨(er 0 (by decide)).trans z0, (er 1 (by decide)).trans z1, ez.trans pk_us.symm⟩, fun i hi => absurd hi (by simp)⟩
theorem QI_addE (h : QI μ τ S N C Q) (hn : N 5 < 8) {t m u : Nat} (h1 : t < N 0) (h2 : m ≤ 999) (h3 : u ≤ 99) (hμ1 : μ1 = fm_u (fm_u (fm_u (fm_u (μ) 17 (N 5 * 3) (nI t)) 17 (N 5 * 3 + 1) (nI m)) 17 (N 5 * 3 + 2) (nI u)) 16 4 (nI (N 5 + 1))) (hμ2 : μ2 = fm_u (fm_u (fm_u (fm_u (μ1) 68 (85 + N 5) (nI t)) 68 (93 + N 5) (nI m)) 68 (101 + N 5) (nI u)) 68 5 (nI (N 5 + 1))) : QI μ2 τ (upd (upd (upd (upd (S) (85 + N 5) (nI t)) (93 + N 5) (nI m)) (101 + N 5) (nI u)) 5 (nI (N 5 + 1))) (fun k => if k = 5 then N 5 + 1 else N k) C Q := by
  obtain ⟨b0, b1, b2, b3, b4, b5, b6, b8, b9, b10⟩ := QI_b h
  have e68 := QI_68 h
  have e1 : ∀ k, k ≠ 5 → k ≠ 85 + N 5 → k ≠ 93 + N 5 → k ≠ 101 + N 5 → (upd (upd (upd (upd (S) (85 + N 5) (nI t)) (93 + N 5) (nI m)) (101 + N 5) (nI u)) 5 (nI (N 5 + 1))) k = S k := fun k a0 a1 a2 a3 => by rw [pk_un a0, pk_un a3, pk_un a2, pk_un a1]
  have em : ∀ r, r ≠ 68 → r ≠ 16 → r ≠ 17 → μ2 r = μ r := fun r x y z => by rw [hμ2, fm_un x, fm_un x, fm_un x, fm_un x, hμ1, fm_un y, fm_un z, fm_un z, fm_un z]
  have er : ∀ k, k ≠ 4 → μ2 16 k = μ 16 k := fun k hk => by rw [hμ2, fm_un (by decide), fm_un (by decide), fm_un (by decide), fm_un (by decide), hμ1, fm_uk hk, fm_un (by decide), fm_un (by decide), fm_un (by decide)]
  have ez : μ2 16 4 = nI (N 5 + 1) := by rw [hμ2, fm_un (by decide), fm_un (by decide), fm_un (by decide), fm_un (by decide), hμ1, fm_us]
  have ea : μ2 17 = upd (upd (upd (μ 17) (N 5 * 3) (nI t)) (N 5 * 3 + 1) (nI m)) (N 5 * 3 + 2) (nI u) := by rw [hμ2, fm_un (by decide), fm_un (by decide), fm_un (by decide), fm_un (by decide), hμ1, fm_un (by decide), fm_uu, fm_uu, fm_uu]
  refine QI_mut h (fun k hk => e1 k (by omega) (by omega) (by omega) (by omega)) ⟨fun q hq => em q (by omega) (by omega) (by omega), fun q hq => ?h5⟩ ?h68 rfl rfl ?hk ⟨b1, b3, b4, hn, b6, b8, b9, b10⟩ (uW h rfl (fun k a b => e1 k (by omega) (by omega) (by omega) (by omega))) (uL h rfl rfl (fun k a b => e1 k (by omega) (by omega) (by omega) (by omega))) (uR h rfl rfl (fun k a b => e1 k (by omega) (by omega) (by omega) (by omega))) ?sE (vN h (em 1 (by decide) (by decide) (by decide)) (em 2 (by decide) (by decide) (by decide)) (fun k a => e1 k (by omega) (by omega) (by omega) (by omega))) (vT h rfl (em 4 (by decide) (by decide) (by decide)) (em 5 (by decide) (by decide) (by decide)) (fun k a => e1 k (by omega) (by omega) (by omega) (by omega))) (vW h rfl (em 7 (by decide) (by decide) (by decide)) (em 8 (by decide) (by decide) (by decide)) (fun k a => e1 k (by omega) (by omega) (by omega) (by omega))) (vL h rfl (em 10 (by decide) (by decide) (by decide)) (em 11 (by decide) (by decide) (by decide)) (fun k a => e1 k (by omega) (by omega) (by omega) (by omega))) (vR h rfl (em 13 (by decide) (by decide) (by decide)) (em 14 (by decide) (by decide) (by decide)) (fun k a => e1 k (by omega) (by omega) (by omega) (by omega))) ?gE
  case h5 =>
    by_cases hq16 : q = 16
    · subst hq16
      exact er 5 (by decide)
    · rw [em q (by omega) hq16 (by omega)]
  case h68 => rw [hμ2, fm_uu, fm_uu, fm_uu, fm_uu, hμ1, fm_un (by decide), fm_un (by decide), fm_un (by decide), fm_un (by decide), e68]
  case hk =>
    intro k k1 k2
    by_cases q : k = 5
    · subst q
      exact pk_us
    · rw [e1 k q (by omega) (by omega) (by omega), QI_S h k1 k2]
      exact congrArg nI (if_neg q).symm
  case sE =>
    intro i hi
    have hi' : i < N 5 + 1 := hi
    by_cases q : i = N 5
    · subst q
      exact ⟨⟨t, h1, by rw [pk_un (show 85 + N 5 ≠ 5 by omega), pk_un (show 85 + N 5 ≠ 101 + N 5 by omega), pk_un (show 85 + N 5 ≠ 93 + N 5 by omega), pk_us]⟩, ⟨m, h2, by rw [pk_un (show 93 + N 5 ≠ 5 by omega), pk_un (show 93 + N 5 ≠ 101 + N 5 by omega), pk_us]⟩, ⟨u, h3, by rw [pk_un (show 101 + N 5 ≠ 5 by omega), pk_us]⟩⟩
    · have := (h.1.2.2.2.2.2.2.2.1 i (by omega))
      unfold okN at this ⊢
      rw [e1 (85 + i) (by omega) (by omega) (by omega) (by omega), e1 (93 + i) (by omega) (by omega) (by omega) (by omega), e1 (101 + i) (by omega) (by omega) (by omega) (by omega)]
      exact this
  case gE =>
    obtain ⟨⟨z0, z1, z2⟩, zc⟩ : gE μ S N := h.2.1.1.2.2.2.2.2
    refine ⟨⟨(er 0 (by decide)).trans z0, (er 1 (by decide)).trans z1, ez.trans pk_us.symm⟩, fun i hi => ?_⟩
    have hi' : i < N 5 + 1 := hi
    rw [ea]
    by_cases q : i = N 5
    · subst q
      exact ⟨by rw [pk_un (show N 5 * 3 ≠ N 5 * 3 + 2 by omega), pk_un (show N 5 * 3 ≠ N 5 * 3 + 1 by omega), pk_us, pk_un (show 85 + N 5 ≠ 5 by omega), pk_un (show 85 + N 5 ≠ 101 + N 5 by omega), pk_un (show 85 + N 5 ≠ 93 + N 5 by omega), pk_us], by rw [pk_un (show N 5 * 3 + 1 ≠ N 5 * 3 + 2 by omega), pk_us, pk_un (show 93 + N 5 ≠ 5 by omega), pk_un (show 93 + N 5 ≠ 101 + N 5 by omega), pk_us], by rw [pk_us, pk_un (show 101 + N 5 ≠ 5 by omega), pk_us]⟩
    · have := zc i (by omega)
      rw [pk_un (show i * 3 ≠ N 5 * 3 + 2 by omega), pk_un (show i * 3 ≠ N 5 * 3 + 1 by omega), pk_un (show i * 3 ≠ N 5 * 3 by omega), pk_un (show i * 3 + 1 ≠ N 5 * 3 + 2 by omega), pk_un (show i * 3 + 1 ≠ N 5 * 3 + 1 by omega), pk_un (show i * 3 + 1 ≠ N 5 * 3 by omega), pk_un (show i * 3 + 2 ≠ N 5 * 3 + 2 by omega), pk_un (show i * 3 + 2 ≠ N 5 * 3 + 1 by omega), pk_un (show i * 3 + 2 ≠ N 5 * 3 by omega), e1 (85 + i) (by omega) (by omega) (by omega) (by omega), e1 (93 + i) (by omega) (by omega) (by omega) (by omega), e1 (101 + i) (by omega) (by omega) (by omega) (by omega)]
      exact this
theorem QI_clrE (h : QI μ τ S N C Q) (hμ1 : μ1 = fm_u μ 16 4 (nI 0)) (hμ2 : μ2 = fm_u μ1 68 5 (nI 0)) : QI μ2 τ (upd S 5 (nI 0)) (fun k => if k = 5 then 0 else N k) C Q := by
  obtain ⟨b0, b1, b2, b3, b4, b5, b6, b8, b9, b10⟩ := QI_b h
  have e68 := QI_68 h
  have e1 : ∀ k, k ≠ 5 → (upd S 5 (nI 0)) k = S k := fun k a0 => pk_un a0
  have em : ∀ r, r ≠ 68 → r ≠ 16 → μ2 r = μ r := fun r x y => by rw [hμ2, fm_un x, hμ1, fm_un y]
  have er : ∀ k, k ≠ 4 → μ2 16 k = μ 16 k := fun k hk => by rw [hμ2, fm_un (by decide), hμ1, fm_uk hk]
  have ez : μ2 16 4 = nI 0 := by rw [hμ2, fm_un (by decide), hμ1, fm_us]
  refine QI_mut h (fun k hk => e1 k (by omega)) ⟨fun q hq => em q (by omega) (by omega), fun q hq => ?h5⟩ ?h68 rfl rfl ?hk ⟨b1, b3, b4, by simp, b6, b8, b9, b10⟩ (uW h rfl (fun k a b => e1 k (by omega))) (uL h rfl rfl (fun k a b => e1 k (by omega))) (uR h rfl rfl (fun k a b => e1 k (by omega))) ?sE (vN h (em 1 (by decide) (by decide)) (em 2 (by decide) (by decide)) (fun k a => e1 k (by omega))) (vT h rfl (em 4 (by decide) (by decide)) (em 5 (by decide) (by decide)) (fun k a => e1 k (by omega))) (vW h rfl (em 7 (by decide) (by decide)) (em 8 (by decide) (by decide)) (fun k a => e1 k (by omega))) (vL h rfl (em 10 (by decide) (by decide)) (em 11 (by decide) (by decide)) (fun k a => e1 k (by omega))) (vR h rfl (em 13 (by decide) (by decide)) (em 14 (by decide) (by decide)) (fun k a => e1 k (by omega))) ?gE
  case h5 =>
    by_cases hq16 : q = 16
    · subst hq16
      exact er 5 (by decide)
    · rw [em q (by omega) hq16]
  case h68 => rw [hμ2, fm_uu, hμ1, fm_un (by decide), e68]
  case hk =>
    intro k k1 k2
    by_cases q : k = 5
    · subst q
      exact pk_us
    · rw [e1 k q, QI_S h k1 k2]
      exact congrArg nI (if_neg q).symm
  case sE => exact fun i hi => absurd hi (by simp)
  case gE =>
    obtain ⟨⟨z0, z1, z2⟩, zc⟩ : gE μ S N := h.2.1.1.2.2.2.2.2
    exact ⟨⟨(er 0 (by decide)).trans z0, (er 1 (by decide)).trans z1, ez.trans pk_us.symm⟩, fun i hi => absurd hi (by simp)⟩
theorem QI_addT (h : QI μ τ S N C Q) (hn : N 6 < 100) {x : Int32} (hx : byI x) (hμ1 : μ1 = fm_u (fm_u μ 5 (N 6) x) 4 4 (nI (N 6 + 1))) (hμ2 : μ2 = fm_u (fm_u μ1 68 (109 + N 6) x) 68 6 (nI (N 6 + 1))) : QI μ2 τ (upd (upd S (109 + N 6) x) 6 (nI (N 6 + 1))) (fun k => if k = 6 then N 6 + 1 else N k) C Q := by
  obtain ⟨b0, b1, b2, b3, b4, b5, b6, b8, b9, b10⟩ := QI_b h
  have e68 := QI_68 h
  have e1 : ∀ k, k ≠ 6 → k ≠ 109 + N 6 → (upd (upd S (109 + N 6) x) 6 (nI (N 6 + 1))) k = S k := fun k a0 a1 => by rw [pk_un a0, pk_un a1]
  have em : ∀ r, r ≠ 68 → r ≠ 4 → r ≠ 5 → μ2 r = μ r := fun r x y z => by rw [hμ2, fm_un x, fm_un x, hμ1, fm_un y, fm_un z]
  have er : ∀ k, k ≠ 4 → μ2 4 k = μ 4 k := fun k hk => by rw [hμ2, fm_un (by decide), fm_un (by decide), hμ1, fm_uk hk, fm_un (by decide)]
  have ez : μ2 4 4 = nI (N 6 + 1) := by rw [hμ2, fm_un (by decide), fm_un (by decide), hμ1, fm_us]
  have ea : μ2 5 = upd (μ 5) (N 6) x := by rw [hμ2, fm_un (by decide), fm_un (by decide), hμ1, fm_un (by decide), fm_uu]
  refine QI_mut h (fun k hk => e1 k (by omega) (by omega)) ⟨fun q hq => em q (by omega) (by omega) (by omega), fun q hq => ?h5⟩ ?h68 rfl rfl ?hk ⟨b1, b3, b4, b5, hn, b8, b9, b10⟩ (uW h rfl (fun k a b => e1 k (by omega) (by omega))) (uL h rfl rfl (fun k a b => e1 k (by omega) (by omega))) (uR h rfl rfl (fun k a b => e1 k (by omega) (by omega))) (uE h rfl rfl (fun k a b => e1 k (by omega) (by omega))) (vN h (em 1 (by decide) (by decide) (by decide)) (em 2 (by decide) (by decide) (by decide)) (fun k a => e1 k (by omega) (by omega))) ?gT (vW h rfl (em 7 (by decide) (by decide) (by decide)) (em 8 (by decide) (by decide) (by decide)) (fun k a => e1 k (by omega) (by omega))) (vL h rfl (em 10 (by decide) (by decide) (by decide)) (em 11 (by decide) (by decide) (by decide)) (fun k a => e1 k (by omega) (by omega))) (vR h rfl (em 13 (by decide) (by decide) (by decide)) (em 14 (by decide) (by decide) (by decide)) (fun k a => e1 k (by omega) (by omega))) (vE h rfl (em 16 (by decide) (by decide) (by decide)) (em 17 (by decide) (by decide) (by decide)) (fun k a => e1 k (by omega) (by omega)))
  case h5 =>
    by_cases hq4 : q = 4
    · subst hq4
      exact er 5 (by decide)
    · rw [em q (by omega) hq4 (by omega)]
  case h68 => rw [hμ2, fm_uu, fm_uu, hμ1, fm_un (by decide), fm_un (by decide), e68]
  case hk =>
    intro k k1 k2
    by_cases q : k = 6
    · subst q
      exact pk_us
    · rw [e1 k q (by omega), QI_S h k1 k2]
      exact congrArg nI (if_neg q).symm
  case gT =>
    obtain ⟨⟨z0, z1, z2⟩, zc⟩ : gT μ S N := h.2.1.1.2.1
    refine ⟨⟨(er 0 (by decide)).trans z0, (er 1 (by decide)).trans z1, ez.trans pk_us.symm⟩, fun i hi => ?_⟩
    have hi' : i < N 6 + 1 := hi
    rw [ea]
    by_cases q : i = N 6
    · subst q
      rw [pk_us, pk_un (show 109 + N 6 ≠ 6 by omega), pk_us]
      exact ⟨rfl, hx⟩
    · have := zc i (by omega)
      rw [pk_un q, e1 (109 + i) (by omega) (by omega)]
      exact this
theorem QI_setG (h : QI μ τ S N C Q) {x : Nat} (hx : x ≤ 999) (hμ1 : μ1 = fm_u μ 2 0 (nI x)) (hμ2 : μ2 = fm_u μ1 68 8 (nI x)) : QI μ2 τ (upd S 8 (nI x)) (fun k => if k = 8 then x else N k) C Q := by
  obtain ⟨b0, b1, b2, b3, b4, b5, b6, b8, b9, b10⟩ := QI_b h
  have e68 := QI_68 h
  have e1 : ∀ k, k ≠ 8 → (upd S 8 (nI x)) k = S k := fun k a0 => pk_un a0
  have em : ∀ r, r ≠ 68 → r ≠ 2 → μ2 r = μ r := fun r x y => by rw [hμ2, fm_un x, hμ1, fm_un y]
  have ea : μ2 2 = upd (μ 2) 0 (nI x) := by rw [hμ2, fm_un (by decide), hμ1, fm_uu]
  refine QI_mut h (fun k hk => e1 k (by omega)) ⟨fun q hq => em q (by omega) (by omega), fun q hq => by rw [em q (by omega) (by omega)]⟩ ?h68 rfl rfl ?hk ⟨b1, b3, b4, b5, b6, hx, b9, b10⟩ (uW h rfl (fun k a b => e1 k (by omega))) (uL h rfl rfl (fun k a b => e1 k (by omega))) (uR h rfl rfl (fun k a b => e1 k (by omega))) (uE h rfl rfl (fun k a b => e1 k (by omega))) ?gN (vT h rfl (em 4 (by decide) (by decide)) (em 5 (by decide) (by decide)) (fun k a => e1 k (by omega))) (vW h rfl (em 7 (by decide) (by decide)) (em 8 (by decide) (by decide)) (fun k a => e1 k (by omega))) (vL h rfl (em 10 (by decide) (by decide)) (em 11 (by decide) (by decide)) (fun k a => e1 k (by omega))) (vR h rfl (em 13 (by decide) (by decide)) (em 14 (by decide) (by decide)) (fun k a => e1 k (by omega))) (vE h rfl (em 16 (by decide) (by decide)) (em 17 (by decide) (by decide)) (fun k a => e1 k (by omega)))
  case h68 => rw [hμ2, fm_uu, hμ1, fm_un (by decide), e68]
  case hk =>
    intro k k1 k2
    by_cases q : k = 8
    · subst q
      exact pk_us
    · rw [e1 k q, QI_S h k1 k2]
      exact congrArg nI (if_neg q).symm
  case gN =>
    obtain ⟨z, z0, z1, z2, z3, z4⟩ : gN μ S := h.2.1.1.1
    unfold gN rwI
    unfold rwI at z
    rw [em 1 (by decide) (by decide), ea]
    exact ⟨z, by rw [pk_us, pk_us], by rw [pk_un (show (1 : Nat) ≠ 0 by decide), pk_un (show (9 : Nat) ≠ 8 by decide)]; exact z1, by rw [pk_un (show (2 : Nat) ≠ 0 by decide), pk_un (show (10 : Nat) ≠ 8 by decide)]; exact z2, by rw [pk_un (show (3 : Nat) ≠ 0 by decide), pk_un (show (2 : Nat) ≠ 8 by decide)]; exact z3, by rw [pk_un (show (4 : Nat) ≠ 0 by decide), pk_un (show (0 : Nat) ≠ 8 by decide)]; exact z4⟩
theorem QI_setH (h : QI μ τ S N C Q) {x : Nat} (hx : x ≤ 99) (hμ1 : μ1 = fm_u μ 2 1 (nI x)) (hμ2 : μ2 = fm_u μ1 68 9 (nI x)) : QI μ2 τ (upd S 9 (nI x)) (fun k => if k = 9 then x else N k) C Q := by
  obtain ⟨b0, b1, b2, b3, b4, b5, b6, b8, b9, b10⟩ := QI_b h
  have e68 := QI_68 h
  have e1 : ∀ k, k ≠ 9 → (upd S 9 (nI x)) k = S k := fun k a0 => pk_un a0
  have em : ∀ r, r ≠ 68 → r ≠ 2 → μ2 r = μ r := fun r x y => by rw [hμ2, fm_un x, hμ1, fm_un y]
  have ea : μ2 2 = upd (μ 2) 1 (nI x) := by rw [hμ2, fm_un (by decide), hμ1, fm_uu]
  refine QI_mut h (fun k hk => e1 k (by omega)) ⟨fun q hq => em q (by omega) (by omega), fun q hq => by rw [em q (by omega) (by omega)]⟩ ?h68 rfl rfl ?hk ⟨b1, b3, b4, b5, b6, b8, hx, b10⟩ (uW h rfl (fun k a b => e1 k (by omega))) (uL h rfl rfl (fun k a b => e1 k (by omega))) (uR h rfl rfl (fun k a b => e1 k (by omega))) (uE h rfl rfl (fun k a b => e1 k (by omega))) ?gN (vT h rfl (em 4 (by decide) (by decide)) (em 5 (by decide) (by decide)) (fun k a => e1 k (by omega))) (vW h rfl (em 7 (by decide) (by decide)) (em 8 (by decide) (by decide)) (fun k a => e1 k (by omega))) (vL h rfl (em 10 (by decide) (by decide)) (em 11 (by decide) (by decide)) (fun k a => e1 k (by omega))) (vR h rfl (em 13 (by decide) (by decide)) (em 14 (by decide) (by decide)) (fun k a => e1 k (by omega))) (vE h rfl (em 16 (by decide) (by decide)) (em 17 (by decide) (by decide)) (fun k a => e1 k (by omega)))
  case h68 => rw [hμ2, fm_uu, hμ1, fm_un (by decide), e68]
  case hk =>
    intro k k1 k2
    by_cases q : k = 9
    · subst q
      exact pk_us
    · rw [e1 k q, QI_S h k1 k2]
      exact congrArg nI (if_neg q).symm
  case gN =>
    obtain ⟨z, z0, z1, z2, z3, z4⟩ : gN μ S := h.2.1.1.1
    unfold gN rwI
    unfold rwI at z
    rw [em 1 (by decide) (by decide), ea]
    exact ⟨z, by rw [pk_un (show (0 : Nat) ≠ 1 by decide), pk_un (show (8 : Nat) ≠ 9 by decide)]; exact z0, by rw [pk_us, pk_us], by rw [pk_un (show (2 : Nat) ≠ 1 by decide), pk_un (show (10 : Nat) ≠ 9 by decide)]; exact z2, by rw [pk_un (show (3 : Nat) ≠ 1 by decide), pk_un (show (2 : Nat) ≠ 9 by decide)]; exact z3, by rw [pk_un (show (4 : Nat) ≠ 1 by decide), pk_un (show (0 : Nat) ≠ 9 by decide)]; exact z4⟩
theorem QI_setK (h : QI μ τ S N C Q) {x : Nat} (hx : x ≤ 99) (hμ1 : μ1 = fm_u μ 2 2 (nI x)) (hμ2 : μ2 = fm_u μ1 68 10 (nI x)) : QI μ2 τ (upd S 10 (nI x)) (fun k => if k = 10 then x else N k) C Q := by
  obtain ⟨b0, b1, b2, b3, b4, b5, b6, b8, b9, b10⟩ := QI_b h
  have e68 := QI_68 h
  have e1 : ∀ k, k ≠ 10 → (upd S 10 (nI x)) k = S k := fun k a0 => pk_un a0
  have em : ∀ r, r ≠ 68 → r ≠ 2 → μ2 r = μ r := fun r x y => by rw [hμ2, fm_un x, hμ1, fm_un y]
  have ea : μ2 2 = upd (μ 2) 2 (nI x) := by rw [hμ2, fm_un (by decide), hμ1, fm_uu]
  refine QI_mut h (fun k hk => e1 k (by omega)) ⟨fun q hq => em q (by omega) (by omega), fun q hq => by rw [em q (by omega) (by omega)]⟩ ?h68 rfl rfl ?hk ⟨b1, b3, b4, b5, b6, b8, b9, hx⟩ (uW h rfl (fun k a b => e1 k (by omega))) (uL h rfl rfl (fun k a b => e1 k (by omega))) (uR h rfl rfl (fun k a b => e1 k (by omega))) (uE h rfl rfl (fun k a b => e1 k (by omega))) ?gN (vT h rfl (em 4 (by decide) (by decide)) (em 5 (by decide) (by decide)) (fun k a => e1 k (by omega))) (vW h rfl (em 7 (by decide) (by decide)) (em 8 (by decide) (by decide)) (fun k a => e1 k (by omega))) (vL h rfl (em 10 (by decide) (by decide)) (em 11 (by decide) (by decide)) (fun k a => e1 k (by omega))) (vR h rfl (em 13 (by decide) (by decide)) (em 14 (by decide) (by decide)) (fun k a => e1 k (by omega))) (vE h rfl (em 16 (by decide) (by decide)) (em 17 (by decide) (by decide)) (fun k a => e1 k (by omega)))
  case h68 => rw [hμ2, fm_uu, hμ1, fm_un (by decide), e68]
  case hk =>
    intro k k1 k2
    by_cases q : k = 10
    · subst q
      exact pk_us
    · rw [e1 k q, QI_S h k1 k2]
      exact congrArg nI (if_neg q).symm
  case gN =>
    obtain ⟨z, z0, z1, z2, z3, z4⟩ : gN μ S := h.2.1.1.1
    unfold gN rwI
    unfold rwI at z
    rw [em 1 (by decide) (by decide), ea]
    exact ⟨z, by rw [pk_un (show (0 : Nat) ≠ 2 by decide), pk_un (show (8 : Nat) ≠ 10 by decide)]; exact z0, by rw [pk_un (show (1 : Nat) ≠ 2 by decide), pk_un (show (9 : Nat) ≠ 10 by decide)]; exact z1, by rw [pk_us, pk_us], by rw [pk_un (show (3 : Nat) ≠ 2 by decide), pk_un (show (2 : Nat) ≠ 10 by decide)]; exact z3, by rw [pk_un (show (4 : Nat) ≠ 2 by decide), pk_un (show (0 : Nat) ≠ 10 by decide)]; exact z4⟩
theorem QI_gear (h : QI μ τ S N C Q) {j p c : Nat} (hj : j < N 1) (h1 : 1 ≤ p) (h2 : p ≤ 20) (h3 : c ≤ 99) (hμ1 : μ1 = fm_u (fm_u μ 8 (j * 2) (nI p)) 8 (j * 2 + 1) (nI c)) (hμ2 : μ2 = fm_u (fm_u μ1 68 (59 + j) (nI p)) 68 (64 + j) (nI c)) : QI μ2 τ (upd (upd S (59 + j) (nI p)) (64 + j) (nI c)) N C Q := by
  obtain ⟨b0, b1, b2, b3, b4, b5, b6, b8, b9, b10⟩ := QI_b h
  have e68 := QI_68 h
  have e1 : ∀ k, k ≠ 59 + j → k ≠ 64 + j → (upd (upd S (59 + j) (nI p)) (64 + j) (nI c)) k = S k := fun k a0 a1 => by rw [pk_un a1, pk_un a0]
  have em : ∀ r, r ≠ 68 → r ≠ 8 → μ2 r = μ r := fun r x y => by rw [hμ2, fm_un x, fm_un x, hμ1, fm_un y, fm_un y]
  have ea : μ2 8 = upd (upd (μ 8) (j * 2) (nI p)) (j * 2 + 1) (nI c) := by rw [hμ2, fm_un (by decide), fm_un (by decide), hμ1, fm_uu, fm_uu]
  refine QI_mut h (fun k hk => e1 k (by omega) (by omega)) ⟨fun q hq => em q (by omega) (by omega), fun q hq => by rw [em q (by omega) (by omega)]⟩ ?h68 rfl rfl ?hk ⟨b1, b3, b4, b5, b6, b8, b9, b10⟩ ?sW (uL h rfl rfl (fun k a b => e1 k (by omega) (by omega))) (uR h rfl rfl (fun k a b => e1 k (by omega) (by omega))) (uE h rfl rfl (fun k a b => e1 k (by omega) (by omega))) (vN h (em 1 (by decide) (by decide)) (em 2 (by decide) (by decide)) (fun k a => e1 k (by omega) (by omega))) (vT h rfl (em 4 (by decide) (by decide)) (em 5 (by decide) (by decide)) (fun k a => e1 k (by omega) (by omega))) ?gW (vL h rfl (em 10 (by decide) (by decide)) (em 11 (by decide) (by decide)) (fun k a => e1 k (by omega) (by omega))) (vR h rfl (em 13 (by decide) (by decide)) (em 14 (by decide) (by decide)) (fun k a => e1 k (by omega) (by omega))) (vE h rfl (em 16 (by decide) (by decide)) (em 17 (by decide) (by decide)) (fun k a => e1 k (by omega) (by omega)))
  case h68 => rw [hμ2, fm_uu, fm_uu, hμ1, fm_un (by decide), fm_un (by decide), e68]
  case hk =>
    intro k k1 k2
    rw [e1 k (by omega) (by omega), QI_S h k1 k2]
  case sW =>
    intro i hi
    by_cases q : i = j
    · subst q
      exact ⟨⟨p, h1, h2, by rw [pk_un (show 59 + i ≠ 64 + i by omega), pk_us]⟩, ⟨c, h3, by rw [pk_us]⟩⟩
    · have := (h.1.2.2.2.2.1 i (by omega))
      unfold okN at this ⊢
      rw [e1 (59 + i) (by omega) (by omega), e1 (64 + i) (by omega) (by omega)]
      exact this
  case gW =>
    obtain ⟨⟨z0, z1, z2⟩, zc⟩ : gW μ S N := h.2.1.1.2.2.1
    refine ⟨⟨by rw [em 7 (by decide) (by decide)]; exact z0, by rw [em 7 (by decide) (by decide)]; exact z1, by rw [em 7 (by decide) (by decide), e1 1 (by omega) (by omega)]; exact z2⟩, fun i hi => ?_⟩
    rw [ea]
    by_cases q : i = j
    · subst q
      exact ⟨by rw [pk_un (show i * 2 ≠ i * 2 + 1 by omega), pk_us, pk_un (show 59 + i ≠ 64 + i by omega), pk_us], by rw [pk_us, pk_us]⟩
    · have := zc i hi
      rw [pk_un (show i * 2 ≠ j * 2 + 1 by omega), pk_un (show i * 2 ≠ j * 2 by omega), pk_un (show i * 2 + 1 ≠ j * 2 + 1 by omega), pk_un (show i * 2 + 1 ≠ j * 2 by omega), e1 (59 + i) (by omega) (by omega), e1 (64 + i) (by omega) (by omega)]
      exact this
end AD
