/-! ===== the model's answers about a way ===== -/
--need 32.mways
def skS (S : Nat → Int32) : Int32 := if S 7 = -1 then nI 99 else S (209 + (S 7).toNatClampNeg)
def wtS (S : Nat → Int32) : Int32 := if S 7 = -1 then nI 1 else S (214 + (S 7).toNatClampNeg)
/-- wet after got, under a coat -/
def wbS (S : Nat → Int32) (gt coat : Int32) : Int32 := if skS S < ev_a (gt - coat) then skS S else ev_a (gt - coat)
/-- 0 wet, 1 minutes, 2 cost -/
def tlS (S : Nat → Int32) (coat : Int32) (what : Nat) (mins : Nat) (gt : Int32) : Int32 := if what = 0 then wbS S gt coat else if what = 1 then nI mins else wbS S gt coat + wtS S * nI mins
section MT
variable {X : ix_X} {d : Nat} {τ : List fm_D} {μ : fm_M} {S : Nat → Int32} {cs : List Nat} {n : Nat}
theorem mo_soak (hk : mk2 μ S n cs) : ix_call X d 156 [.ref 67, .int (nI 209), .int (nI 99)] (fm_W μ τ) = some (some (.int (skS S)), fm_W μ τ) := by
  obtain ⟨⟨_, h, _⟩, e⟩ := hk
  unfold skS
  rw [← e]
  rcases h with ⟨h7, _⟩ | ⟨a, ha, h7, _⟩
  · rw [mo_tellsN h7, if_pos h7]
  · have hn : ¬ μ 68 7 = -1 := by rw [h7, zm_eq (by omega)]; exact id
    rw [mo_tells h7 ha (by omega), if_neg hn, h7, nI_clamp (show a < 2 ^ 31 by omega)]
theorem mo_wait (hk : mk2 μ S n cs) : ix_call X d 156 [.ref 67, .int (nI 214), .int (nI 1)] (fm_W μ τ) = some (some (.int (wtS S)), fm_W μ τ) := by
  obtain ⟨⟨_, h, _⟩, e⟩ := hk
  unfold wtS
  rw [← e]
  rcases h with ⟨h7, _⟩ | ⟨a, ha, h7, _⟩
  · rw [mo_tellsN h7, if_pos h7]
  · have hn : ¬ μ 68 7 = -1 := by rw [h7, zm_eq (by omega)]; exact id
    rw [mo_tells h7 ha (by omega), if_neg hn, h7, nI_clamp (show a < 2 ^ 31 by omega)]
theorem mo_wetBy {pl mn : Nat} {gt coat : Int32} (hk : mk2 μ S n cs) (ht : mtr μ pl mn gt) : ix_call X (d + 1) 177 [.ref 67, .int coat] (fm_W μ τ) = some (some (.int (wbS S gt coat)), fm_W μ τ) := by
  obtain ⟨t1, t2, t3⟩ := ht
  have hs := mo_soak (X := X) (d := d) (τ := τ) hk
  unfold wbS
  by_cases hq : skS S < ev_a (gt - coat)
  · have hq' : ¬ ev_a (gt - coat) ≤ skS S := Int32.not_le.mpr hq
    simp (disch := first | assumption | omega | decide) only [e177, i177_0, i177_1, i177_4, i177_5, i177_6, i177_9, i177_10, i177_11, i177_12, i177_15, i177_17, i177_20, i177_23, i177_24, i177_27, i177_29, i177_32, i177_35, i177_36, ix_pv_s, ix_pi_s, zpn, ix_po_s, ix_po_n, ix_ph_s, ix_bk_v, ix_bk_n, zcv, zcv_ne, ↓reduceIte, Nat.reduceEqDiff, mo_c, mo_g0, mo_s0, mo_g1, mo_g2, mo_g3, mo_s3, mo_g4, mo_s4, mo_g5, mo_s5, mo_g6, mo_s6, mo_g7, mo_s7, mo_g8, mo_s8, mo_g9, mo_g10, mo_g11, mo_g12, mo_g13, mo_s13, mo_g14, mo_s14, mo_g15, mo_s15, mo_g16, mo_g17, mo_s17, mo_g18, mo_s18, mo_g19, mo_g20, mo_s20, mo_g21, mo_s21, mo_g22, mo_s22, mo_g23, mo_s23, t3, mo_above, hs, hq, hq']
  · have hq' : ev_a (gt - coat) ≤ skS S := Int32.not_lt.mp hq
    simp (disch := first | assumption | omega | decide) only [e177, i177_0, i177_1, i177_4, i177_5, i177_6, i177_9, i177_10, i177_11, i177_12, i177_15, i177_17, i177_20, i177_23, i177_24, i177_27, i177_29, i177_32, i177_35, i177_36, ix_pv_s, ix_pi_s, zpn, ix_po_s, ix_po_n, ix_ph_s, ix_bk_v, ix_bk_n, zcv, zcv_ne, ↓reduceIte, Nat.reduceEqDiff, mo_c, mo_g0, mo_s0, mo_g1, mo_g2, mo_g3, mo_s3, mo_g4, mo_s4, mo_g5, mo_s5, mo_g6, mo_s6, mo_g7, mo_s7, mo_g8, mo_s8, mo_g9, mo_g10, mo_g11, mo_g12, mo_g13, mo_s13, mo_g14, mo_s14, mo_g15, mo_s15, mo_g16, mo_g17, mo_s17, mo_g18, mo_s18, mo_g19, mo_g20, mo_s20, mo_g21, mo_s21, mo_g22, mo_s22, mo_g23, mo_s23, t3, mo_above, hs, hq, hq']
theorem mo_minutes {pl mn now : Nat} {gt : Int32} (hk : mk2 μ S n cs) (ht : mtr μ pl mn gt) (h8 : S 8 = nI now) (hn : now ≤ mn) : ix_call X d 178 [.ref 67] (fm_W μ τ) = some (some (.int (nI (mn - now))), fm_W μ τ) := by
  obtain ⟨t1, t2, t3⟩ := ht
  have e0 := hk.2
  simp (disch := first | assumption | omega | decide) only [e178, i178_0, i178_1, i178_4, i178_5, i178_8, i178_10, i178_11, i178_12, ix_pv_s, ix_pi_s, zpn, ix_po_s, ix_po_n, ix_ph_s, ix_bk_v, ix_bk_n, zcv, zcv_ne, ↓reduceIte, Nat.reduceEqDiff, zn_m1, zd_lt_p, zd_lt_n, zd_le_p, zd_le_n, zd_eq_p, zd_eq_n, zd_0_p, zd_0_n, zd_0lt_p, zd_0lt_n, zd_le0_p, zd_le0_n, zn_lt0, zn_le0, zn_add, zn_mul, zn_sub, zm_lt, zm_le, zm_eq, zb_1, zb_0, not_true_eq_false, not_false_eq_true, mo_c, mo_g0, mo_s0, mo_g1, mo_g2, mo_g3, mo_s3, mo_g4, mo_s4, mo_g5, mo_s5, mo_g6, mo_s6, mo_g7, mo_s7, mo_g8, mo_s8, mo_g9, mo_g10, mo_g11, mo_g12, mo_g13, mo_s13, mo_g14, mo_s14, mo_g15, mo_s15, mo_g16, mo_g17, mo_s17, mo_g18, mo_s18, mo_g19, mo_g20, mo_s20, mo_g21, mo_s21, mo_g22, mo_s22, mo_g23, mo_s23, ra_25, wa_25, al_25, ra_68, wa_68, al_68, ra_69, wa_69, al_69, ra_70, wa_70, al_70, ra_71, wa_71, al_71, ra_72, wa_72, al_72, ra_73, wa_73, al_73, ra_74, wa_74, al_74, ra_75, wa_75, al_75, t2, e0, h8]
theorem mo_cost {pl mn now : Nat} {gt w : Int32} (hk : mk2 μ S n cs) (ht : mtr μ pl mn gt) (h8 : S 8 = nI now) (hn : now ≤ mn) : ix_call X (d + 1) 179 [.ref 67, .int w] (fm_W μ τ) = some (some (.int (w + wtS S * nI (mn - now))), fm_W μ τ) := by
  have h1 := mo_wait (X := X) (d := d) (τ := τ) hk
  have h2 := mo_minutes (X := X) (d := d) (τ := τ) hk ht h8 hn
  simp (disch := first | assumption | omega | decide) only [e179, i179_0, i179_1, i179_2, i179_5, i179_6, i179_9, i179_10, i179_13, i179_14, i179_15, ix_pv_s, ix_pi_s, zpn, ix_po_s, ix_po_n, ix_ph_s, ix_bk_v, ix_bk_n, zcv, zcv_ne, ↓reduceIte, Nat.reduceEqDiff, mo_c, mo_g0, mo_s0, mo_g1, mo_g2, mo_g3, mo_s3, mo_g4, mo_s4, mo_g5, mo_s5, mo_g6, mo_s6, mo_g7, mo_s7, mo_g8, mo_s8, mo_g9, mo_g10, mo_g11, mo_g12, mo_g13, mo_s13, mo_g14, mo_s14, mo_g15, mo_s15, mo_g16, mo_g17, mo_s17, mo_g18, mo_s18, mo_g19, mo_g20, mo_s20, mo_g21, mo_s21, mo_g22, mo_s22, mo_g23, mo_s23, h1, h2]
theorem mo_tellsW {pl mn now w what : Nat} {gt : Int32} (hk : mk2 μ S n cs) (ht : mtr μ pl mn gt) (h8 : S 8 = nI now) (hn : now ≤ mn) (hw : w < 5) (hwh : what ≤ 2) : ix_call X (d + 2) 176 [.ref 67, .int (nI w), .int (nI what)] (fm_W μ τ) = some (some (.int (tlS S (S (64 + w)) what (mn - now) gt)), fm_W μ τ) := by
  have e0 := hk.2
  have h1 := mo_wetBy (X := X) (d := d) (τ := τ) (coat := S (64 + w)) hk ht
  have h2 := mo_minutes (X := X) (d := d + 1) (τ := τ) hk ht h8 hn
  have h3 := mo_cost (X := X) (d := d) (τ := τ) (w := wbS S gt (S (64 + w))) hk ht h8 hn
  rcases (by omega : what = 0 ∨ what = 1 ∨ what = 2) with rfl | rfl | rfl <;> simp (disch := first | assumption | omega | decide) only [e176, i176_0, i176_1, i176_2, i176_5, i176_7, i176_8, i176_9, i176_10, i176_13, i176_14, i176_15, i176_18, i176_19, i176_22, i176_23, i176_24, i176_27, i176_28, i176_31, i176_34, i176_35, i176_36, i176_39, ix_pv_s, ix_pi_s, zpn, ix_po_s, ix_po_n, ix_ph_s, ix_bk_v, ix_bk_n, zcv, zcv_ne, ↓reduceIte, Nat.reduceEqDiff, zn_m1, zd_lt_p, zd_lt_n, zd_le_p, zd_le_n, zd_eq_p, zd_eq_n, zd_0_p, zd_0_n, zd_0lt_p, zd_0lt_n, zd_le0_p, zd_le0_n, zn_lt0, zn_le0, zn_add, zn_mul, zn_sub, zm_lt, zm_le, zm_eq, zb_1, zb_0, not_true_eq_false, not_false_eq_true, mo_c, mo_g0, mo_s0, mo_g1, mo_g2, mo_g3, mo_s3, mo_g4, mo_s4, mo_g5, mo_s5, mo_g6, mo_s6, mo_g7, mo_s7, mo_g8, mo_s8, mo_g9, mo_g10, mo_g11, mo_g12, mo_g13, mo_s13, mo_g14, mo_s14, mo_g15, mo_s15, mo_g16, mo_g17, mo_s17, mo_g18, mo_s18, mo_g19, mo_g20, mo_s20, mo_g21, mo_s21, mo_g22, mo_s22, mo_g23, mo_s23, ra_25, wa_25, al_25, ra_68, wa_68, al_68, ra_69, wa_69, al_69, ra_70, wa_70, al_70, ra_71, wa_71, al_71, ra_72, wa_72, al_72, ra_73, wa_73, al_73, ra_74, wa_74, al_74, ra_75, wa_75, al_75, e0, h1, h2, h3, tlS, not_true_eq_false]
end MT
