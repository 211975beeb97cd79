/-! ===== deciding comparisons ===== -/
--need 18.place
section ZD
variable {a b : Nat}
theorem zd_lt_p (ha : a < 2147483648) (hb : b < 2147483648) (h : a < b) : (nI a < nI b) = True := by rw [zn_lt ha hb]; exact eq_true h
theorem zd_lt_n (ha : a < 2147483648) (hb : b < 2147483648) (h : b ≤ a) : (nI a < nI b) = False := by rw [zn_lt ha hb]; exact eq_false (by omega)
theorem zd_le_p (ha : a < 2147483648) (hb : b < 2147483648) (h : a ≤ b) : (nI a ≤ nI b) = True := by rw [zn_le ha hb]; exact eq_true h
theorem zd_le_n (ha : a < 2147483648) (hb : b < 2147483648) (h : b < a) : (nI a ≤ nI b) = False := by rw [zn_le ha hb]; exact eq_false (by omega)
theorem zd_eq_p (ha : a < 2147483648) (hb : b < 2147483648) (h : a = b) : (nI a = nI b) = True := by rw [zn_eq ha hb]; exact eq_true h
theorem zd_eq_n (ha : a < 2147483648) (hb : b < 2147483648) (h : a ≠ b) : (nI a = nI b) = False := by rw [zn_eq ha hb]; exact eq_false h
end ZD
section ZE
variable {a : Nat}
theorem zd_0_p (ha : a < 2147483648) (h : a = 0) : (nI a = 0) = True := by rw [zn_eq0 ha]; exact eq_true h
theorem zd_0_n (ha : a < 2147483648) (h : 0 < a) : (nI a = 0) = False := by rw [zn_eq0 ha]; exact eq_false (by omega)
theorem zd_0lt_p (ha : a < 2147483648) (h : 0 < a) : (0 < nI a) = True := by rw [zn_0lt ha]; exact eq_true h
theorem zd_0lt_n (ha : a < 2147483648) (h : a = 0) : (0 < nI a) = False := by rw [zn_0lt ha]; exact eq_false (by omega)
theorem zd_le0_p (ha : a < 2147483648) (h : a = 0) : (nI a ≤ 0) = True := by rw [zn_le00 ha]; exact eq_true h
theorem zd_le0_n (ha : a < 2147483648) (h : 0 < a) : (nI a ≤ 0) = False := by rw [zn_le00 ha]; exact eq_false (by omega)
end ZE
theorem zb_1 : ((1 : Int32) = 0) = False := eq_false (by decide)
theorem zb_0 : ((0 : Int32) = 0) = True := eq_self 0
section FW
variable {μ : fm_M} {τ : List fm_D} {r n k t : Nat}
theorem fw_al (h : fm_T[r]? = some (1, t, [n])) (ht : t < 2) : ix_al (fm_W μ τ) r = some n := fm_al (fm_lk h) ht
theorem fw_ra (h : fm_T[r]? = some (1, t, [n])) (hk : k < n) (h31 : k < 2147483648) : ix_ra (fm_W μ τ) r t (nI k) = some (μ r k) := fm_ra (fm_lk h) hk h31
theorem fw_wa {x : Int32} (h : fm_T[r]? = some (1, t, [n])) (hk : k < n) (h31 : k < 2147483648) : ix_wa (fm_W μ τ) r t (nI k) x = some (fm_W (fm_u μ r k x) τ) := fm_wa (fm_lk h) hk h31
theorem fw_cp {a b n0 n1 m : Nat} (ha : fm_T[a]? = some (1, 0, [n0])) (hb : fm_T[b]? = some (1, 0, [n1])) (hm0 : m ≤ n0) (hm1 : m ≤ n1) (h31 : m < 2147483648) : ix_cpyh (fm_W μ τ) a b (nI 0) (nI 0) (nI m) = some (fm_W (fm_r μ b (fun i => if i < m then μ a i else μ b i)) τ) := fm_cp (fm_lk ha) (fm_lk hb) hm0 hm1 h31
end FW
