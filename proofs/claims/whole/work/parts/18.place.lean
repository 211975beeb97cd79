/-! ===== the fixed places ===== -/
--need 16.fm 17.num
def fm_T : List fm_D := [(0, 11, [3, 6, 9, 12, 15, 18, 21, 24, 25, 52, 26, 1, 0, 66, 67, 68, 27]),
  (0, 4, [0, 0, 4, 5, 0, 0]),
  (1, 0, [5]),
  (1, 0, [5]),
  (0, 4, [0, 0, 7, 8, 0, 0]),
  (1, 0, [100]),
  (1, 0, [100]),
  (0, 4, [0, 0, 10, 11, 0, 0]),
  (1, 0, [10]),
  (1, 0, [10]),
  (0, 4, [0, 0, 13, 14, 0, 0]),
  (1, 0, [8]),
  (1, 0, [8]),
  (0, 4, [0, 0, 16, 17, 0, 0]),
  (1, 0, [8]),
  (1, 0, [8]),
  (0, 4, [0, 0, 19, 20, 0, 0]),
  (1, 0, [24]),
  (1, 0, [24]),
  (0, 4, [0, 0, 22, 23, 0, 0]),
  (1, 0, [20]),
  (1, 0, [20]),
  (2, 2, [6]),
  (2, 3, [6]),
  (2, 4, [6]),
  (1, 0, [7]),
  (0, 3, [0, 0, 29, 0, 30, 31, 0, 0, 0, 0]),
  (1, 0, [100]),
  (1, 0, [5]),
  (1, 0, [100]),
  (0, 3, [0, 0, 33, 0, 34, 35, 0, 0, 0, 0]),
  (1, 0, [100]),
  (1, 0, [5]),
  (1, 0, [100]),
  (0, 3, [0, 0, 37, 0, 38, 39, 0, 0, 0, 0]),
  (1, 0, [100]),
  (1, 0, [5]),
  (1, 0, [100]),
  (0, 3, [0, 0, 41, 0, 42, 43, 0, 0, 0, 0]),
  (1, 0, [100]),
  (1, 0, [5]),
  (1, 0, [100]),
  (0, 3, [0, 0, 45, 0, 46, 47, 0, 0, 0, 0]),
  (1, 0, [100]),
  (1, 0, [5]),
  (1, 0, [100]),
  (0, 3, [0, 0, 49, 0, 50, 51, 0, 0, 0, 0]),
  (1, 0, [100]),
  (1, 0, [5]),
  (1, 0, [100]),
  (0, 5, [53, 0, 1, 0, 0, 0, 0]),
  (1, 0, [1601]),
  (0, 5, [55, 0, 1, 0, 0, 0, 0]),
  (1, 0, [1601]),
  (0, 5, [57, 0, 1, 0, 0, 0, 0]),
  (1, 0, [1601]),
  (0, 5, [59, 0, 1, 0, 0, 0, 0]),
  (1, 0, [1601]),
  (0, 5, [61, 0, 1, 0, 0, 0, 0]),
  (1, 0, [1601]),
  (0, 5, [63, 0, 1, 0, 0, 0, 0]),
  (1, 0, [1601]),
  (0, 5, [65, 0, 1, 0, 0, 0, 0]),
  (1, 0, [1601]),
  (0, 10, [52, 0, 0, 0, 0]),
  (0, 10, [52, 0, 0, 0, 0]),
  (0, 10, [52, 0, 0, 0, 0]),
  (0, 12, [0, 70, 71, 0, 0, 0, 0, 0, 0, 72, 73, 74, 75, 0, 0, 0, 76, 0, 0, 77, 0, 0, 0, 0]),
  (1, 0, [924]),
  (1, 0, [924]),
  (1, 0, [5]),
  (1, 1, [64]),
  (1, 0, [11900]),
  (1, 0, [7]),
  (1, 0, [7]),
  (1, 0, [20])]
def fm_W (μ : fm_M) (τ : List fm_D) : ix_H := fm_h μ (fm_T ++ τ)
theorem fm_lk {r : Nat} {D : fm_D} {τ : List fm_D} (h : fm_T[r]? = some D) : (fm_T ++ τ)[r]? = some D := by
  rw [List.getElem?_append_left (List.getElem?_eq_some_iff.mp h).1, h]
theorem fm_T_len : fm_T.length = 76 := rfl
theorem fm_W_len {μ : fm_M} {τ : List fm_D} : (fm_W μ τ).length = 76 + τ.length := by
  unfold fm_W
  rw [fm_len, List.length_append, fm_T_len]
def rwO (r : Nat) : Prop := fm_T[r]? = some (0, 4, [0, 0, r + 3, r + 4, 0, 0])
theorem rw_c {μ : fm_M} {τ : List fm_D} {r : Nat} (hr : rwO r) : ix_cls (fm_W μ τ) r = some 4 := fm_cls (fm_lk hr)
theorem rw_g0 {μ : fm_M} {τ : List fm_D} {r : Nat} {cs : List Nat} (hr : rwO r) (hc : ix_isin cs 4 = true) : ix_g (fm_W μ τ) r cs 0 = some (.int (μ r 0)) := fm_gI (fm_lk hr) hc rfl
theorem rw_s0 {μ : fm_M} {τ : List fm_D} {r : Nat} {cs : List Nat} {x : Int32} (hr : rwO r) (hc : ix_isin cs 4 = true) : ix_s (fm_W μ τ) r cs 0 (.int x) = some (fm_W (fm_u μ r 0 x) τ) := fm_sI (fm_lk hr) hc rfl
theorem rw_g1 {μ : fm_M} {τ : List fm_D} {r : Nat} {cs : List Nat} (hr : rwO r) (hc : ix_isin cs 4 = true) : ix_g (fm_W μ τ) r cs 1 = some (.int (μ r 1)) := fm_gI (fm_lk hr) hc rfl
theorem rw_s1 {μ : fm_M} {τ : List fm_D} {r : Nat} {cs : List Nat} {x : Int32} (hr : rwO r) (hc : ix_isin cs 4 = true) : ix_s (fm_W μ τ) r cs 1 (.int x) = some (fm_W (fm_u μ r 1 x) τ) := fm_sI (fm_lk hr) hc rfl
theorem rw_g2 {μ : fm_M} {τ : List fm_D} {r : Nat} {cs : List Nat} (hr : rwO r) (hc : ix_isin cs 4 = true) : ix_g (fm_W μ τ) r cs 2 = some (.ref (r + 1)) := fm_gR (fm_lk hr) hc rfl
theorem rw_g3 {μ : fm_M} {τ : List fm_D} {r : Nat} {cs : List Nat} (hr : rwO r) (hc : ix_isin cs 4 = true) : ix_g (fm_W μ τ) r cs 3 = some (.ref (r + 2)) := fm_gR (fm_lk hr) hc rfl
theorem rw_g4 {μ : fm_M} {τ : List fm_D} {r : Nat} {cs : List Nat} (hr : rwO r) (hc : ix_isin cs 4 = true) : ix_g (fm_W μ τ) r cs 4 = some (.int (μ r 4)) := fm_gI (fm_lk hr) hc rfl
theorem rw_s4 {μ : fm_M} {τ : List fm_D} {r : Nat} {cs : List Nat} {x : Int32} (hr : rwO r) (hc : ix_isin cs 4 = true) : ix_s (fm_W μ τ) r cs 4 (.int x) = some (fm_W (fm_u μ r 4 x) τ) := fm_sI (fm_lk hr) hc rfl
theorem rw_g5 {μ : fm_M} {τ : List fm_D} {r : Nat} {cs : List Nat} (hr : rwO r) (hc : ix_isin cs 4 = true) : ix_g (fm_W μ τ) r cs 5 = some (.int (μ r 5)) := fm_gI (fm_lk hr) hc rfl
theorem rw_s5 {μ : fm_M} {τ : List fm_D} {r : Nat} {cs : List Nat} {x : Int32} (hr : rwO r) (hc : ix_isin cs 4 = true) : ix_s (fm_W μ τ) r cs 5 (.int x) = some (fm_W (fm_u μ r 5 x) τ) := fm_sI (fm_lk hr) hc rfl
def pkO (r : Nat) : Prop := fm_T[r]? = some (0, 3, [0, 0, r + 3, 0, r + 4, r + 5, 0, 0, 0, 0])
theorem pk_c {μ : fm_M} {τ : List fm_D} {r : Nat} (hr : pkO r) : ix_cls (fm_W μ τ) r = some 3 := fm_cls (fm_lk hr)
theorem pk_g0 {μ : fm_M} {τ : List fm_D} {r : Nat} {cs : List Nat} (hr : pkO r) (hc : ix_isin cs 3 = true) : ix_g (fm_W μ τ) r cs 0 = some (.int (μ r 0)) := fm_gI (fm_lk hr) hc rfl
theorem pk_s0 {μ : fm_M} {τ : List fm_D} {r : Nat} {cs : List Nat} {x : Int32} (hr : pkO r) (hc : ix_isin cs 3 = true) : ix_s (fm_W μ τ) r cs 0 (.int x) = some (fm_W (fm_u μ r 0 x) τ) := fm_sI (fm_lk hr) hc rfl
theorem pk_g1 {μ : fm_M} {τ : List fm_D} {r : Nat} {cs : List Nat} (hr : pkO r) (hc : ix_isin cs 3 = true) : ix_g (fm_W μ τ) r cs 1 = some (.int (μ r 1)) := fm_gI (fm_lk hr) hc rfl
theorem pk_s1 {μ : fm_M} {τ : List fm_D} {r : Nat} {cs : List Nat} {x : Int32} (hr : pkO r) (hc : ix_isin cs 3 = true) : ix_s (fm_W μ τ) r cs 1 (.int x) = some (fm_W (fm_u μ r 1 x) τ) := fm_sI (fm_lk hr) hc rfl
theorem pk_g2 {μ : fm_M} {τ : List fm_D} {r : Nat} {cs : List Nat} (hr : pkO r) (hc : ix_isin cs 3 = true) : ix_g (fm_W μ τ) r cs 2 = some (.ref (r + 1)) := fm_gR (fm_lk hr) hc rfl
theorem pk_g3 {μ : fm_M} {τ : List fm_D} {r : Nat} {cs : List Nat} (hr : pkO r) (hc : ix_isin cs 3 = true) : ix_g (fm_W μ τ) r cs 3 = some (.int (μ r 3)) := fm_gI (fm_lk hr) hc rfl
theorem pk_s3 {μ : fm_M} {τ : List fm_D} {r : Nat} {cs : List Nat} {x : Int32} (hr : pkO r) (hc : ix_isin cs 3 = true) : ix_s (fm_W μ τ) r cs 3 (.int x) = some (fm_W (fm_u μ r 3 x) τ) := fm_sI (fm_lk hr) hc rfl
theorem pk_g4 {μ : fm_M} {τ : List fm_D} {r : Nat} {cs : List Nat} (hr : pkO r) (hc : ix_isin cs 3 = true) : ix_g (fm_W μ τ) r cs 4 = some (.ref (r + 2)) := fm_gR (fm_lk hr) hc rfl
theorem pk_g5 {μ : fm_M} {τ : List fm_D} {r : Nat} {cs : List Nat} (hr : pkO r) (hc : ix_isin cs 3 = true) : ix_g (fm_W μ τ) r cs 5 = some (.ref (r + 3)) := fm_gR (fm_lk hr) hc rfl
theorem pk_g6 {μ : fm_M} {τ : List fm_D} {r : Nat} {cs : List Nat} (hr : pkO r) (hc : ix_isin cs 3 = true) : ix_g (fm_W μ τ) r cs 6 = some (.int (μ r 6)) := fm_gI (fm_lk hr) hc rfl
theorem pk_s6 {μ : fm_M} {τ : List fm_D} {r : Nat} {cs : List Nat} {x : Int32} (hr : pkO r) (hc : ix_isin cs 3 = true) : ix_s (fm_W μ τ) r cs 6 (.int x) = some (fm_W (fm_u μ r 6 x) τ) := fm_sI (fm_lk hr) hc rfl
theorem pk_g7 {μ : fm_M} {τ : List fm_D} {r : Nat} {cs : List Nat} (hr : pkO r) (hc : ix_isin cs 3 = true) : ix_g (fm_W μ τ) r cs 7 = some (.int (μ r 7)) := fm_gI (fm_lk hr) hc rfl
theorem pk_s7 {μ : fm_M} {τ : List fm_D} {r : Nat} {cs : List Nat} {x : Int32} (hr : pkO r) (hc : ix_isin cs 3 = true) : ix_s (fm_W μ τ) r cs 7 (.int x) = some (fm_W (fm_u μ r 7 x) τ) := fm_sI (fm_lk hr) hc rfl
theorem pk_g8 {μ : fm_M} {τ : List fm_D} {r : Nat} {cs : List Nat} (hr : pkO r) (hc : ix_isin cs 3 = true) : ix_g (fm_W μ τ) r cs 8 = some (.int (μ r 8)) := fm_gI (fm_lk hr) hc rfl
theorem pk_s8 {μ : fm_M} {τ : List fm_D} {r : Nat} {cs : List Nat} {x : Int32} (hr : pkO r) (hc : ix_isin cs 3 = true) : ix_s (fm_W μ τ) r cs 8 (.int x) = some (fm_W (fm_u μ r 8 x) τ) := fm_sI (fm_lk hr) hc rfl
theorem pk_g9 {μ : fm_M} {τ : List fm_D} {r : Nat} {cs : List Nat} (hr : pkO r) (hc : ix_isin cs 3 = true) : ix_g (fm_W μ τ) r cs 9 = some (.int (μ r 9)) := fm_gI (fm_lk hr) hc rfl
theorem pk_s9 {μ : fm_M} {τ : List fm_D} {r : Nat} {cs : List Nat} {x : Int32} (hr : pkO r) (hc : ix_isin cs 3 = true) : ix_s (fm_W μ τ) r cs 9 (.int x) = some (fm_W (fm_u μ r 9 x) τ) := fm_sI (fm_lk hr) hc rfl
def spO (r : Nat) : Prop := fm_T[r]? = some (0, 5, [r + 3, 0, 1, 0, 0, 0, 0])
theorem sp_c {μ : fm_M} {τ : List fm_D} {r : Nat} (hr : spO r) : ix_cls (fm_W μ τ) r = some 5 := fm_cls (fm_lk hr)
theorem sp_g0 {μ : fm_M} {τ : List fm_D} {r : Nat} {cs : List Nat} (hr : spO r) (hc : ix_isin cs 5 = true) : ix_g (fm_W μ τ) r cs 0 = some (.ref (r + 1)) := fm_gR (fm_lk hr) hc rfl
theorem sp_g1 {μ : fm_M} {τ : List fm_D} {r : Nat} {cs : List Nat} (hr : spO r) (hc : ix_isin cs 5 = true) : ix_g (fm_W μ τ) r cs 1 = some (.int (μ r 1)) := fm_gI (fm_lk hr) hc rfl
theorem sp_s1 {μ : fm_M} {τ : List fm_D} {r : Nat} {cs : List Nat} {x : Int32} (hr : spO r) (hc : ix_isin cs 5 = true) : ix_s (fm_W μ τ) r cs 1 (.int x) = some (fm_W (fm_u μ r 1 x) τ) := fm_sI (fm_lk hr) hc rfl
theorem sp_g2 {μ : fm_M} {τ : List fm_D} {r : Nat} {cs : List Nat} {q : Nat} (hq : μ r 2 = nI q) (hr : spO r) (hc : ix_isin cs 5 = true) (h31 : q < 2147483648) : ix_g (fm_W μ τ) r cs 2 = some (.ref q) := fm_gV (fm_lk hr) hc rfl hq h31
theorem sp_s2 {μ : fm_M} {τ : List fm_D} {r : Nat} {cs : List Nat} {q : Nat} (hr : spO r) (hc : ix_isin cs 5 = true) (h31 : q < 2147483648) : ix_s (fm_W μ τ) r cs 2 (.ref q) = some (fm_W (fm_u μ r 2 (nI q)) τ) := fm_sV (fm_lk hr) hc rfl h31
theorem sp_g3 {μ : fm_M} {τ : List fm_D} {r : Nat} {cs : List Nat} (hr : spO r) (hc : ix_isin cs 5 = true) : ix_g (fm_W μ τ) r cs 3 = some (.int (μ r 3)) := fm_gI (fm_lk hr) hc rfl
theorem sp_s3 {μ : fm_M} {τ : List fm_D} {r : Nat} {cs : List Nat} {x : Int32} (hr : spO r) (hc : ix_isin cs 5 = true) : ix_s (fm_W μ τ) r cs 3 (.int x) = some (fm_W (fm_u μ r 3 x) τ) := fm_sI (fm_lk hr) hc rfl
theorem sp_g4 {μ : fm_M} {τ : List fm_D} {r : Nat} {cs : List Nat} (hr : spO r) (hc : ix_isin cs 5 = true) : ix_g (fm_W μ τ) r cs 4 = some (.int (μ r 4)) := fm_gI (fm_lk hr) hc rfl
theorem sp_s4 {μ : fm_M} {τ : List fm_D} {r : Nat} {cs : List Nat} {x : Int32} (hr : spO r) (hc : ix_isin cs 5 = true) : ix_s (fm_W μ τ) r cs 4 (.int x) = some (fm_W (fm_u μ r 4 x) τ) := fm_sI (fm_lk hr) hc rfl
theorem sp_g5 {μ : fm_M} {τ : List fm_D} {r : Nat} {cs : List Nat} (hr : spO r) (hc : ix_isin cs 5 = true) : ix_g (fm_W μ τ) r cs 5 = some (.int (μ r 5)) := fm_gI (fm_lk hr) hc rfl
theorem sp_s5 {μ : fm_M} {τ : List fm_D} {r : Nat} {cs : List Nat} {x : Int32} (hr : spO r) (hc : ix_isin cs 5 = true) : ix_s (fm_W μ τ) r cs 5 (.int x) = some (fm_W (fm_u μ r 5 x) τ) := fm_sI (fm_lk hr) hc rfl
theorem sp_g6 {μ : fm_M} {τ : List fm_D} {r : Nat} {cs : List Nat} (hr : spO r) (hc : ix_isin cs 5 = true) : ix_g (fm_W μ τ) r cs 6 = some (.int (μ r 6)) := fm_gI (fm_lk hr) hc rfl
theorem sp_s6 {μ : fm_M} {τ : List fm_D} {r : Nat} {cs : List Nat} {x : Int32} (hr : spO r) (hc : ix_isin cs 5 = true) : ix_s (fm_W μ τ) r cs 6 (.int x) = some (fm_W (fm_u μ r 6 x) τ) := fm_sI (fm_lk hr) hc rfl
def tpO (r : Nat) : Prop := fm_T[r]? = some (0, 10, [52, 0, 0, 0, 0])
theorem tp_c {μ : fm_M} {τ : List fm_D} {r : Nat} (hr : tpO r) : ix_cls (fm_W μ τ) r = some 10 := fm_cls (fm_lk hr)
theorem tp_g0 {μ : fm_M} {τ : List fm_D} {r : Nat} {cs : List Nat} (hr : tpO r) (hc : ix_isin cs 10 = true) : ix_g (fm_W μ τ) r cs 0 = some (.ref (50)) := fm_gR (fm_lk hr) hc rfl
theorem tp_g1 {μ : fm_M} {τ : List fm_D} {r : Nat} {cs : List Nat} (hr : tpO r) (hc : ix_isin cs 10 = true) : ix_g (fm_W μ τ) r cs 1 = some (.int (μ r 1)) := fm_gI (fm_lk hr) hc rfl
theorem tp_s1 {μ : fm_M} {τ : List fm_D} {r : Nat} {cs : List Nat} {x : Int32} (hr : tpO r) (hc : ix_isin cs 10 = true) : ix_s (fm_W μ τ) r cs 1 (.int x) = some (fm_W (fm_u μ r 1 x) τ) := fm_sI (fm_lk hr) hc rfl
theorem tp_g2 {μ : fm_M} {τ : List fm_D} {r : Nat} {cs : List Nat} (hr : tpO r) (hc : ix_isin cs 10 = true) : ix_g (fm_W μ τ) r cs 2 = some (.int (μ r 2)) := fm_gI (fm_lk hr) hc rfl
theorem tp_s2 {μ : fm_M} {τ : List fm_D} {r : Nat} {cs : List Nat} {x : Int32} (hr : tpO r) (hc : ix_isin cs 10 = true) : ix_s (fm_W μ τ) r cs 2 (.int x) = some (fm_W (fm_u μ r 2 x) τ) := fm_sI (fm_lk hr) hc rfl
theorem tp_g3 {μ : fm_M} {τ : List fm_D} {r : Nat} {cs : List Nat} (hr : tpO r) (hc : ix_isin cs 10 = true) : ix_g (fm_W μ τ) r cs 3 = some (.int (μ r 3)) := fm_gI (fm_lk hr) hc rfl
theorem tp_s3 {μ : fm_M} {τ : List fm_D} {r : Nat} {cs : List Nat} {x : Int32} (hr : tpO r) (hc : ix_isin cs 10 = true) : ix_s (fm_W μ τ) r cs 3 (.int x) = some (fm_W (fm_u μ r 3 x) τ) := fm_sI (fm_lk hr) hc rfl
theorem tp_g4 {μ : fm_M} {τ : List fm_D} {r : Nat} {cs : List Nat} (hr : tpO r) (hc : ix_isin cs 10 = true) : ix_g (fm_W μ τ) r cs 4 = some (.int (μ r 4)) := fm_gI (fm_lk hr) hc rfl
theorem tp_s4 {μ : fm_M} {τ : List fm_D} {r : Nat} {cs : List Nat} {x : Int32} (hr : tpO r) (hc : ix_isin cs 10 = true) : ix_s (fm_W μ τ) r cs 4 (.int x) = some (fm_W (fm_u μ r 4 x) τ) := fm_sI (fm_lk hr) hc rfl
theorem t0_c {μ : fm_M} {τ : List fm_D} : ix_cls (fm_W μ τ) 0 = some 11 := fm_cls (fm_lk rfl)
theorem t0_g0 {μ : fm_M} {τ : List fm_D} {cs : List Nat} (hc : ix_isin cs 11 = true) : ix_g (fm_W μ τ) 0 cs 0 = some (.ref 1) := fm_gR (fm_lk rfl) hc rfl
theorem t0_g1 {μ : fm_M} {τ : List fm_D} {cs : List Nat} (hc : ix_isin cs 11 = true) : ix_g (fm_W μ τ) 0 cs 1 = some (.ref 4) := fm_gR (fm_lk rfl) hc rfl
theorem t0_g2 {μ : fm_M} {τ : List fm_D} {cs : List Nat} (hc : ix_isin cs 11 = true) : ix_g (fm_W μ τ) 0 cs 2 = some (.ref 7) := fm_gR (fm_lk rfl) hc rfl
theorem t0_g3 {μ : fm_M} {τ : List fm_D} {cs : List Nat} (hc : ix_isin cs 11 = true) : ix_g (fm_W μ τ) 0 cs 3 = some (.ref 10) := fm_gR (fm_lk rfl) hc rfl
theorem t0_g4 {μ : fm_M} {τ : List fm_D} {cs : List Nat} (hc : ix_isin cs 11 = true) : ix_g (fm_W μ τ) 0 cs 4 = some (.ref 13) := fm_gR (fm_lk rfl) hc rfl
theorem t0_g5 {μ : fm_M} {τ : List fm_D} {cs : List Nat} (hc : ix_isin cs 11 = true) : ix_g (fm_W μ τ) 0 cs 5 = some (.ref 16) := fm_gR (fm_lk rfl) hc rfl
theorem t0_g6 {μ : fm_M} {τ : List fm_D} {cs : List Nat} (hc : ix_isin cs 11 = true) : ix_g (fm_W μ τ) 0 cs 6 = some (.ref 19) := fm_gR (fm_lk rfl) hc rfl
theorem t0_g7 {μ : fm_M} {τ : List fm_D} {cs : List Nat} (hc : ix_isin cs 11 = true) : ix_g (fm_W μ τ) 0 cs 7 = some (.ref 22) := fm_gR (fm_lk rfl) hc rfl
theorem t0_g8 {μ : fm_M} {τ : List fm_D} {cs : List Nat} (hc : ix_isin cs 11 = true) : ix_g (fm_W μ τ) 0 cs 8 = some (.ref 23) := fm_gR (fm_lk rfl) hc rfl
theorem t0_g9 {μ : fm_M} {τ : List fm_D} {cs : List Nat} (hc : ix_isin cs 11 = true) : ix_g (fm_W μ τ) 0 cs 9 = some (.ref 50) := fm_gR (fm_lk rfl) hc rfl
theorem t0_g10 {μ : fm_M} {τ : List fm_D} {cs : List Nat} (hc : ix_isin cs 11 = true) : ix_g (fm_W μ τ) 0 cs 10 = some (.ref 24) := fm_gR (fm_lk rfl) hc rfl
theorem t0_g11 {μ : fm_M} {τ : List fm_D} {cs : List Nat} {q : Nat} (hq : μ 0 11 = nI q) (hc : ix_isin cs 11 = true) (h31 : q < 2147483648) : ix_g (fm_W μ τ) 0 cs 11 = some (.ref q) := fm_gV (fm_lk rfl) hc rfl hq h31
theorem t0_s11 {μ : fm_M} {τ : List fm_D} {cs : List Nat} {q : Nat} (hc : ix_isin cs 11 = true) (h31 : q < 2147483648) : ix_s (fm_W μ τ) 0 cs 11 (.ref q) = some (fm_W (fm_u μ 0 11 (nI q)) τ) := fm_sV (fm_lk rfl) hc rfl h31
theorem t0_g12 {μ : fm_M} {τ : List fm_D} {cs : List Nat} (hc : ix_isin cs 11 = true) : ix_g (fm_W μ τ) 0 cs 12 = some (.int (μ 0 12)) := fm_gI (fm_lk rfl) hc rfl
theorem t0_s12 {μ : fm_M} {τ : List fm_D} {cs : List Nat} {x : Int32} (hc : ix_isin cs 11 = true) : ix_s (fm_W μ τ) 0 cs 12 (.int x) = some (fm_W (fm_u μ 0 12 x) τ) := fm_sI (fm_lk rfl) hc rfl
theorem t0_g13 {μ : fm_M} {τ : List fm_D} {cs : List Nat} (hc : ix_isin cs 11 = true) : ix_g (fm_W μ τ) 0 cs 13 = some (.ref 64) := fm_gR (fm_lk rfl) hc rfl
theorem t0_g14 {μ : fm_M} {τ : List fm_D} {cs : List Nat} (hc : ix_isin cs 11 = true) : ix_g (fm_W μ τ) 0 cs 14 = some (.ref 65) := fm_gR (fm_lk rfl) hc rfl
theorem t0_g15 {μ : fm_M} {τ : List fm_D} {cs : List Nat} (hc : ix_isin cs 11 = true) : ix_g (fm_W μ τ) 0 cs 15 = some (.ref 66) := fm_gR (fm_lk rfl) hc rfl
theorem t0_g16 {μ : fm_M} {τ : List fm_D} {cs : List Nat} (hc : ix_isin cs 11 = true) : ix_g (fm_W μ τ) 0 cs 16 = some (.ref 25) := fm_gR (fm_lk rfl) hc rfl
theorem mo_c {μ : fm_M} {τ : List fm_D} : ix_cls (fm_W μ τ) 67 = some 12 := fm_cls (fm_lk rfl)
theorem mo_g0 {μ : fm_M} {τ : List fm_D} {cs : List Nat} (hc : ix_isin cs 12 = true) : ix_g (fm_W μ τ) 67 cs 0 = some (.int (μ 67 0)) := fm_gI (fm_lk rfl) hc rfl
theorem mo_s0 {μ : fm_M} {τ : List fm_D} {cs : List Nat} {x : Int32} (hc : ix_isin cs 12 = true) : ix_s (fm_W μ τ) 67 cs 0 (.int x) = some (fm_W (fm_u μ 67 0 x) τ) := fm_sI (fm_lk rfl) hc rfl
theorem mo_g1 {μ : fm_M} {τ : List fm_D} {cs : List Nat} (hc : ix_isin cs 12 = true) : ix_g (fm_W μ τ) 67 cs 1 = some (.ref 68) := fm_gR (fm_lk rfl) hc rfl
theorem mo_g2 {μ : fm_M} {τ : List fm_D} {cs : List Nat} (hc : ix_isin cs 12 = true) : ix_g (fm_W μ τ) 67 cs 2 = some (.ref 69) := fm_gR (fm_lk rfl) hc rfl
theorem mo_g3 {μ : fm_M} {τ : List fm_D} {cs : List Nat} (hc : ix_isin cs 12 = true) : ix_g (fm_W μ τ) 67 cs 3 = some (.int (μ 67 3)) := fm_gI (fm_lk rfl) hc rfl
theorem mo_s3 {μ : fm_M} {τ : List fm_D} {cs : List Nat} {x : Int32} (hc : ix_isin cs 12 = true) : ix_s (fm_W μ τ) 67 cs 3 (.int x) = some (fm_W (fm_u μ 67 3 x) τ) := fm_sI (fm_lk rfl) hc rfl
theorem mo_g4 {μ : fm_M} {τ : List fm_D} {cs : List Nat} (hc : ix_isin cs 12 = true) : ix_g (fm_W μ τ) 67 cs 4 = some (.int (μ 67 4)) := fm_gI (fm_lk rfl) hc rfl
theorem mo_s4 {μ : fm_M} {τ : List fm_D} {cs : List Nat} {x : Int32} (hc : ix_isin cs 12 = true) : ix_s (fm_W μ τ) 67 cs 4 (.int x) = some (fm_W (fm_u μ 67 4 x) τ) := fm_sI (fm_lk rfl) hc rfl
theorem mo_g5 {μ : fm_M} {τ : List fm_D} {cs : List Nat} (hc : ix_isin cs 12 = true) : ix_g (fm_W μ τ) 67 cs 5 = some (.int (μ 67 5)) := fm_gI (fm_lk rfl) hc rfl
theorem mo_s5 {μ : fm_M} {τ : List fm_D} {cs : List Nat} {x : Int32} (hc : ix_isin cs 12 = true) : ix_s (fm_W μ τ) 67 cs 5 (.int x) = some (fm_W (fm_u μ 67 5 x) τ) := fm_sI (fm_lk rfl) hc rfl
theorem mo_g6 {μ : fm_M} {τ : List fm_D} {cs : List Nat} (hc : ix_isin cs 12 = true) : ix_g (fm_W μ τ) 67 cs 6 = some (.int (μ 67 6)) := fm_gI (fm_lk rfl) hc rfl
theorem mo_s6 {μ : fm_M} {τ : List fm_D} {cs : List Nat} {x : Int32} (hc : ix_isin cs 12 = true) : ix_s (fm_W μ τ) 67 cs 6 (.int x) = some (fm_W (fm_u μ 67 6 x) τ) := fm_sI (fm_lk rfl) hc rfl
theorem mo_g7 {μ : fm_M} {τ : List fm_D} {cs : List Nat} (hc : ix_isin cs 12 = true) : ix_g (fm_W μ τ) 67 cs 7 = some (.int (μ 67 7)) := fm_gI (fm_lk rfl) hc rfl
theorem mo_s7 {μ : fm_M} {τ : List fm_D} {cs : List Nat} {x : Int32} (hc : ix_isin cs 12 = true) : ix_s (fm_W μ τ) 67 cs 7 (.int x) = some (fm_W (fm_u μ 67 7 x) τ) := fm_sI (fm_lk rfl) hc rfl
theorem mo_g8 {μ : fm_M} {τ : List fm_D} {cs : List Nat} (hc : ix_isin cs 12 = true) : ix_g (fm_W μ τ) 67 cs 8 = some (.int (μ 67 8)) := fm_gI (fm_lk rfl) hc rfl
theorem mo_s8 {μ : fm_M} {τ : List fm_D} {cs : List Nat} {x : Int32} (hc : ix_isin cs 12 = true) : ix_s (fm_W μ τ) 67 cs 8 (.int x) = some (fm_W (fm_u μ 67 8 x) τ) := fm_sI (fm_lk rfl) hc rfl
theorem mo_g9 {μ : fm_M} {τ : List fm_D} {cs : List Nat} (hc : ix_isin cs 12 = true) : ix_g (fm_W μ τ) 67 cs 9 = some (.ref 70) := fm_gR (fm_lk rfl) hc rfl
theorem mo_g10 {μ : fm_M} {τ : List fm_D} {cs : List Nat} (hc : ix_isin cs 12 = true) : ix_g (fm_W μ τ) 67 cs 10 = some (.ref 71) := fm_gR (fm_lk rfl) hc rfl
theorem mo_g11 {μ : fm_M} {τ : List fm_D} {cs : List Nat} (hc : ix_isin cs 12 = true) : ix_g (fm_W μ τ) 67 cs 11 = some (.ref 72) := fm_gR (fm_lk rfl) hc rfl
theorem mo_g12 {μ : fm_M} {τ : List fm_D} {cs : List Nat} (hc : ix_isin cs 12 = true) : ix_g (fm_W μ τ) 67 cs 12 = some (.ref 73) := fm_gR (fm_lk rfl) hc rfl
theorem mo_g13 {μ : fm_M} {τ : List fm_D} {cs : List Nat} (hc : ix_isin cs 12 = true) : ix_g (fm_W μ τ) 67 cs 13 = some (.int (μ 67 13)) := fm_gI (fm_lk rfl) hc rfl
theorem mo_s13 {μ : fm_M} {τ : List fm_D} {cs : List Nat} {x : Int32} (hc : ix_isin cs 12 = true) : ix_s (fm_W μ τ) 67 cs 13 (.int x) = some (fm_W (fm_u μ 67 13 x) τ) := fm_sI (fm_lk rfl) hc rfl
theorem mo_g14 {μ : fm_M} {τ : List fm_D} {cs : List Nat} (hc : ix_isin cs 12 = true) : ix_g (fm_W μ τ) 67 cs 14 = some (.int (μ 67 14)) := fm_gI (fm_lk rfl) hc rfl
theorem mo_s14 {μ : fm_M} {τ : List fm_D} {cs : List Nat} {x : Int32} (hc : ix_isin cs 12 = true) : ix_s (fm_W μ τ) 67 cs 14 (.int x) = some (fm_W (fm_u μ 67 14 x) τ) := fm_sI (fm_lk rfl) hc rfl
theorem mo_g15 {μ : fm_M} {τ : List fm_D} {cs : List Nat} (hc : ix_isin cs 12 = true) : ix_g (fm_W μ τ) 67 cs 15 = some (.int (μ 67 15)) := fm_gI (fm_lk rfl) hc rfl
theorem mo_s15 {μ : fm_M} {τ : List fm_D} {cs : List Nat} {x : Int32} (hc : ix_isin cs 12 = true) : ix_s (fm_W μ τ) 67 cs 15 (.int x) = some (fm_W (fm_u μ 67 15 x) τ) := fm_sI (fm_lk rfl) hc rfl
theorem mo_g16 {μ : fm_M} {τ : List fm_D} {cs : List Nat} (hc : ix_isin cs 12 = true) : ix_g (fm_W μ τ) 67 cs 16 = some (.ref 74) := fm_gR (fm_lk rfl) hc rfl
theorem mo_g17 {μ : fm_M} {τ : List fm_D} {cs : List Nat} (hc : ix_isin cs 12 = true) : ix_g (fm_W μ τ) 67 cs 17 = some (.int (μ 67 17)) := fm_gI (fm_lk rfl) hc rfl
theorem mo_s17 {μ : fm_M} {τ : List fm_D} {cs : List Nat} {x : Int32} (hc : ix_isin cs 12 = true) : ix_s (fm_W μ τ) 67 cs 17 (.int x) = some (fm_W (fm_u μ 67 17 x) τ) := fm_sI (fm_lk rfl) hc rfl
theorem mo_g18 {μ : fm_M} {τ : List fm_D} {cs : List Nat} (hc : ix_isin cs 12 = true) : ix_g (fm_W μ τ) 67 cs 18 = some (.int (μ 67 18)) := fm_gI (fm_lk rfl) hc rfl
theorem mo_s18 {μ : fm_M} {τ : List fm_D} {cs : List Nat} {x : Int32} (hc : ix_isin cs 12 = true) : ix_s (fm_W μ τ) 67 cs 18 (.int x) = some (fm_W (fm_u μ 67 18 x) τ) := fm_sI (fm_lk rfl) hc rfl
theorem mo_g19 {μ : fm_M} {τ : List fm_D} {cs : List Nat} (hc : ix_isin cs 12 = true) : ix_g (fm_W μ τ) 67 cs 19 = some (.ref 75) := fm_gR (fm_lk rfl) hc rfl
theorem mo_g20 {μ : fm_M} {τ : List fm_D} {cs : List Nat} (hc : ix_isin cs 12 = true) : ix_g (fm_W μ τ) 67 cs 20 = some (.int (μ 67 20)) := fm_gI (fm_lk rfl) hc rfl
theorem mo_s20 {μ : fm_M} {τ : List fm_D} {cs : List Nat} {x : Int32} (hc : ix_isin cs 12 = true) : ix_s (fm_W μ τ) 67 cs 20 (.int x) = some (fm_W (fm_u μ 67 20 x) τ) := fm_sI (fm_lk rfl) hc rfl
theorem mo_g21 {μ : fm_M} {τ : List fm_D} {cs : List Nat} (hc : ix_isin cs 12 = true) : ix_g (fm_W μ τ) 67 cs 21 = some (.int (μ 67 21)) := fm_gI (fm_lk rfl) hc rfl
theorem mo_s21 {μ : fm_M} {τ : List fm_D} {cs : List Nat} {x : Int32} (hc : ix_isin cs 12 = true) : ix_s (fm_W μ τ) 67 cs 21 (.int x) = some (fm_W (fm_u μ 67 21 x) τ) := fm_sI (fm_lk rfl) hc rfl
theorem mo_g22 {μ : fm_M} {τ : List fm_D} {cs : List Nat} (hc : ix_isin cs 12 = true) : ix_g (fm_W μ τ) 67 cs 22 = some (.int (μ 67 22)) := fm_gI (fm_lk rfl) hc rfl
theorem mo_s22 {μ : fm_M} {τ : List fm_D} {cs : List Nat} {x : Int32} (hc : ix_isin cs 12 = true) : ix_s (fm_W μ τ) 67 cs 22 (.int x) = some (fm_W (fm_u μ 67 22 x) τ) := fm_sI (fm_lk rfl) hc rfl
theorem mo_g23 {μ : fm_M} {τ : List fm_D} {cs : List Nat} (hc : ix_isin cs 12 = true) : ix_g (fm_W μ τ) 67 cs 23 = some (.int (μ 67 23)) := fm_gI (fm_lk rfl) hc rfl
theorem mo_s23 {μ : fm_M} {τ : List fm_D} {cs : List Nat} {x : Int32} (hc : ix_isin cs 12 = true) : ix_s (fm_W μ τ) 67 cs 23 (.int x) = some (fm_W (fm_u μ 67 23 x) τ) := fm_sI (fm_lk rfl) hc rfl
theorem ra_25 {μ : fm_M} {τ : List fm_D} {k : Nat} (hk : k < 7) : ix_ra (fm_W μ τ) (25) 0 (nI k) = some (μ (25) k) := fm_ra (fm_lk rfl) hk (by omega)
theorem wa_25 {μ : fm_M} {τ : List fm_D} {k : Nat} {x : Int32} (hk : k < 7) : ix_wa (fm_W μ τ) (25) 0 (nI k) x = some (fm_W (fm_u μ (25) k x) τ) := fm_wa (fm_lk rfl) hk (by omega)
theorem al_25 {μ : fm_M} {τ : List fm_D}  : ix_al (fm_W μ τ) (25) = some 7 := fm_al (fm_lk rfl) (by decide)
theorem ra_68 {μ : fm_M} {τ : List fm_D} {k : Nat} (hk : k < 924) : ix_ra (fm_W μ τ) (68) 0 (nI k) = some (μ (68) k) := fm_ra (fm_lk rfl) hk (by omega)
theorem wa_68 {μ : fm_M} {τ : List fm_D} {k : Nat} {x : Int32} (hk : k < 924) : ix_wa (fm_W μ τ) (68) 0 (nI k) x = some (fm_W (fm_u μ (68) k x) τ) := fm_wa (fm_lk rfl) hk (by omega)
theorem al_68 {μ : fm_M} {τ : List fm_D}  : ix_al (fm_W μ τ) (68) = some 924 := fm_al (fm_lk rfl) (by decide)
theorem ra_69 {μ : fm_M} {τ : List fm_D} {k : Nat} (hk : k < 924) : ix_ra (fm_W μ τ) (69) 0 (nI k) = some (μ (69) k) := fm_ra (fm_lk rfl) hk (by omega)
theorem wa_69 {μ : fm_M} {τ : List fm_D} {k : Nat} {x : Int32} (hk : k < 924) : ix_wa (fm_W μ τ) (69) 0 (nI k) x = some (fm_W (fm_u μ (69) k x) τ) := fm_wa (fm_lk rfl) hk (by omega)
theorem al_69 {μ : fm_M} {τ : List fm_D}  : ix_al (fm_W μ τ) (69) = some 924 := fm_al (fm_lk rfl) (by decide)
theorem ra_70 {μ : fm_M} {τ : List fm_D} {k : Nat} (hk : k < 5) : ix_ra (fm_W μ τ) (70) 0 (nI k) = some (μ (70) k) := fm_ra (fm_lk rfl) hk (by omega)
theorem wa_70 {μ : fm_M} {τ : List fm_D} {k : Nat} {x : Int32} (hk : k < 5) : ix_wa (fm_W μ τ) (70) 0 (nI k) x = some (fm_W (fm_u μ (70) k x) τ) := fm_wa (fm_lk rfl) hk (by omega)
theorem al_70 {μ : fm_M} {τ : List fm_D}  : ix_al (fm_W μ τ) (70) = some 5 := fm_al (fm_lk rfl) (by decide)
theorem ra_71 {μ : fm_M} {τ : List fm_D} {k : Nat} (hk : k < 64) : ix_ra (fm_W μ τ) (71) 1 (nI k) = some (μ (71) k) := fm_ra (fm_lk rfl) hk (by omega)
theorem wa_71 {μ : fm_M} {τ : List fm_D} {k : Nat} {x : Int32} (hk : k < 64) : ix_wa (fm_W μ τ) (71) 1 (nI k) x = some (fm_W (fm_u μ (71) k x) τ) := fm_wa (fm_lk rfl) hk (by omega)
theorem al_71 {μ : fm_M} {τ : List fm_D}  : ix_al (fm_W μ τ) (71) = some 64 := fm_al (fm_lk rfl) (by decide)
theorem ra_72 {μ : fm_M} {τ : List fm_D} {k : Nat} (hk : k < 11900) : ix_ra (fm_W μ τ) (72) 0 (nI k) = some (μ (72) k) := fm_ra (fm_lk rfl) hk (by omega)
theorem wa_72 {μ : fm_M} {τ : List fm_D} {k : Nat} {x : Int32} (hk : k < 11900) : ix_wa (fm_W μ τ) (72) 0 (nI k) x = some (fm_W (fm_u μ (72) k x) τ) := fm_wa (fm_lk rfl) hk (by omega)
theorem al_72 {μ : fm_M} {τ : List fm_D}  : ix_al (fm_W μ τ) (72) = some 11900 := fm_al (fm_lk rfl) (by decide)
theorem ra_73 {μ : fm_M} {τ : List fm_D} {k : Nat} (hk : k < 7) : ix_ra (fm_W μ τ) (73) 0 (nI k) = some (μ (73) k) := fm_ra (fm_lk rfl) hk (by omega)
theorem wa_73 {μ : fm_M} {τ : List fm_D} {k : Nat} {x : Int32} (hk : k < 7) : ix_wa (fm_W μ τ) (73) 0 (nI k) x = some (fm_W (fm_u μ (73) k x) τ) := fm_wa (fm_lk rfl) hk (by omega)
theorem al_73 {μ : fm_M} {τ : List fm_D}  : ix_al (fm_W μ τ) (73) = some 7 := fm_al (fm_lk rfl) (by decide)
theorem ra_74 {μ : fm_M} {τ : List fm_D} {k : Nat} (hk : k < 7) : ix_ra (fm_W μ τ) (74) 0 (nI k) = some (μ (74) k) := fm_ra (fm_lk rfl) hk (by omega)
theorem wa_74 {μ : fm_M} {τ : List fm_D} {k : Nat} {x : Int32} (hk : k < 7) : ix_wa (fm_W μ τ) (74) 0 (nI k) x = some (fm_W (fm_u μ (74) k x) τ) := fm_wa (fm_lk rfl) hk (by omega)
theorem al_74 {μ : fm_M} {τ : List fm_D}  : ix_al (fm_W μ τ) (74) = some 7 := fm_al (fm_lk rfl) (by decide)
theorem ra_75 {μ : fm_M} {τ : List fm_D} {k : Nat} (hk : k < 20) : ix_ra (fm_W μ τ) (75) 0 (nI k) = some (μ (75) k) := fm_ra (fm_lk rfl) hk (by omega)
theorem wa_75 {μ : fm_M} {τ : List fm_D} {k : Nat} {x : Int32} (hk : k < 20) : ix_wa (fm_W μ τ) (75) 0 (nI k) x = some (fm_W (fm_u μ (75) k x) τ) := fm_wa (fm_lk rfl) hk (by omega)
theorem al_75 {μ : fm_M} {τ : List fm_D}  : ix_al (fm_W μ τ) (75) = some 20 := fm_al (fm_lk rfl) (by decide)
theorem pk_cases {r : Nat} (h : pkO r) : r = 26 ∨ r = 30 ∨ r = 34 ∨ r = 38 ∨ r = 42 ∨ r = 46 := by
  have hl : r < 76 := (List.getElem?_eq_some_iff.mp h).1
  have key : ∀ r, r < 76 → (fm_T[r]? = some (0, 3, [0, 0, r + 3, 0, r + 4, r + 5, 0, 0, 0, 0])) → r = 26 ∨ r = 30 ∨ r = 34 ∨ r = 38 ∨ r = 42 ∨ r = 46 := by decide +kernel
  exact key r hl h
theorem pk_1 {r : Nat} (h : pkO r) : fm_T[r + 1]? = some (1, 0, [100]) := by rcases pk_cases h with rfl | rfl | rfl | rfl | rfl | rfl <;> rfl
theorem pk_2 {r : Nat} (h : pkO r) : fm_T[r + 2]? = some (1, 0, [5]) := by rcases pk_cases h with rfl | rfl | rfl | rfl | rfl | rfl <;> rfl
theorem pk_3 {r : Nat} (h : pkO r) : fm_T[r + 3]? = some (1, 0, [100]) := by rcases pk_cases h with rfl | rfl | rfl | rfl | rfl | rfl <;> rfl
theorem sp_cases {r : Nat} (h : spO r) : ∃ i, i < 7 ∧ r = 50 + 2 * i := by
  have hl : r < 76 := (List.getElem?_eq_some_iff.mp h).1
  have key : ∀ r, r < 76 → (fm_T[r]? = some (0, 5, [r + 3, 0, 1, 0, 0, 0, 0])) → ∃ i, i < 7 ∧ r = 50 + 2 * i := by decide +kernel
  exact key r hl h
theorem sp_1 {r : Nat} (h : spO r) : fm_T[r + 1]? = some (1, 0, [1601]) := by
  obtain ⟨i, hi, rfl⟩ := sp_cases h
  rcases (by omega : i = 0 ∨ i = 1 ∨ i = 2 ∨ i = 3 ∨ i = 4 ∨ i = 5 ∨ i = 6) with rfl | rfl | rfl | rfl | rfl | rfl | rfl <;> rfl
theorem pk_O {i : Nat} (h : i < 6) : pkO (26 + 4 * i) := by
  rcases (by omega : i = 0 ∨ i = 1 ∨ i = 2 ∨ i = 3 ∨ i = 4 ∨ i = 5) with rfl | rfl | rfl | rfl | rfl | rfl <;> exact rfl
theorem sp_O {i : Nat} (h : i < 7) : spO (50 + 2 * i) := by
  rcases (by omega : i = 0 ∨ i = 1 ∨ i = 2 ∨ i = 3 ∨ i = 4 ∨ i = 5 ∨ i = 6) with rfl | rfl | rfl | rfl | rfl | rfl | rfl <;> exact rfl
theorem tp_cases {r : Nat} (h : tpO r) : r = 64 ∨ r = 65 ∨ r = 66 := by
  have hl : r < 76 := (List.getElem?_eq_some_iff.mp h).1
  have key : ∀ r, r < 76 → (fm_T[r]? = some (0, 10, [52, 0, 0, 0, 0])) → r = 64 ∨ r = 65 ∨ r = 66 := by decide +kernel
  exact key r hl h
/-- rows of numbers with their two arrays of n -/
def rwA (r n : Nat) : Prop := rwO r ∧ fm_T[r + 1]? = some (1, 0, [n]) ∧ fm_T[r + 2]? = some (1, 0, [n])
theorem ra_pk1 {μ : fm_M} {τ : List fm_D} {k : Nat} {r : Nat} (hr : pkO r) (hk : k < 100) : ix_ra (fm_W μ τ) (r + 1) 0 (nI k) = some (μ (r + 1) k) := fm_ra (fm_lk (pk_1 hr)) hk (by omega)
theorem wa_pk1 {μ : fm_M} {τ : List fm_D} {k : Nat} {r : Nat} (hr : pkO r) {x : Int32} (hk : k < 100) : ix_wa (fm_W μ τ) (r + 1) 0 (nI k) x = some (fm_W (fm_u μ (r + 1) k x) τ) := fm_wa (fm_lk (pk_1 hr)) hk (by omega)
theorem al_pk1 {μ : fm_M} {τ : List fm_D}  {r : Nat}(hr : pkO r)  : ix_al (fm_W μ τ) (r + 1) = some 100 := fm_al (fm_lk (pk_1 hr)) (by decide)
theorem ra_pk2 {μ : fm_M} {τ : List fm_D} {k : Nat} {r : Nat} (hr : pkO r) (hk : k < 5) : ix_ra (fm_W μ τ) (r + 2) 0 (nI k) = some (μ (r + 2) k) := fm_ra (fm_lk (pk_2 hr)) hk (by omega)
theorem wa_pk2 {μ : fm_M} {τ : List fm_D} {k : Nat} {r : Nat} (hr : pkO r) {x : Int32} (hk : k < 5) : ix_wa (fm_W μ τ) (r + 2) 0 (nI k) x = some (fm_W (fm_u μ (r + 2) k x) τ) := fm_wa (fm_lk (pk_2 hr)) hk (by omega)
theorem al_pk2 {μ : fm_M} {τ : List fm_D}  {r : Nat}(hr : pkO r)  : ix_al (fm_W μ τ) (r + 2) = some 5 := fm_al (fm_lk (pk_2 hr)) (by decide)
theorem ra_pk3 {μ : fm_M} {τ : List fm_D} {k : Nat} {r : Nat} (hr : pkO r) (hk : k < 100) : ix_ra (fm_W μ τ) (r + 3) 0 (nI k) = some (μ (r + 3) k) := fm_ra (fm_lk (pk_3 hr)) hk (by omega)
theorem wa_pk3 {μ : fm_M} {τ : List fm_D} {k : Nat} {r : Nat} (hr : pkO r) {x : Int32} (hk : k < 100) : ix_wa (fm_W μ τ) (r + 3) 0 (nI k) x = some (fm_W (fm_u μ (r + 3) k x) τ) := fm_wa (fm_lk (pk_3 hr)) hk (by omega)
theorem al_pk3 {μ : fm_M} {τ : List fm_D}  {r : Nat}(hr : pkO r)  : ix_al (fm_W μ τ) (r + 3) = some 100 := fm_al (fm_lk (pk_3 hr)) (by decide)
theorem ra_sp1 {μ : fm_M} {τ : List fm_D} {k : Nat} {r : Nat} (hr : spO r) (hk : k < 1601) : ix_ra (fm_W μ τ) (r + 1) 0 (nI k) = some (μ (r + 1) k) := fm_ra (fm_lk (sp_1 hr)) hk (by omega)
theorem wa_sp1 {μ : fm_M} {τ : List fm_D} {k : Nat} {r : Nat} (hr : spO r) {x : Int32} (hk : k < 1601) : ix_wa (fm_W μ τ) (r + 1) 0 (nI k) x = some (fm_W (fm_u μ (r + 1) k x) τ) := fm_wa (fm_lk (sp_1 hr)) hk (by omega)
theorem al_sp1 {μ : fm_M} {τ : List fm_D}  {r : Nat}(hr : spO r)  : ix_al (fm_W μ τ) (r + 1) = some 1601 := fm_al (fm_lk (sp_1 hr)) (by decide)
theorem rq_22 {μ : fm_M} {τ : List fm_D} {k : Nat} (hk : k < 6) : ix_rq (fm_W μ τ) 22 (nI k) = some (fm_e (μ 22 k)) := fm_rq (fm_lk rfl) (by decide) (by decide) hk (by omega)
theorem al_22 {μ : fm_M} {τ : List fm_D} : ix_al (fm_W μ τ) 22 = some 6 := fm_alq (fm_lk rfl) (by decide) (by decide)
theorem rq_23 {μ : fm_M} {τ : List fm_D} {k : Nat} (hk : k < 6) : ix_rq (fm_W μ τ) 23 (nI k) = some (fm_e (μ 23 k)) := fm_rq (fm_lk rfl) (by decide) (by decide) hk (by omega)
theorem al_23 {μ : fm_M} {τ : List fm_D} : ix_al (fm_W μ τ) 23 = some 6 := fm_alq (fm_lk rfl) (by decide) (by decide)
theorem rq_24 {μ : fm_M} {τ : List fm_D} {k : Nat} (hk : k < 6) : ix_rq (fm_W μ τ) 24 (nI k) = some (fm_e (μ 24 k)) := fm_rq (fm_lk rfl) (by decide) (by decide) hk (by omega)
theorem al_24 {μ : fm_M} {τ : List fm_D} : ix_al (fm_W μ τ) 24 = some 6 := fm_alq (fm_lk rfl) (by decide) (by decide)
