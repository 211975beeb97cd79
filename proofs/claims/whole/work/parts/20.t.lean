--need 15.i00 15.i01 15.i02 19.dec
theorem tt2 {μ : fm_M} {τ : List fm_D} {r : Nat} (hO : rwO r) : ix_g (fm_W μ τ) r [4] 4 = some (.int (μ r 4)) := by
  simp (disch := first | assumption | decide) only [rw_g4]
theorem tt3 {μ : fm_M} {τ : List fm_D} {r : Nat} (hO : rwO r) : ix_g (fm_W μ τ) r [4] 4 = some (.int (μ r 4)) := by
  simp (disch := rfl) only [rw_g4 hO]
set_option trace.Meta.Tactic.simp.discharge true in
theorem tt5 {μ : fm_M} {τ : List fm_D} {r : Nat} (hO : rwO r) : ix_g (fm_W μ τ) r [4] 4 = some (.int (μ r 4)) := by
  simp (disch := trace_state; first | assumption | rfl) only [rw_g4]
