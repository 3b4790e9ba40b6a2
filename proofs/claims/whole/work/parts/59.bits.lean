/-! how many of a set's clauses: by both, over all small sets -/
set_option maxRecDepth 100000 in
theorem z_bc9 : ∀ x, x < 64 → p_bc (nI x) = m_ones (nI x) 9 := by decide +kernel
