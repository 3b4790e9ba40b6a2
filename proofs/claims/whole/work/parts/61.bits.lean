/-! how many begins: by both, over all small sets -/
set_option maxRecDepth 100000 in
theorem z_bc0 : ∀ a, a < 64 → ∀ b, b < 64 → p_bc (nI (64 * a + b)) = m_ones (nI (64 * a + b)) 12 := by decide +kernel
theorem z_bc {x : Nat} (h : x < 4096) : p_bc (nI x) = m_ones (nI x) 12 := by
  have h2 := z_bc0 (x / 64) (by omega) (x % 64) (by omega)
  rw [show 64 * (x / 64) + x % 64 = x by omega] at h2
  exact h2
