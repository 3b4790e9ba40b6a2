/-! the first of the begins: by both, over all small sets -/
set_option maxRecDepth 100000 in
theorem z_tz0 : ∀ a, a < 64 → ∀ b, b < 64 → (if nI (64 * a + b) = 0 then -1 else p_ntz (nI (64 * a + b))) = m_fb (nI (64 * a + b)) 12 := by decide +kernel
theorem z_tz {x : Nat} (h : x < 4096) : (if nI x = 0 then -1 else p_ntz (nI x)) = m_fb (nI x) 12 := by
  have h2 := z_tz0 (x / 64) (by omega) (x % 64) (by omega)
  rw [show 64 * (x / 64) + x % 64 = x by omega] at h2
  exact h2
