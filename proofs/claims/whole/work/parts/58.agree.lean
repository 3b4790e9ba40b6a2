/-! what fits, over the hours and over the entries; the begins as a small set -/
theorem z_rb (x k : Int32) : rr_b (!decide (p_bit x k = 0)) = p_bit x k := by
  rcases p_bit01 x k with h | h
  · rw [h]; rfl
  · rw [h]; rfl
theorem z_lt_gt (f : Nat → Int32) {i n : Nat} (h : i < n) : (f i).toNatClampNeg < p_lt f n := by
  induction n with
  | zero => omega
  | succ n ih =>
    show _ < max (p_lt f n) ((f n).toNatClampNeg + 1)
    by_cases e : i = n
    · rw [e]; omega
    · have := ih (by omega); omega
theorem z_fit {sn : Nat} {V : Nat → Nat → Int32} (hV : z_gV sn V) (G : Nat → Nat → Int32) (tc wd cc kc b : Nat) : p_fit V sn G tc wd cc kc b = m_so V G tc wd cc kc b sn := by
  unfold p_fit m_so
  rw [Bool.eq_iff_iff, p_all_iff, p_all_iff]
  constructor
  · intro h i hi
    obtain ⟨k, x, z, hk, hx, v0, v1, v2⟩ := hV.2 i hi
    have hcl : (V 1 i).toNatClampNeg = x := by rw [v1]; exact nI_clamp (by omega)
    have h1 := p_all_iff.mp (h x (by rw [← hcl]; exact z_lt_gt (V 1) hi)) i hi
    unfold p_fb at h1
    rw [v1, decide_eq_true rfl, z_rb] at h1
    rw [v1] at hcl
    rw [v1, hcl]
    exact h1
  · intro h x hx
    refine p_all_iff.mpr (fun i hi => ?_)
    unfold p_fb
    by_cases e : V 1 i = nI x
    · have h1 := h i hi
      obtain ⟨k, y, z, hk, hy, v0, v1, v2⟩ := hV.2 i hi
      have hxy : x = y := by
        have hl : p_lt (V 1) sn ≤ 61 := p_lt_le (fun i hi => by obtain ⟨k, y, z, hk, hy, v0, v1, v2⟩ := hV.2 i hi; exact ⟨y, hy, v1⟩)
        have := congrArg Int32.toInt (e.symm.trans v1)
        rw [nI_toInt (by omega), nI_toInt (by omega)] at this
        omega
      rw [v1, nI_clamp (by omega), ← hxy] at h1
      rw [z_rb, h1, Bool.or_true]
    · rw [decide_eq_false e]
      rfl
theorem z_bs (P : Nat → Bool) {n : Nat} (hn : n ≤ 12) : ∃ x : Nat, x < 2 ^ n ∧ p_bs P n = nI x := by
  induction n with
  | zero => exact ⟨0, by omega, rfl⟩
  | succ n ih =>
    obtain ⟨x, h1, h2⟩ := ih (by omega)
    have hp : 2 ^ (n + 1) ≤ 2 ^ 12 := Nat.pow_le_pow_right (by decide) hn
    have hp1 : 2 ^ (n + 1) = 2 * 2 ^ n := by rw [Nat.pow_succ, Nat.mul_comm]
    show ∃ x, x < 2 ^ (n + 1) ∧ (if P n = true then _ else _) = nI x
    split
    · refine ⟨x ||| 2 ^ n, Nat.or_lt_two_pow (by omega) (by omega), ?_⟩
      rw [h2, p_sl1 n (by omega)]
      exact p_nor (by omega) (by omega)
    · exact ⟨x, by omega, h2⟩
