/-! by how many begins each clause is in force, counted by both -/
theorem z_cif (f F : Nat → Int32) (bs : Int32) {k : Nat} (hk : k < 6) (n : Nat) : p_cif f F bs n k = m_cf F bs k n := by
  induction n with
  | zero =>
    show p_zer f 6 k = 0
    rw [p_zer_at, if_pos hk]
  | succ n ih =>
    show (if p_bit bs (nI n) = 0 then p_cif f F bs n else p_adf (p_cif f F bs n) (F n) 6) k = (if p_bit bs (nI n) = 0 then m_cf F bs k n else m_cf F bs k n + p_bit (F n) (nI k))
    by_cases e : p_bit bs (nI n) = 0
    · rw [if_pos e, if_pos e]; exact ih
    · rw [if_neg e, if_neg e]
      show (if k < 6 then p_cif f F bs n k + p_bit (F n) (nI k) else _) = _
      rw [if_pos hk, ih]
theorem z_bta {f g : Nat → Int32} (all : Int32) {n : Nat} (h : ∀ k, k < n → f k = g k) : p_bta f all n = p_bta g all n := by
  induction n with
  | zero => rfl
  | succ n ih =>
    have i2 := ih (fun k hk => h k (by omega))
    have e : p_prt f all n = p_prt g all n := by unfold p_prt; rw [h n (by omega)]
    show (if p_prt f all n < (p_bta f all n).2 then _ else _) = (if p_prt g all n < (p_bta g all n).2 then _ else _)
    rw [i2, e]
theorem z_look (f F : Nat → Int32) (bs all : Int32) {kc : Nat} (hkc : kc ≤ 6) : p_bta (p_cif f F bs 12) all kc = m_bta F bs all kc := z_bta all (fun k hk => z_cif f F bs (by omega) 12)
