/-! the stick: what it may write -/
/-- the stick writes a clause, or none -/
def z_T (s : Int32) : Prop := s = -1 ∨ ∃ j : Nat, j < 6 ∧ s = nI j
theorem z_rms (ss : Int32) (k : Nat) : p_rms ss k = ss ∨ (ss = nI k ∧ p_rms ss k = -1) := by
  unfold p_rms
  by_cases e : ss = nI k
  · rw [if_pos e]; exact Or.inr ⟨e, rfl⟩
  · rw [if_neg e]; exact Or.inl rfl
theorem z_age_s (G : Nat → Nat → Int32) (tc wd hh k : Nat) (S : Nat → Nat → Int32) (ss : Int32) : (p_age G tc wd hh k S ss).2 = ss ∨ (ss = nI k ∧ (p_age G tc wd hh k S ss).2 = -1) := by
  unfold p_age
  split
  · exact z_rms ss k
  · split
    · rename_i e
      show (if _ then _ else _) = _ ∨ _ ∧ (if _ then _ else _) = _
      split
      · exact Or.inr ⟨e, rfl⟩
      · exact Or.inl rfl
    · split
      · split
        · exact Or.inl rfl
        · exact z_rms ss k
      · exact Or.inl rfl
theorem z_pl_s (G : Nat → Nat → Int32) (tc wd hh : Nat) (S : Nat → Nat → Int32) (ss : Int32) (n : Nat) : (p_pl G tc wd hh S ss n).2 = ss ∨ ((∃ k, k < n ∧ ss = nI k) ∧ (p_pl G tc wd hh S ss n).2 = -1) := by
  induction n with
  | zero => exact Or.inl rfl
  | succ n ih =>
    simp only [p_pl]
    split
    · rcases ih with h | ⟨⟨k, hk, h1⟩, h2⟩
      · exact Or.inl h
      · exact Or.inr ⟨⟨k, by omega, h1⟩, h2⟩
    · rcases z_age_s G tc wd hh n (p_pl G tc wd hh S ss n).1 (p_pl G tc wd hh S ss n).2 with h | ⟨h, h3⟩
      · rw [h]
        rcases ih with h | ⟨⟨k, hk, h1⟩, h2⟩
        · exact Or.inl h
        · exact Or.inr ⟨⟨k, by omega, h1⟩, h2⟩
      · rw [h3]
        rcases ih with h4 | ⟨⟨k, hk, h1⟩, h2⟩
        · exact Or.inr ⟨⟨n, by omega, h4.symm.trans h⟩, rfl⟩
        · exact Or.inr ⟨⟨k, by omega, h1⟩, rfl⟩
theorem z_T_rms {s : Int32} (h : z_T s) (k : Nat) : z_T (p_rms s k) := by
  rcases z_rms s k with e | ⟨_, e⟩
  · rw [e]; exact h
  · rw [e]; exact Or.inl rfl
theorem z_T_ra {S : Nat → Nat → Int32} {s : Int32} (h : z_T s) (n : Nat) : z_T (p_ra S s n).2.1 := by
  induction n with
  | zero => exact h
  | succ n ih =>
    simp only [p_ra]
    split
    · exact ih
    · exact z_T_rms ih n
theorem z_T_sm {u : p_Q} (h : z_T u.2.1) (kc : Nat) : z_T (p_sm u kc).2.1 := z_T_ra h kc
theorem z_T_rb {u : p_Q} (h : z_T u.2.1) (k : Nat) : z_T (p_rb u k).2.1 := z_T_rms h k
theorem z_T_wr (u : p_Q) {k : Nat} (h : k < 6) (c : Nat) : z_T (p_wr u k c).2.1 := Or.inr ⟨k, h, rfl⟩
theorem z_T_pass {u : p_Q} (h : z_T u.2.1) (G : Nat → Nat → Int32) (tc wd kc : Nat) : z_T (p_pass G tc wd kc u).2.1 := by
  rcases z_pl_s G tc wd u.1 u.2.2.2.2 u.2.1 kc with e | ⟨_, e⟩
  · show z_T (p_pl G tc wd u.1 u.2.2.2.2 u.2.1 kc).2
    rw [e]; exact h
  · show z_T (p_pl G tc wd u.1 u.2.2.2.2 u.2.1 kc).2
    rw [e]; exact Or.inl rfl
theorem z_T_it {u : p_Q} (h : z_T u.2.1) (G : Nat → Nat → Int32) (tc wd kc n : Nat) : z_T (p_it G tc wd kc u n).2.1 := by
  induction n with
  | zero => exact h
  | succ n ih => exact z_T_pass ih G tc wd kc
theorem z_T_d1 {x : p_Q × Int32} (h : z_T x.1.2.1) (G : Nat → Nat → Int32) (tc cc : Nat) {kc : Nat} (hkc : kc ≤ 6) : z_T (p_d1 G tc cc kc x).1.2.1 := by
  by_cases c : 0 < kc ∧ 0 < cc
  · by_cases hm : p_may x.1.2.2.2.2 G x.1.2.1 tc kc x.1.1 (p_dr x.2 kc) (p_dr (p_lcg x.2) cc) = true
    · rw [p_d1_y c hm]
      exact z_T_wr x.1 (Nat.lt_of_lt_of_le (p_dr_lt _ c.1) hkc) _
    · have e : p_d1 G tc cc kc x = (x.1, p_lcg (p_lcg x.2)) := by
        unfold p_d1
        rw [if_pos c, if_neg hm]
      rw [e]; exact h
  · have e : p_d1 G tc cc kc x = x := if_neg c
    rw [e]; exact h
theorem z_T_dd {x : p_Q × Int32} (h : z_T x.1.2.1) (G : Nat → Nat → Int32) (tc cc : Nat) {kc : Nat} (hkc : kc ≤ 6) : z_T (p_dd G tc cc kc x).1.2.1 := by
  have h1 := z_T_d1 h G tc cc hkc
  unfold p_dd
  by_cases c : p_dr (p_d1 G tc cc kc x).2 16 = 0
  · rw [if_pos c]; exact z_T_sm h1 kc
  · rw [if_neg c]; exact h1
theorem z_T_df {x : p_Q × Int32} (h : z_T x.1.2.1) (G : Nat → Nat → Int32) (tc wd cc : Nat) {kc : Nat} (hkc : kc ≤ 6) (n : Nat) : z_T (p_df G tc wd cc kc x n).1.2.1 := by
  induction n with
  | zero => exact h
  | succ n ih => exact z_T_pass (z_T_dd ih G tc cc hkc) G tc wd kc
