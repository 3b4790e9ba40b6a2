/-! the model's hour: passes -/
def m_st (G : Nat → Nat → Int32) (tc wd : Nat) (X : p_Q) (k : Nat) : p_Q := if X.2.2.2.2 0 k = -1 then X else (X.1, (p_age G tc wd X.1 k X.2.2.2.2 X.2.1).2, X.2.2.1, X.2.2.2.1, (p_age G tc wd X.1 k X.2.2.2.2 X.2.1).1)
def m_X (G : Nat → Nat → Int32) (tc wd : Nat) (q : p_Q) : Nat → p_Q
  | 0 => q
  | k + 1 => m_st G tc wd (m_X G tc wd q k) k
theorem m_X_s (G : Nat → Nat → Int32) (tc wd : Nat) (q : p_Q) (k : Nat) : m_X G tc wd q (k + 1) = m_st G tc wd (m_X G tc wd q k) k := rfl
theorem m_X_0 (G : Nat → Nat → Int32) (tc wd : Nat) (q : p_Q) : m_X G tc wd q 0 = q := rfl
theorem m_X_pl (G : Nat → Nat → Int32) (tc wd : Nat) (q : p_Q) (n : Nat) : m_X G tc wd q n = (q.1, (p_pl G tc wd q.1 q.2.2.2.2 q.2.1 n).2, q.2.2.1, q.2.2.2.1, (p_pl G tc wd q.1 q.2.2.2.2 q.2.1 n).1) := by
  induction n with
  | zero => rfl
  | succ n ih =>
    rw [m_X_s, ih]
    unfold m_st
    simp only [p_pl]
    split <;> rfl
section
variable {G : Nat → Nat → Int32} {tc wd : Nat} {X : p_Q} {k : Nat}
theorem m_st_0 (h : X.2.2.2.2 0 k = -1) : m_st G tc wd X k = X := if_pos h
theorem m_st_1 (h : ¬ X.2.2.2.2 0 k = -1) (hw : p_wet G tc (X.2.2.2.2 0 k).toNatClampNeg X.1 = true) : m_st G tc wd X k = p_rb X k := by
  unfold m_st p_age; rw [if_neg h, if_pos hw]; rfl
theorem m_st_2 (h : ¬ X.2.2.2.2 0 k = -1) (hw : ¬ p_wet G tc (X.2.2.2.2 0 k).toNatClampNeg X.1 = true) (hs : X.2.1 = nI k) (hd : p_done (va_up X.2.2.2.2 1 (upd (X.2.2.2.2 1) k (X.2.2.2.2 1 k + 1))) G k = true) : m_st G tc wd X k = (X.1, -1, X.2.2.1, X.2.2.2.1, va_up X.2.2.2.2 1 (upd (X.2.2.2.2 1) k (X.2.2.2.2 1 k + 1))) := by
  unfold m_st p_age; rw [if_neg h, if_neg hw, if_pos hs, if_pos hd]
theorem m_st_2n (h : ¬ X.2.2.2.2 0 k = -1) (hw : ¬ p_wet G tc (X.2.2.2.2 0 k).toNatClampNeg X.1 = true) (hs : X.2.1 = nI k) (hd : p_done (va_up X.2.2.2.2 1 (upd (X.2.2.2.2 1) k (X.2.2.2.2 1 k + 1))) G k = false) : m_st G tc wd X k = (X.1, X.2.1, X.2.2.1, X.2.2.2.1, va_up X.2.2.2.2 1 (upd (X.2.2.2.2 1) k (X.2.2.2.2 1 k + 1))) := by
  unfold m_st p_age; rw [if_neg h, if_neg hw, if_pos hs, if_neg (by rw [hd]; decide)]
theorem m_st_3 (h : ¬ X.2.2.2.2 0 k = -1) (hw : ¬ p_wet G tc (X.2.2.2.2 0 k).toNatClampNeg X.1 = true) (hs : ¬ X.2.1 = nI k) (hd : p_done X.2.2.2.2 G k = true) (hy : X.2.2.2.2 2 k + 1 ≤ nI wd) : m_st G tc wd X k = (X.1, X.2.1, X.2.2.1, X.2.2.2.1, va_up X.2.2.2.2 2 (upd (X.2.2.2.2 2) k (X.2.2.2.2 2 k + 1))) := by
  unfold m_st p_age; rw [if_neg h, if_neg hw, if_neg hs, if_pos hd, if_pos hy]
theorem m_st_3n (h : ¬ X.2.2.2.2 0 k = -1) (hw : ¬ p_wet G tc (X.2.2.2.2 0 k).toNatClampNeg X.1 = true) (hs : ¬ X.2.1 = nI k) (hd : p_done X.2.2.2.2 G k = true) (hy : ¬ X.2.2.2.2 2 k + 1 ≤ nI wd) : m_st G tc wd X k = p_rb (X.1, X.2.1, X.2.2.1, X.2.2.2.1, va_up X.2.2.2.2 2 (upd (X.2.2.2.2 2) k (X.2.2.2.2 2 k + 1))) k := by
  unfold m_st p_age; rw [if_neg h, if_neg hw, if_neg hs, if_pos hd, if_neg hy]; rfl
theorem m_st_4 (h : ¬ X.2.2.2.2 0 k = -1) (hw : ¬ p_wet G tc (X.2.2.2.2 0 k).toNatClampNeg X.1 = true) (hs : ¬ X.2.1 = nI k) (hd : p_done X.2.2.2.2 G k = false) : m_st G tc wd X k = X := by
  unfold m_st p_age; rw [if_neg h, if_neg hw, if_neg hs, if_neg (by rw [hd]; decide)]
end
theorem m_iv.X {q : p_Q} {G : Nat → Nat → Int32} {cc kc : Nat} (h : m_iv G cc kc q.2.2.2.2 q.2.1) (tc wd : Nat) (hkc : kc ≤ 6) {n : Nat} (hn : n ≤ kc) : m_iv G cc kc (m_X G tc wd q n).2.2.2.2 (m_X G tc wd q n).2.1 ∧ (m_X G tc wd q n).1 = q.1 := by
  rw [m_X_pl]
  exact ⟨h.pl tc wd q.1 hkc hn, rfl⟩
