/-! what holds of every state of a Sand, and is kept -/
def m_iv (G : Nat → Nat → Int32) (cc kc : Nat) (S : Nat → Nat → Int32) (ss : Int32) : Prop := (∀ j, j < 6 → (S 0 j = -1 ∨ (j < kc ∧ ∃ c, c < cc ∧ S 0 j = nI c)) ∧ (j < kc → ∃ n t : Nat, S 1 j = nI n ∧ G 2 j = nI t ∧ n ≤ t ∧ 1 ≤ t ∧ t ≤ 6)) ∧ (∀ j, j < 6 → ss = nI j → j < kc ∧ ¬ S 0 j = -1 ∧ S 1 j < G 2 j)
theorem m_iv.ok {q : p_Q} {G : Nat → Nat → Int32} {cc kc : Nat} (h : m_iv G cc kc q.2.2.2.2 q.2.1) : m_ok q G cc kc := by
  intro k hk
  obtain ⟨h1, h2⟩ := h.1 k hk
  refine ⟨h1, fun hk2 => ?_⟩
  obtain ⟨n, t, e1, e2, h3, h4, h5⟩ := h2 hk2
  rw [e1, e2]
  exact nI_nlt h3 (by omega)
theorem m_iv.rm {G : Nat → Nat → Int32} {cc kc : Nat} {S : Nat → Nat → Int32} {ss : Int32} (h : m_iv G cc kc S ss) (k : Nat) : m_iv G cc kc (p_rmS S k) (p_rms ss k) := by
  constructor
  · intro j hj
    obtain ⟨h1, h2⟩ := h.1 j hj
    obtain ⟨a0, a1, _⟩ := p_rmS_at S k j
    rw [a0, a1]
    by_cases e : j = k
    · rw [if_pos e, if_pos e]
      refine ⟨Or.inl rfl, fun hj2 => ?_⟩
      obtain ⟨n, t, e1, e2, h3, h4, h5⟩ := h2 hj2
      exact ⟨0, t, rfl, e2, by omega, h4, h5⟩
    · rw [if_neg e, if_neg e]
      exact ⟨h1, h2⟩
  · intro j hj hs
    unfold p_rms at hs
    split at hs
    · exact absurd hs.symm (p_nm1 (by omega))
    · rename_i hne
      have hjk : ¬ j = k := fun e => hne (by rw [hs, e])
      obtain ⟨h1, h2, h3⟩ := h.2 j hj hs
      obtain ⟨a0, a1, _⟩ := p_rmS_at S k j
      rw [a0, a1, if_neg hjk, if_neg hjk]
      exact ⟨h1, h2, h3⟩
theorem m_iv.age {G : Nat → Nat → Int32} {cc kc : Nat} {S : Nat → Nat → Int32} {ss : Int32} (h : m_iv G cc kc S ss) (tc wd hh : Nat) {k : Nat} (hk : k < kc) (hkc : kc ≤ 6) (hk0 : ¬ S 0 k = -1) : m_iv G cc kc (p_age G tc wd hh k S ss).1 (p_age G tc wd hh k S ss).2 := by
  unfold p_age
  split
  · exact h.rm k
  · split
    · rename_i hs
      obtain ⟨n, t, e1, e2, h3, h4, h5⟩ := (h.1 k (by omega)).2 hk
      have hlt := (h.2 k (by omega) hs).2.2
      rw [e1, e2, nI_ltI (by omega) (by omega)] at hlt
      have u1 : ∀ j, va_up S 1 (upd (S 1) k (S 1 k + 1)) 0 j = S 0 j := fun j => rfl
      have u2 : ∀ j, va_up S 1 (upd (S 1) k (S 1 k + 1)) 1 j = (if j = k then nI (n + 1) else S 1 j) := by
        intro j
        show upd (S 1) k (S 1 k + 1) j = _
        by_cases e : j = k
        · subst e; rw [pk_us, if_pos rfl, e1, nI_1]
        · rw [pk_un e, if_neg e]
      refine ⟨fun j hj => ?_, fun j hj hs2 => ?_⟩
      · obtain ⟨g1, g2⟩ := h.1 j hj
        refine ⟨g1, fun hj2 => ?_⟩
        show ∃ n' t' : Nat, va_up S 1 (upd (S 1) k (S 1 k + 1)) 1 j = nI n' ∧ _
        rw [u2 j]
        by_cases e : j = k
        · subst e
          rw [if_pos rfl]
          exact ⟨n + 1, t, rfl, e2, by omega, h4, h5⟩
        · rw [if_neg e]; exact g2 hj2
      · dsimp only at hs2
        split at hs2
        · exact absurd hs2.symm (p_nm1 (by omega))
        · rename_i hnd
          have ejk : j = k := by
            have := hs.symm.trans hs2
            rw [nI_eq (by omega) (by omega)] at this
            exact this.symm
          subst ejk
          refine ⟨hk, hk0, ?_⟩
          show va_up S 1 (upd (S 1) j (S 1 j + 1)) 1 j < G 2 j
          unfold p_done at hnd
          have hx : ¬ va_up S 1 (upd (S 1) j (S 1 j + 1)) 0 j = -1 := hk0
          simp only [hx, decide_false, Bool.not_false, Bool.true_and, Bool.not_eq_true', decide_eq_false_iff_not, Classical.not_not] at hnd
          exact hnd
    · split
      · split
        · exact ⟨fun j hj => h.1 j hj, fun j hj hs => h.2 j hj hs⟩
        · have h' : m_iv G cc kc (va_up S 2 (upd (S 2) k (S 2 k + 1))) ss := ⟨fun j hj => h.1 j hj, fun j hj hs => h.2 j hj hs⟩
          exact h'.rm k
      · exact h
theorem m_iv.pl {G : Nat → Nat → Int32} {cc kc : Nat} {S : Nat → Nat → Int32} {ss : Int32} (h : m_iv G cc kc S ss) (tc wd hh : Nat) (hkc : kc ≤ 6) {n : Nat} (hn : n ≤ kc) : m_iv G cc kc (p_pl G tc wd hh S ss n).1 (p_pl G tc wd hh S ss n).2 := by
  induction n with
  | zero => exact h
  | succ n ih =>
    have h1 := ih (by omega)
    simp only [p_pl]
    split
    · exact h1
    · rename_i hne
      exact h1.age tc wd hh (by omega) hkc hne
theorem m_iv.pass {q : p_Q} {G : Nat → Nat → Int32} {cc kc : Nat} (h : m_iv G cc kc q.2.2.2.2 q.2.1) (tc wd : Nat) (hkc : kc ≤ 6) : m_iv G cc kc (p_pass G tc wd kc q).2.2.2.2 (p_pass G tc wd kc q).2.1 := h.pl tc wd q.1 hkc (Nat.le_refl _)
