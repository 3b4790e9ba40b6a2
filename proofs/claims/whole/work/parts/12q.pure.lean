/-! rows that agree where they count do alike -/
def p_ag (S T : Nat → Nat → Int32) : Prop := ∀ i, i < 3 → ∀ k, k < 6 → S i k = T i k
theorem p_ag.self {S : Nat → Nat → Int32} : p_ag S S := fun _ _ _ _ => Eq.refl _
theorem p_ag.symm {S T : Nat → Nat → Int32} (h : p_ag S T) : p_ag T S := fun i hi k hk => (h i hi k hk).symm
theorem p_ag.trans {S T U : Nat → Nat → Int32} (h : p_ag S T) (h2 : p_ag T U) : p_ag S U := fun i hi k hk => (h i hi k hk).trans (h2 i hi k hk)
theorem p_ag.rm {S T : Nat → Nat → Int32} (h : p_ag S T) (j : Nat) : p_ag (p_rmS S j) (p_rmS T j) := by
  intro i hi k hk
  rcases (show i = 0 ∨ i = 1 ∨ i = 2 by omega) with rfl | rfl | rfl
  · show upd (S 0) j (-1) k = upd (T 0) j (-1) k
    by_cases e : k = j
    · subst e; rw [pk_us, pk_us]
    · rw [pk_un e, pk_un e]; exact h 0 (by omega) k hk
  · show upd (S 1) j 0 k = upd (T 1) j 0 k
    by_cases e : k = j
    · subst e; rw [pk_us, pk_us]
    · rw [pk_un e, pk_un e]; exact h 1 (by omega) k hk
  · show upd (S 2) j 0 k = upd (T 2) j 0 k
    by_cases e : k = j
    · subst e; rw [pk_us, pk_us]
    · rw [pk_un e, pk_un e]; exact h 2 (by omega) k hk
theorem p_ag.up {S T : Nat → Nat → Int32} (h : p_ag S T) (a j : Nat) (x y : Int32) (hxy : x = y) : p_ag (va_up S a (upd (S a) j x)) (va_up T a (upd (T a) j y)) := by
  subst hxy
  intro i hi k hk
  unfold va_up
  by_cases e : i = a
  · subst e
    rw [if_pos rfl, if_pos rfl]
    by_cases e2 : k = j
    · subst e2; rw [pk_us, pk_us]
    · rw [pk_un e2, pk_un e2]; exact h i hi k hk
  · rw [if_neg e, if_neg e]; exact h i hi k hk
theorem p_rmS_at (S : Nat → Nat → Int32) (j k : Nat) : p_rmS S j 0 k = (if k = j then -1 else S 0 k) ∧ p_rmS S j 1 k = (if k = j then 0 else S 1 k) ∧ p_rmS S j 2 k = (if k = j then 0 else S 2 k) := ⟨rfl, rfl, rfl⟩
theorem p_rsS_at (S : Nat → Nat → Int32) (n k : Nat) (hk : k < n) : p_rsS S n 0 k = -1 ∧ p_rsS S n 1 k = 0 ∧ p_rsS S n 2 k = 0 := by
  induction n with
  | zero => omega
  | succ n ih =>
    obtain ⟨a, b, c⟩ := p_rmS_at (p_rsS S n) n k
    show p_rmS (p_rsS S n) n 0 k = -1 ∧ p_rmS (p_rsS S n) n 1 k = 0 ∧ p_rmS (p_rsS S n) n 2 k = 0
    rw [a, b, c]
    by_cases e : k = n
    · simp [e]
    · simp only [if_neg e]
      exact ih (by omega)
theorem p_ag.rs (S T : Nat → Nat → Int32) : p_ag (p_rsS S 6) (p_rsS T 6) := by
  intro i hi k hk
  obtain ⟨a, b, c⟩ := p_rsS_at S 6 k hk
  obtain ⟨a', b', c'⟩ := p_rsS_at T 6 k hk
  rcases (show i = 0 ∨ i = 1 ∨ i = 2 by omega) with rfl | rfl | rfl
  · rw [a, a']
  · rw [b, b']
  · rw [c, c']
theorem p_lay_at (S G : Nat → Nat → Int32) (n k : Nat) : p_lay S G n 0 k = (if k < n then nI k else S 0 k) ∧ p_lay S G n 1 k = (if k < n then G 2 k else S 1 k) ∧ p_lay S G n 2 k = S 2 k := by
  induction n with
  | zero => simp [p_lay]
  | succ n ih =>
    obtain ⟨a, b, c⟩ := ih
    refine ⟨?_, ?_, c⟩
    · show upd (p_lay S G n 0) n (nI n) k = _
      by_cases e : k = n
      · subst e; rw [pk_us, if_pos (by omega)]
      · rw [pk_un e, a]
        by_cases e2 : k < n
        · rw [if_pos e2, if_pos (by omega)]
        · rw [if_neg e2, if_neg (by omega)]
    · show upd (p_lay S G n 1) n (G 2 n) k = _
      by_cases e : k = n
      · subst e; rw [pk_us, if_pos (by omega)]
      · rw [pk_un e, b]
        by_cases e2 : k < n
        · rw [if_pos e2, if_pos (by omega)]
        · rw [if_neg e2, if_neg (by omega)]
theorem p_ag.lay {S T : Nat → Nat → Int32} (h : p_ag S T) (G : Nat → Nat → Int32) (n : Nat) : p_ag (p_lay S G n) (p_lay T G n) := by
  intro i hi k hk
  obtain ⟨a, b, c⟩ := p_lay_at S G n k
  obtain ⟨a', b', c'⟩ := p_lay_at T G n k
  rcases (show i = 0 ∨ i = 1 ∨ i = 2 by omega) with rfl | rfl | rfl
  · rw [a, a', h 0 (by omega) k hk]
  · rw [b, b', h 1 (by omega) k hk]
  · rw [c, c', h 2 (by omega) k hk]
theorem p_ag.done {S T : Nat → Nat → Int32} (h : p_ag S T) (G : Nat → Nat → Int32) {k : Nat} (hk : k < 6) : p_done S G k = p_done T G k := by
  unfold p_done
  rw [h 0 (by omega) k hk, h 1 (by omega) k hk]
theorem p_ag.fs {S T : Nat → Nat → Int32} (h : p_ag S T) (G : Nat → Nat → Int32) {n : Nat} (hn : n ≤ 6) : p_fs S G n = p_fs T G n := by
  induction n with
  | zero => rfl
  | succ n ih =>
    simp only [p_fs]
    rw [ih (by omega), h.done G (by omega)]
theorem p_ag.age {S T : Nat → Nat → Int32} (h : p_ag S T) (G : Nat → Nat → Int32) (tc wd hh : Nat) {k : Nat} (hk : k < 6) (ss : Int32) : p_ag (p_age G tc wd hh k S ss).1 (p_age G tc wd hh k T ss).1 ∧ (p_age G tc wd hh k S ss).2 = (p_age G tc wd hh k T ss).2 := by
  have h0 := h 0 (by omega) k hk
  have h1 := h 1 (by omega) k hk
  have h2 := h 2 (by omega) k hk
  have hu1 := h.up 1 k (S 1 k + 1) (T 1 k + 1) (by rw [h1])
  have hu2 := h.up 2 k (S 2 k + 1) (T 2 k + 1) (by rw [h2])
  unfold p_age
  rw [h0, h2, h.done G hk, hu1.done G hk]
  split
  · exact ⟨h.rm k, rfl⟩
  · split
    · exact ⟨hu1, rfl⟩
    · split
      · split
        · exact ⟨by rw [← h2]; exact h.up 2 k _ _ (by rw [h2]), rfl⟩
        · exact ⟨by rw [← h2]; exact (h.up 2 k _ _ (by rw [h2])).rm k, rfl⟩
      · exact ⟨h, rfl⟩
theorem p_ag.pl {S T : Nat → Nat → Int32} (h : p_ag S T) (G : Nat → Nat → Int32) (tc wd hh : Nat) {n : Nat} (hn : n ≤ 6) (ss : Int32) : p_ag (p_pl G tc wd hh S ss n).1 (p_pl G tc wd hh T ss n).1 ∧ (p_pl G tc wd hh S ss n).2 = (p_pl G tc wd hh T ss n).2 := by
  induction n with
  | zero => exact ⟨h, rfl⟩
  | succ n ih =>
    obtain ⟨a, b⟩ := ih (by omega)
    simp only [p_pl]
    rw [a 0 (by omega) n (by omega), b]
    split
    · exact ⟨a, b⟩
    · exact a.age G tc wd hh (by omega) _
/-- the state of a Sand: hours, stick, peace, rows -/
abbrev p_Q : Type := Nat × Int32 × Int32 × Int32 × (Nat → Nat → Int32)
def p_agq (q r : p_Q) : Prop := q.1 = r.1 ∧ q.2.1 = r.2.1 ∧ q.2.2.1 = r.2.2.1 ∧ q.2.2.2.1 = r.2.2.2.1 ∧ p_ag q.2.2.2.2 r.2.2.2.2
theorem p_agq.pass {q r : p_Q} (h : p_agq q r) (G : Nat → Nat → Int32) (tc wd : Nat) {kc : Nat} (hk : kc ≤ 6) : p_agq (p_pass G tc wd kc q) (p_pass G tc wd kc r) := by
  obtain ⟨h1, h2, h3, h4, h5⟩ := h
  obtain ⟨a, b⟩ := h5.pl G tc wd q.1 hk q.2.1
  have e := a.fs G hk
  unfold p_pass p_agq
  dsimp only
  rw [← h1, ← h2, ← h3, ← h4, ← e]
  exact ⟨rfl, b, rfl, rfl, a⟩
/-- n hours pass -/
def p_it (G : Nat → Nat → Int32) (tc wd kc : Nat) (q : p_Q) : Nat → p_Q
  | 0 => q
  | n + 1 => p_pass G tc wd kc (p_it G tc wd kc q n)
theorem p_agq.it {q r : p_Q} (h : p_agq q r) (G : Nat → Nat → Int32) (tc wd : Nat) {kc : Nat} (hk : kc ≤ 6) (n : Nat) : p_agq (p_it G tc wd kc q n) (p_it G tc wd kc r n) := by
  induction n with
  | zero => exact h
  | succ n ih => exact ih.pass G tc wd hk
theorem p_it_h (G : Nat → Nat → Int32) (tc wd kc : Nat) (q : p_Q) (n : Nat) : (p_it G tc wd kc q n).1 = q.1 + n := by
  induction n with
  | zero => rfl
  | succ n ih =>
    show (p_it G tc wd kc q n).1 + 1 = _
    rw [ih]; omega
theorem p_it_ok {G : Nat → Nat → Int32} {tc wd kc cc : Nat} {q : p_Q} (h : p_ok q.2.2.2.2 cc kc) (n : Nat) : p_ok (p_it G tc wd kc q n).2.2.2.2 cc kc := by
  induction n with
  | zero => exact h
  | succ n ih => exact p_ok_pl ih _ _ _ _ _
theorem p_it_s (G : Nat → Nat → Int32) (tc wd kc : Nat) (q : p_Q) (n : Nat) : p_it G tc wd kc (p_pass G tc wd kc q) n = p_it G tc wd kc q (n + 1) := by
  induction n with
  | zero => rfl
  | succ n ih =>
    show p_pass G tc wd kc (p_it G tc wd kc (p_pass G tc wd kc q) n) = p_pass G tc wd kc (p_it G tc wd kc q (n + 1))
    rw [ih]
/-- all are done at hour b, clause k in cell k -/
def p_layq (G : Nat → Nat → Int32) (cc kc b : Nat) (S : Nat → Nat → Int32) : p_Q := (b, -1, 0, 0, p_lay (p_rsS S 6) G (min kc cc))
theorem p_layq_ag (G : Nat → Nat → Int32) (cc kc b : Nat) (S T : Nat → Nat → Int32) : p_agq (p_layq G cc kc b S) (p_layq G cc kc b T) := ⟨Eq.refl b, Eq.refl (-1 : Int32), Eq.refl (0 : Int32), Eq.refl (0 : Int32), (p_ag.rs S T).lay G (min kc cc)⟩
theorem p_layq_ok (G : Nat → Nat → Int32) (cc kc b : Nat) (hkc : kc ≤ 6) (S : Nat → Nat → Int32) : p_ok (p_layq G cc kc b S).2.2.2.2 cc kc := by
  intro k hk
  show p_lay (p_rsS S 6) G (min kc cc) 0 k = -1 ∨ ∃ c, c < cc ∧ p_lay (p_rsS S 6) G (min kc cc) 0 k = nI c
  rw [(p_lay_at _ _ _ _).1]
  by_cases e : k < min kc cc
  · rw [if_pos e]
    exact Or.inr ⟨k, by omega, rfl⟩
  · rw [if_neg e, (p_rsS_at S 6 k (by omega)).1]
    exact Or.inl rfl
