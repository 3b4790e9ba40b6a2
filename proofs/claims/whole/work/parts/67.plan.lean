/-! a plan's hours: the closed form, and what the model's hours come to -/
theorem z_fst_lt (P : Nat → Bool) {a n x : Nat} (h1 : a ≤ x) (h2 : x < p_fst P a n) : P x = false := by
  induction n generalizing a with
  | zero => exact absurd h2 (by show ¬ x < a; omega)
  | succ n ih =>
    simp only [p_fst] at h2
    split at h2
    · omega
    · rename_i e
      by_cases ex : x = a
      · subst ex; simpa using e
      · exact ih (a := a + 1) (by omega) h2
theorem z_fst_at (P : Nat → Bool) {a n : Nat} (h : p_fst P a n < a + n) : P (p_fst P a n) = true := by
  induction n generalizing a with
  | zero => exact absurd h (by show ¬ a < a + 0; omega)
  | succ n ih =>
    simp only [p_fst] at h ⊢
    split
    · assumption
    · rename_i e
      rw [if_neg e] at h
      exact ih (by omega)
def z_fu (G : Nat → Nat → Int32) (tc wd : Nat) (who whe : Nat → Nat) (st : Nat) : Nat → Nat × Nat
  | 0 => (st, st + 40)
  | j + 1 => (p_dn G tc (whe j) (z_fu G tc wd who whe st j).1 (z_fu G tc wd who whe st j).2 (who j), p_en G tc wd (whe j) (z_fu G tc wd who whe st j).1 (z_fu G tc wd who whe st j).2 (who j))
def z_b (G : Nat → Nat → Int32) (tc wd : Nat) (who whe : Nat → Nat) (st j : Nat) : Nat := p_bg G tc (whe j) (z_fu G tc wd who whe st j).1 (z_fu G tc wd who whe st j).2
def z_e (G : Nat → Nat → Int32) (tc wd : Nat) (who whe : Nat → Nat) (st j : Nat) : Nat := p_fst (fun x => p_wet G tc (whe j) x == true) (z_b G tc wd who whe st j) ((z_b G tc wd who whe st j + p_tk G (who j) + wd) - z_b G tc wd who whe st j)
section
variable (G : Nat → Nat → Int32) (tc wd : Nat) (who whe : Nat → Nat) (st : Nat)
theorem z_fr_s (j : Nat) : (z_fu G tc wd who whe st (j + 1)).1 = z_b G tc wd who whe st j + p_tk G (who j) := rfl
theorem z_un_s (j : Nat) : (z_fu G tc wd who whe st (j + 1)).2 = min (z_fu G tc wd who whe st j).2 (z_e G tc wd who whe st j) := rfl
theorem z_b_ge (j : Nat) : (z_fu G tc wd who whe st j).1 ≤ z_b G tc wd who whe st j := p_fst_ge _ _ _
theorem z_fr_m {i j : Nat} (h : i ≤ j) : (z_fu G tc wd who whe st i).1 ≤ (z_fu G tc wd who whe st j).1 := by
  induction j with
  | zero => rw [show i = 0 by omega]; exact Nat.le_refl _
  | succ j ih =>
    by_cases e : i = j + 1
    · rw [e]; exact Nat.le_refl _
    · have h1 := ih (by omega)
      have h2 := z_b_ge G tc wd who whe st j
      rw [z_fr_s]
      omega
theorem z_un_m {i j : Nat} (h : i ≤ j) : (z_fu G tc wd who whe st j).2 ≤ (z_fu G tc wd who whe st i).2 := by
  induction j with
  | zero => rw [show i = 0 by omega]; exact Nat.le_refl _
  | succ j ih =>
    by_cases e : i = j + 1
    · rw [e]; exact Nat.le_refl _
    · have h1 := ih (by omega)
      rw [z_un_s]
      omega
theorem z_un_e {j n : Nat} (h : j < n) : (z_fu G tc wd who whe st n).2 ≤ z_e G tc wd who whe st j := by
  have h1 := z_un_m G tc wd who whe st (show j + 1 ≤ n by omega)
  rw [z_un_s] at h1
  omega
theorem z_un_w (n : Nat) : (z_fu G tc wd who whe st n).2 = st + 40 ∨ ∃ j, j < n ∧ (z_fu G tc wd who whe st n).2 = z_e G tc wd who whe st j := by
  induction n with
  | zero => exact Or.inl rfl
  | succ n ih =>
    rw [z_un_s]
    by_cases e : z_e G tc wd who whe st n ≤ (z_fu G tc wd who whe st n).2
    · exact Or.inr ⟨n, by omega, by omega⟩
    · rcases ih with h | ⟨j, hj, h⟩
      · exact Or.inl (by omega)
      · exact Or.inr ⟨j, by omega, by omega⟩
theorem z_e_lt {j x : Nat} (h1 : z_b G tc wd who whe st j ≤ x) (h2 : x < z_e G tc wd who whe st j) : p_wet G tc (whe j) x = false ∧ x < z_b G tc wd who whe st j + p_tk G (who j) + wd := by
  constructor
  · have := z_fst_lt (fun x => p_wet G tc (whe j) x == true) h1 h2
    simpa using this
  · have := p_fst_le (fun x => p_wet G tc (whe j) x == true) (z_b G tc wd who whe st j) ((z_b G tc wd who whe st j + p_tk G (who j) + wd) - z_b G tc wd who whe st j)
    unfold z_e at h2
    omega
theorem z_e_eq {j : Nat} (h : p_wet G tc (whe j) (z_e G tc wd who whe st j) = false) : z_e G tc wd who whe st j = z_b G tc wd who whe st j + p_tk G (who j) + wd := by
  have h1 := p_fst_le (fun x => p_wet G tc (whe j) x == true) (z_b G tc wd who whe st j) ((z_b G tc wd who whe st j + p_tk G (who j) + wd) - z_b G tc wd who whe st j)
  have h2 := z_fst_at (fun x => p_wet G tc (whe j) x == true) (a := z_b G tc wd who whe st j) (n := (z_b G tc wd who whe st j + p_tk G (who j) + wd) - z_b G tc wd who whe st j)
  have h3 : z_e G tc wd who whe st j = p_fst (fun x => p_wet G tc (whe j) x == true) (z_b G tc wd who whe st j) ((z_b G tc wd who whe st j + p_tk G (who j) + wd) - z_b G tc wd who whe st j) := rfl
  rw [← h3] at h1 h2
  by_cases e : z_e G tc wd who whe st j < z_b G tc wd who whe st j + ((z_b G tc wd who whe st j + p_tk G (who j) + wd) - z_b G tc wd who whe st j)
  · have := h2 e
    simp [h] at this
  · omega
end
/-- the first n of a plan stand as the closed form says, in the hour x -/
def z_md (G : Nat → Nat → Int32) (tc wd sz : Nat) (who whe : Nat → Nat) (st x n : Nat) (q : p_Q) : Prop := q.1 = x ∧ n ≤ sz ∧ x ≤ (z_fu G tc wd who whe st n).2 ∧ (∀ j, j < n → z_b G tc wd who whe st j ≤ x ∧ q.2.2.2.2 0 (who j) = nI (whe j) ∧ q.2.2.2.2 1 (who j) = nI (min (p_tk G (who j)) (x - z_b G tc wd who whe st j)) ∧ q.2.2.2.2 2 (who j) = nI (x - (z_b G tc wd who whe st j + p_tk G (who j)))) ∧ ((q.2.1 = -1 ∧ (z_fu G tc wd who whe st n).1 ≤ x) ∨ ∃ j, n = j + 1 ∧ q.2.1 = nI (who j) ∧ x < (z_fu G tc wd who whe st n).1) ∧ (∀ k, k < 6 → (∀ j, j < n → ¬ who j = k) → q.2.2.2.2 0 k = -1)
/-- what a plan keeps to -/
def z_pk (G : Nat → Nat → Int32) (wd cc kc sz : Nat) (who whe : Nat → Nat) : Prop := kc ≤ 6 ∧ cc ≤ 9 ∧ wd ≤ 30 ∧ (∀ j, j < sz → who j < kc ∧ whe j < cc ∧ G 2 (who j) = nI (p_tk G (who j)) ∧ 1 ≤ p_tk G (who j) ∧ p_tk G (who j) ≤ 6) ∧ (∀ i j, i < sz → j < sz → who i = who j → i = j)
section
variable {G : Nat → Nat → Int32} {tc wd cc kc sz : Nat} {who whe : Nat → Nat} {st x n : Nat} {q : p_Q}
theorem z_md_st (hk : z_pk G wd cc kc sz who whe) (h : z_md G tc wd sz who whe st x n q) {j : Nat} (hj : j < n) : (x < z_b G tc wd who whe st j + p_tk G (who j) ∧ q.2.1 = nI (who j)) ∨ (z_b G tc wd who whe st j + p_tk G (who j) ≤ x ∧ ¬ q.2.1 = nI (who j)) := by
  obtain ⟨hk6, hc9, hw30, hk1, hinj⟩ := hk
  obtain ⟨h1, h2, h3, h4, h5, h6⟩ := h
  rcases h5 with ⟨a, b⟩ | ⟨m, rfl, a, b⟩
  · right
    have := z_fr_m G tc wd who whe st (show j + 1 ≤ n by omega)
    rw [z_fr_s] at this
    have hw := (hk1 j (by omega)).1
    exact ⟨by omega, fun e => p_nm1 (by omega) (e.symm.trans a)⟩
  · by_cases e : j = m
    · subst e
      rw [z_fr_s] at b
      exact Or.inl ⟨b, a⟩
    · right
      have h7 := z_fr_m G tc wd who whe st (show j + 1 ≤ m by omega)
      have h8 := z_b_ge G tc wd who whe st m
      have h9 := (h4 m (by omega)).1
      rw [z_fr_s] at h7
      refine ⟨by omega, fun e2 => e ?_⟩
      have w1 := (hk1 j (by omega)).1
      have w2 := (hk1 m (by omega)).1
      exact hinj j m (by omega) (by omega) (z_ne (by omega) (by omega) (e2.symm.trans a))
theorem z_stepB (hk : z_pk G wd cc kc sz who whe) (h : z_md G tc wd sz who whe st x n q) (hx : x < (z_fu G tc wd who whe st n).2) : z_md G tc wd sz who whe st (x + 1) n (p_pass G tc wd kc q) := by
  have hst := fun {j : Nat} (hj : j < n) => z_md_st hk h hj
  obtain ⟨hk6, hc9, hw30, hk1, hinj⟩ := hk
  obtain ⟨h1, h2, h3, h4, h5, h6⟩ := h
  refine ⟨by show q.1 + 1 = x + 1; rw [h1], h2, hx, ?_, ?_, ?_⟩
  · intro j hj
    obtain ⟨w1, w2, w3, w4, w5⟩ := hk1 j (by omega)
    obtain ⟨a1, a2, a3, a4⟩ := h4 j hj
    have he := z_un_e G tc wd who whe st hj
    obtain ⟨d1, d2⟩ := z_e_lt G tc wd who whe st a1 (show x < z_e G tc wd who whe st j by omega)
    refine ⟨by omega, ?_⟩
    show (p_pl G tc wd q.1 q.2.2.2.2 q.2.1 kc).1 0 (who j) = _ ∧ (p_pl G tc wd q.1 q.2.2.2.2 q.2.1 kc).1 1 (who j) = _ ∧ (p_pl G tc wd q.1 q.2.2.2.2 q.2.1 kc).1 2 (who j) = _
    rcases hst hj with ⟨b1, b2⟩ | ⟨b1, b2⟩
    · obtain ⟨c1, c2, c3, c4⟩ := z_pl_st (G := G) (tc := tc) (wd := wd) (hh := q.1) (n := kc) w1 hk6 a2 (by omega) (by rw [h1]; exact d1) b2 a3 (by omega) w3 (by omega)
      refine ⟨c1, ?_, ?_⟩
      · rw [c2]; congr 1; omega
      · rw [c3, a4]; congr 1; omega
    · obtain ⟨c1, c2, c3⟩ := z_pl_dry (G := G) (tc := tc) (wd := wd) (hh := q.1) (n := kc) w1 hk6 a2 (by omega) (by rw [h1]; exact d1) b2 a3 (by omega) w3 (by omega) a4 (by omega) (by omega)
      refine ⟨c1, ?_, ?_⟩
      · rw [c2]; congr 1; omega
      · rw [c3]; congr 1; omega
  · show ((p_pl G tc wd q.1 q.2.2.2.2 q.2.1 kc).2 = -1 ∧ _) ∨ ∃ j, n = j + 1 ∧ (p_pl G tc wd q.1 q.2.2.2.2 q.2.1 kc).2 = _ ∧ _
    rcases h5 with ⟨a, b⟩ | ⟨m, e, a, b⟩
    · exact Or.inl ⟨z_pl_free a, by omega⟩
    · subst e
      obtain ⟨w1, w2, w3, w4, w5⟩ := hk1 m (by omega)
      obtain ⟨a1, a2, a3, a4⟩ := h4 m (by omega)
      have he := z_un_e G tc wd who whe st (show m < m + 1 by omega)
      obtain ⟨d1, d2⟩ := z_e_lt G tc wd who whe st a1 (show x < z_e G tc wd who whe st m by omega)
      obtain ⟨c1, c2, c3, c4⟩ := z_pl_st (G := G) (tc := tc) (wd := wd) (hh := q.1) (n := kc) w1 hk6 a2 (by omega) (by rw [h1]; exact d1) a a3 (by omega) w3 (by omega)
      rw [z_fr_s] at b ⊢
      rw [c4]
      by_cases e2 : x + 1 < z_b G tc wd who whe st m + p_tk G (who m)
      · right
        exact ⟨m, rfl, by rw [if_pos (by omega), a], e2⟩
      · left
        exact ⟨by rw [if_neg (by omega)], by omega⟩
  · intro k hk hne
    have h7 := h6 k hk hne
    show (p_pl G tc wd q.1 q.2.2.2.2 q.2.1 kc).1 0 k = -1
    by_cases e : k < kc
    · exact z_pl_no e hk6 h7
    · rw [z_pl_ge G tc wd q.1 q.2.2.2.2 q.2.1 (show kc ≤ k by omega) 0]; exact h7
theorem z_stepL (hk : z_pk G wd cc kc sz who whe) (h : z_md G tc wd sz who whe st x n q) (hx : ¬ x < (z_fu G tc wd who whe st n).2) (h40 : x < st + 40) : ∃ j, j < n ∧ (p_pass G tc wd kc q).2.2.2.2 0 (who j) = -1 := by
  have hst := fun {j : Nat} (hj : j < n) => z_md_st hk h hj
  obtain ⟨hk6, hc9, hw30, hk1, hinj⟩ := hk
  obtain ⟨h1, h2, h3, h4, h5, h6⟩ := h
  rcases z_un_w G tc wd who whe st n with e | ⟨j, hj, e⟩
  · omega
  · refine ⟨j, hj, ?_⟩
    obtain ⟨w1, w2, w3, w4, w5⟩ := hk1 j (by omega)
    obtain ⟨a1, a2, a3, a4⟩ := h4 j hj
    have hxe : x = z_e G tc wd who whe st j := by omega
    show (p_pl G tc wd q.1 q.2.2.2.2 q.2.1 kc).1 0 (who j) = -1
    cases hw : p_wet G tc (whe j) x
    · have e3 := z_e_eq G tc wd who whe st (j := j) (by rw [← hxe]; exact hw)
      rcases hst hj with ⟨b1, b2⟩ | ⟨b1, b2⟩
      · omega
      · exact z_pl_blow (G := G) (tc := tc) (wd := wd) (hh := q.1) (n := kc) w1 hk6 a2 (by omega) (by rw [h1]; exact hw) b2 a3 (by omega) w3 (by omega) a4 (by omega) (by omega)
    · exact z_pl_wet w1 hk6 a2 (by omega) (by rw [h1]; exact hw)
theorem z_cin_no {f : Nat → Int32} {c : Int32} (n : Nat) : ∀ k, (∀ j, k ≤ j → j < k + n → ¬ f j = c) → p_cin f c k n = -1 := by
  induction n with
  | zero => intro k _; rfl
  | succ n ih =>
    intro k h
    show (if f k = c then _ else _) = _
    rw [if_neg (h k (by omega) (by omega))]
    exact ih (k + 1) (fun j h1 h2 => h j (by omega) (by omega))
theorem z_stepA (hk : z_pk G wd cc kc sz who whe) (hdis : ∀ i j, i < sz → j < sz → whe i = whe j → i = j) (h : z_md G tc wd sz who whe st x n q) (hn : n < sz → x ≤ z_b G tc wd who whe st n) (r : Nat) : z_md G tc wd sz who whe st x (m_pw G tc sz who whe (q, n, r)).2 (m_pw G tc sz who whe (q, n, r)).1 ∧ (x < (z_fu G tc wd who whe st (m_pw G tc sz who whe (q, n, r)).2).2 → (m_pw G tc sz who whe (q, n, r)).2 < sz → x + 1 ≤ z_b G tc wd who whe st (m_pw G tc sz who whe (q, n, r)).2) := by
  have hmd := h
  obtain ⟨hk6, hc9, hw30, hk1, hinj⟩ := hk
  obtain ⟨h1, h2, h3, h4, h5, h6⟩ := h
  by_cases c : n < sz ∧ q.2.1 = -1 ∧ m_may q G tc (who n) (whe n) = true
  · have e : m_pw G tc sz who whe (q, n, r) = (p_wr q (who n) (whe n), n + 1) := if_pos c
    rw [e]
    obtain ⟨c1, c2, c3⟩ := c
    obtain ⟨w1, w2, w3, w4, w5⟩ := hk1 n c1
    unfold m_may at c3
    simp only [Bool.and_eq_true, Bool.not_eq_true', decide_eq_true_eq] at c3
    obtain ⟨c4, c5, c6⟩ := c3
    rw [h1] at c5
    have hfr : (z_fu G tc wd who whe st n).1 ≤ x := by
      rcases h5 with ⟨_, b⟩ | ⟨m, e, a, b⟩
      · exact b
      · have := (hk1 m (by omega)).1
        exact absurd (a.symm.trans c2) (p_nm1 (by omega))
    have hb : z_b G tc wd who whe st n = x := by
      have h7 := hn c1
      by_cases e : x < z_b G tc wd who whe st n
      · have := z_fst_lt (fun x => p_wet G tc (whe n) x == false) hfr e
        simp [c5] at this
      · omega
    refine ⟨⟨h1, c1, ?_, ?_, ?_, ?_⟩, ?_⟩
    · rw [z_un_s]
      have : z_b G tc wd who whe st n ≤ z_e G tc wd who whe st n := p_fst_ge _ _ _
      omega
    · intro j hj
      show _ ∧ p_wrS q.2.2.2.2 (who n) (whe n) 0 (who j) = _ ∧ p_wrS q.2.2.2.2 (who n) (whe n) 1 (who j) = _ ∧ p_wrS q.2.2.2.2 (who n) (whe n) 2 (who j) = _
      obtain ⟨a0, a1, a2⟩ := p_wrS_at q.2.2.2.2 (who n) (whe n) (who j)
      rw [a0, a1, a2]
      by_cases ej : j = n
      · subst ej
        rw [if_pos rfl, if_pos rfl, if_pos rfl, hb]
        refine ⟨Nat.le_refl _, rfl, ?_, ?_⟩
        · rw [show min (p_tk G (who j)) (x - x) = 0 by omega]; exact z_l0
        · rw [show x - (x + p_tk G (who j)) = 0 by omega]; exact z_l0
      · have hne : ¬ who j = who n := fun q => ej (hinj j n (by omega) c1 q)
        rw [if_neg hne, if_neg hne, if_neg hne]
        exact h4 j (by omega)
    · right
      refine ⟨n, rfl, rfl, ?_⟩
      rw [z_fr_s, hb]
      omega
    · intro k hk hne
      show p_wrS q.2.2.2.2 (who n) (whe n) 0 k = -1
      rw [(p_wrS_at q.2.2.2.2 (who n) (whe n) k).1, if_neg (fun q => hne n (by omega) q.symm)]
      exact h6 k hk (fun j hj => hne j (by omega))
    · intro _ _
      have h7 := z_b_ge G tc wd who whe st (n + 1)
      rw [z_fr_s, hb] at h7
      show x + 1 ≤ z_b G tc wd who whe st (n + 1)
      omega
  · have e : m_pw G tc sz who whe (q, n, r) = (q, n) := if_neg c
    rw [e]
    refine ⟨hmd, fun hx hn2 => ?_⟩
    replace hx : x < (z_fu G tc wd who whe st n).2 := hx
    replace hn2 : n < sz := hn2
    show x + 1 ≤ z_b G tc wd who whe st n
    have h7 := hn hn2
    by_cases eb : z_b G tc wd who whe st n = x
    · exfalso
      apply c
      have h8 := z_b_ge G tc wd who whe st n
      have hs : q.2.1 = -1 := by
        rcases h5 with ⟨a, _⟩ | ⟨m, e, a, b⟩
        · exact a
        · omega
      obtain ⟨w1, w2, w3, w4, w5⟩ := hk1 n hn2
      refine ⟨hn2, hs, ?_⟩
      unfold m_may
      rw [h6 (who n) (by omega) (fun j hj e => absurd (hinj j n (by omega) hn2 e) (by omega)), h1]
      have hwet : p_wet G tc (whe n) x = false := by
        have h9 := z_fst_at (fun x => p_wet G tc (whe n) x == false) (a := (z_fu G tc wd who whe st n).1) (n := (z_fu G tc wd who whe st n).2 - (z_fu G tc wd who whe st n).1)
        have h10 : p_fst (fun x => p_wet G tc (whe n) x == false) (z_fu G tc wd who whe st n).1 ((z_fu G tc wd who whe st n).2 - (z_fu G tc wd who whe st n).1) = x := eb
        rw [h10] at h9
        have := h9 (by omega)
        simpa using this
      rw [hwet, z_cin_no 6 0 (fun k _ hk => ?_)]
      · rfl
      · by_cases ex : ∃ j, j < n ∧ who j = k
        · obtain ⟨j, hj, ej⟩ := ex
          rw [← ej, (h4 j hj).2.1]
          intro e2
          have w6 := (hk1 j (by omega)).2.1
          exact absurd (hdis j n (by omega) hn2 (z_ne (by omega) (by omega) e2)) (by omega)
        · rw [h6 k (by omega) (fun j hj e => ex ⟨j, hj, e⟩)]
          exact fun e => p_nm1 (by omega) e.symm
    · omega
end
