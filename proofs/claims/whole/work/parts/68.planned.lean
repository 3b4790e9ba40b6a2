/-! a plan's hours: what the forty of them come to -/
section
variable {G : Nat → Nat → Int32} {tc wd cc kc sz sN : Nat} {who whe : Nat → Nat} {q : p_Q}
theorem z_sim (hk : z_pk G wd cc kc sz who whe) (hdis : ∀ i j, i < sz → j < sz → whe i = whe j → i = j) (hs : q.2.1 = -1) (h0 : ∀ k, k < 6 → q.2.2.2.2 0 k = -1) (set : Int32) (i : Nat) (hi : i ≤ 40) : (z_md G tc wd sz who whe q.1 (q.1 + i) (m_ps G tc wd kc set sz who whe q i).2.1 (m_ps G tc wd kc set sz who whe q i).1 ∧ ((m_ps G tc wd kc set sz who whe q i).2.1 < sz → q.1 + i ≤ z_b G tc wd who whe q.1 (m_ps G tc wd kc set sz who whe q i).2.1)) ∨ ((∃ j, j < (m_ps G tc wd kc set sz who whe q i).2.1 ∧ (m_ps G tc wd kc set sz who whe q i).1.2.2.2.2 0 (who j) = -1) ∧ (z_fu G tc wd who whe q.1 sz).2 < q.1 + i ∧ (m_ps G tc wd kc set sz who whe q i).2.1 ≤ sz) := by
  induction i with
  | zero =>
    left
    refine ⟨⟨rfl, Nat.zero_le _, by show q.1 + 0 ≤ q.1 + 40; omega, fun j hj => absurd hj (Nat.not_lt_zero j), Or.inl ⟨hs, by show q.1 ≤ q.1 + 0; omega⟩, fun k hk _ => h0 k hk⟩, fun _ => ?_⟩
    have := z_b_ge G tc wd who whe q.1 0
    exact this
  | succ i ih =>
    obtain ⟨X, hX⟩ : ∃ X, X = m_ps G tc wd kc set sz who whe q i := ⟨_, rfl⟩
    rw [m_ps_s, ← hX]
    rw [← hX] at ih
    show (z_md G tc wd sz who whe q.1 (q.1 + (i + 1)) (m_pw G tc sz who whe X).2 (p_pass G tc wd kc (m_pw G tc sz who whe X).1) ∧ ((m_pw G tc sz who whe X).2 < sz → q.1 + (i + 1) ≤ z_b G tc wd who whe q.1 (m_pw G tc sz who whe X).2)) ∨ ((∃ j, j < (m_pw G tc sz who whe X).2 ∧ (p_pass G tc wd kc (m_pw G tc sz who whe X).1).2.2.2.2 0 (who j) = -1) ∧ (z_fu G tc wd who whe q.1 sz).2 < q.1 + (i + 1) ∧ (m_pw G tc sz who whe X).2 ≤ sz)
    obtain ⟨Q, n, r⟩ := X
    rcases ih (by omega) with ⟨h1, h2⟩ | ⟨⟨j, hj, h1⟩, h2, h3⟩
    · obtain ⟨a1, a2⟩ := z_stepA hk hdis h1 h2 r
      by_cases e : q.1 + i < (z_fu G tc wd who whe q.1 (m_pw G tc sz who whe (Q, n, r)).2).2
      · left
        exact ⟨z_stepB hk a1 e, fun hn => a2 e hn⟩
      · right
        refine ⟨z_stepL hk a1 e (by omega), ?_, a1.2.1⟩
        have hle : (m_pw G tc sz who whe (Q, n, r)).2 ≤ sz := a1.2.1
        have := z_un_m G tc wd who whe q.1 hle
        omega
    · right
      replace hj : j < n := hj
      replace h1 : Q.2.2.2.2 0 (who j) = -1 := h1
      replace h3 : n ≤ sz := h3
      have hw := (hk.2.2.2.1 j (by omega)).1
      have hk6 := hk.1
      refine ⟨⟨j, ?_, ?_⟩, by omega, m_pw_n h3⟩
      · unfold m_pw
        split
        · show j < n + 1; omega
        · exact hj
      · show (p_pl G tc wd _ (m_pw G tc sz who whe (Q, n, r)).1.2.2.2.2 _ kc).1 0 (who j) = -1
        apply z_pl_no hw hk6
        unfold m_pw
        split
        · rename_i c
          show p_wrS Q.2.2.2.2 (who n) (whe n) 0 (who j) = -1
          rw [(p_wrS_at Q.2.2.2.2 (who n) (whe n) (who j)).1, if_neg (fun e => absurd (hk.2.2.2.2 j n (by omega) c.1 e) (by omega))]
          exact h1
        · exact h1
theorem z_dn_y {S : Nat → Nat → Int32} {k w t : Nat} (h : p_done S G k = true) (h1 : S 1 k = nI w) (h2 : G 2 k = nI t) (hw : w < 100) (ht : t < 100) : t ≤ w := by
  unfold p_done at h
  simp only [Bool.and_eq_true, Bool.not_eq_true', decide_eq_false_iff_not] at h
  have h3 := h.2
  rw [h1, h2, Int32.lt_iff_toInt_lt, nI_toInt (by omega), nI_toInt (by omega)] at h3
  omega
theorem z_dn_0 {S : Nat → Nat → Int32} {k : Nat} (h : p_done S G k = true) : ¬ S 0 k = -1 := by
  unfold p_done at h
  simp only [Bool.and_eq_true, Bool.not_eq_true', decide_eq_false_iff_not] at h
  exact h.1
theorem z_simF (hk : z_pk G wd cc kc sz who whe) (hdis : ∀ i j, i < sz → j < sz → whe i = whe j → i = j) (hs : q.2.1 = -1) (h0 : ∀ k, k < 6 → q.2.2.2.2 0 k = -1) (hsN : sN < 2 ^ kc) (hL : ∀ j, j < kc → G 3 j = -1 ∨ ∃ l, l < j ∧ G 3 j = nI l) (hwh : ∀ k, k < kc → sN.testBit k = true → ∀ l, l < k → G 3 k = nI l → sN.testBit l = true) (hm : ∀ k, k < kc → (sN.testBit k = true ↔ ∃ j, j < sz ∧ who j = k)) (set : Int32) (i : Nat) (hi : i ≤ 40) : (p_fs (m_ps G tc wd kc set sz who whe q i).1.2.2.2.2 G kc &&& nI sN = nI sN) ↔ (z_fu G tc wd who whe q.1 sz).1 ≤ q.1 + i ∧ q.1 + i ≤ (z_fu G tc wd who whe q.1 sz).2 := by
  have hb : ∀ j, j < sz → sN.testBit (who j) = true := fun j hj => (hm (who j) (hk.2.2.2.1 j hj).1).mpr ⟨j, hj, rfl⟩
  have hk6 := hk.1
  rcases z_sim (tc := tc) hk hdis hs h0 set i hi with ⟨h1, h2⟩ | ⟨⟨j, hj, h1⟩, h2, h3⟩
  · obtain ⟨X, hX⟩ : ∃ X, X = m_ps G tc wd kc set sz who whe q i := ⟨_, rfl⟩
    rw [← hX] at h1 h2 ⊢
    obtain ⟨Q, n, r⟩ := X
    replace h2 : n < sz → q.1 + i ≤ z_b G tc wd who whe q.1 n := h2
    obtain ⟨a1, a2, a3, a4, a5, a6⟩ := h1
    replace a2 : n ≤ sz := a2
    by_cases e : n < sz
    · obtain ⟨w1, w2, w3, w4, w5⟩ := hk.2.2.2.1 n e
      constructor
      · intro hF
        exfalso
        exact z_dn_0 (z_F_done hk6 hsN hL hF (who n) w1 (hb n e)).1 (a6 (who n) (by omega) (fun j hj e2 => absurd (hk.2.2.2.2 j n (by have : j < n := hj; omega) e e2) (by have : j < n := hj; omega)))
      · rintro ⟨b1, _⟩
        exfalso
        have h7 := z_fr_m G tc wd who whe q.1 (show n + 1 ≤ sz by omega)
        rw [z_fr_s] at h7
        have := h2 e
        omega
    · have en : n = sz := by omega
      subst en
      constructor
      · intro hF
        refine ⟨?_, a3⟩
        rcases a5 with ⟨_, b⟩ | ⟨m, e2, b1, b2⟩
        · exact b
        · exfalso
          replace e2 : n = m + 1 := e2
          obtain ⟨w1, w2, w3, w4, w5⟩ := hk.2.2.2.1 m (by omega)
          obtain ⟨c1, c2, c3, c4⟩ := a4 m (by show m < n; omega)
          have h8 := z_dn_y (z_F_done hk6 hsN hL hF (who m) w1 (hb m (by omega))).1 c3 w3 (by omega) (by omega)
          replace b2 : q.1 + i < (z_fu G tc wd who whe q.1 n).1 := b2
          rw [e2, z_fr_s] at b2
          omega
      · rintro ⟨b1, b2⟩
        refine z_F_all hk6 hsN hL hwh (fun k hk2 hkb => ?_)
        obtain ⟨j, hj, rfl⟩ := (hm k hk2).mp hkb
        obtain ⟨w1, w2, w3, w4, w5⟩ := hk.2.2.2.1 j hj
        obtain ⟨c1, c2, c3, c4⟩ := a4 j hj
        have h7 := z_fr_m G tc wd who whe q.1 (show j + 1 ≤ n by omega)
        rw [z_fr_s] at h7
        unfold p_done
        rw [c2, c3, w3, decide_eq_false (p_nm1 (by have := hk.2.1; omega)), decide_eq_false]
        · rfl
        · rw [Int32.lt_iff_toInt_lt, nI_toInt (by omega), nI_toInt (by omega)]
          omega
  · have hw := (hk.2.2.2.1 j (by omega)).1
    constructor
    · intro hF
      exact absurd h1 (z_dn_0 (z_F_done hk6 hsN hL hF (who j) hw (hb j (by omega))).1)
    · omega
/-- what holds of every plan: who stands, stands where it should, and no two in one cell -/
theorem z_pl_kp (S : Nat → Nat → Int32) (ss : Int32) {hh k : Nat} (hk : k < kc) (hk6 : kc ≤ 6) : (p_pl G tc wd hh S ss kc).1 0 k = -1 ∨ (p_pl G tc wd hh S ss kc).1 0 k = S 0 k := by
  obtain ⟨S1, ss1, h1, h2, h3, h4⟩ := z_pl_j G tc wd hh S ss hk hk6
  rw [h3 0]
  by_cases e : S 0 k = -1
  · rw [if_pos e]; exact Or.inr rfl
  · rw [if_neg e]
    unfold p_age
    split
    · left; exact pk_us
    · split
      · right; exact h1 0
      · split
        · split
          · right; exact h1 0
          · left; exact pk_us
        · right; exact h1 0
theorem z_cin_y {f : Nat → Int32} {c : Int32} (n : Nat) : ∀ k, p_cin f c k n = -1 → k + n < 100000 → ∀ j, k ≤ j → j < k + n → ¬ f j = c := by
  induction n with
  | zero => intro k _ _ j h1 h2; omega
  | succ n ih =>
    intro k h hl j h1 h2
    have h' : (if f k = c then nI k else p_cin f c (k + 1) n) = -1 := h
    by_cases e : f k = c
    · rw [if_pos e] at h'
      exact absurd h' (p_nm1 (by omega))
    · rw [if_neg e] at h'
      by_cases ej : j = k
      · rw [ej]; exact e
      · exact ih (k + 1) h' (by omega) j (by omega) (by omega)
theorem z_simD (hk : z_pk G wd cc kc sz who whe) (h0 : ∀ k, k < 6 → q.2.2.2.2 0 k = -1) (set : Int32) (i : Nat) : (∀ k, k < 6 → (m_ps G tc wd kc set sz who whe q i).1.2.2.2.2 0 k = -1 ∨ ∃ j, j < sz ∧ who j = k ∧ (m_ps G tc wd kc set sz who whe q i).1.2.2.2.2 0 k = nI (whe j)) ∧ (∀ k l, k < 6 → l < 6 → (m_ps G tc wd kc set sz who whe q i).1.2.2.2.2 0 k = (m_ps G tc wd kc set sz who whe q i).1.2.2.2.2 0 l → k = l ∨ (m_ps G tc wd kc set sz who whe q i).1.2.2.2.2 0 k = -1) := by
  induction i with
  | zero => exact ⟨fun k hk => Or.inl (h0 k hk), fun k l hk hl _ => Or.inr (h0 k hk)⟩
  | succ i ih =>
    obtain ⟨X, hX⟩ : ∃ X, X = m_ps G tc wd kc set sz who whe q i := ⟨_, rfl⟩
    rw [m_ps_s, ← hX]
    rw [← hX] at ih
    obtain ⟨Q, n, r⟩ := X
    obtain ⟨i1, i2⟩ := ih
    have hk6 := hk.1
    have hY : (∀ k, k < 6 → (m_pw G tc sz who whe (Q, n, r)).1.2.2.2.2 0 k = -1 ∨ ∃ j, j < sz ∧ who j = k ∧ (m_pw G tc sz who whe (Q, n, r)).1.2.2.2.2 0 k = nI (whe j)) ∧ (∀ k l, k < 6 → l < 6 → (m_pw G tc sz who whe (Q, n, r)).1.2.2.2.2 0 k = (m_pw G tc sz who whe (Q, n, r)).1.2.2.2.2 0 l → k = l ∨ (m_pw G tc sz who whe (Q, n, r)).1.2.2.2.2 0 k = -1) := by
      by_cases c : n < sz ∧ Q.2.1 = -1 ∧ m_may Q G tc (who n) (whe n) = true
      · have e : m_pw G tc sz who whe (Q, n, r) = (p_wr Q (who n) (whe n), n + 1) := if_pos c
        rw [e]
        obtain ⟨c1, c2, c3⟩ := c
        unfold m_may at c3
        simp only [Bool.and_eq_true, Bool.not_eq_true', decide_eq_true_eq] at c3
        obtain ⟨c4, c5, c6⟩ := c3
        have c7 := z_cin_y 6 0 c6 (by omega)
        have hs : ∀ k, (p_wr Q (who n) (whe n)).2.2.2.2 0 k = if k = who n then nI (whe n) else Q.2.2.2.2 0 k := fun k => (p_wrS_at Q.2.2.2.2 (who n) (whe n) k).1
        constructor
        · intro k hk
          show (p_wr Q (who n) (whe n)).2.2.2.2 0 k = -1 ∨ ∃ j, j < sz ∧ who j = k ∧ (p_wr Q (who n) (whe n)).2.2.2.2 0 k = nI (whe j)
          rw [hs k]
          by_cases ek : k = who n
          · rw [if_pos ek]; exact Or.inr ⟨n, c1, ek.symm, rfl⟩
          · rw [if_neg ek]; exact i1 k hk
        · intro k l hk hl
          show (p_wr Q (who n) (whe n)).2.2.2.2 0 k = (p_wr Q (who n) (whe n)).2.2.2.2 0 l → k = l ∨ (p_wr Q (who n) (whe n)).2.2.2.2 0 k = -1
          rw [hs k, hs l]
          by_cases ek : k = who n
          · by_cases el : l = who n
            · intro _; left; rw [ek, el]
            · rw [if_pos ek, if_neg el]; intro e; exact absurd e.symm (c7 l (by omega) (by omega))
          · by_cases el : l = who n
            · rw [if_neg ek, if_pos el]; intro e; exact absurd e (c7 k (by omega) (by omega))
            · rw [if_neg ek, if_neg el]; exact i2 k l hk hl
      · have e : m_pw G tc sz who whe (Q, n, r) = (Q, n) := if_neg c
        rw [e]
        exact ⟨i1, i2⟩
    obtain ⟨Y, hYe⟩ : ∃ Y, Y = m_pw G tc sz who whe (Q, n, r) := ⟨_, rfl⟩
    rw [← hYe] at hY ⊢
    obtain ⟨y1, y2⟩ := hY
    have hp : ∀ k, k < 6 → (p_pl G tc wd Y.1.1 Y.1.2.2.2.2 Y.1.2.1 kc).1 0 k = -1 ∨ (p_pl G tc wd Y.1.1 Y.1.2.2.2.2 Y.1.2.1 kc).1 0 k = Y.1.2.2.2.2 0 k := by
      intro k hk
      by_cases e : k < kc
      · exact z_pl_kp _ _ e hk6
      · right; exact z_pl_ge G tc wd _ _ _ (by omega) 0
    constructor
    · intro k hk
      show (p_pl G tc wd Y.1.1 Y.1.2.2.2.2 Y.1.2.1 kc).1 0 k = -1 ∨ ∃ j, j < sz ∧ who j = k ∧ (p_pl G tc wd Y.1.1 Y.1.2.2.2.2 Y.1.2.1 kc).1 0 k = nI (whe j)
      rcases hp k hk with e | e
      · exact Or.inl e
      · rw [e]; exact y1 k hk
    · intro k l hk hl
      show (p_pl G tc wd Y.1.1 Y.1.2.2.2.2 Y.1.2.1 kc).1 0 k = (p_pl G tc wd Y.1.1 Y.1.2.2.2.2 Y.1.2.1 kc).1 0 l → k = l ∨ (p_pl G tc wd Y.1.1 Y.1.2.2.2.2 Y.1.2.1 kc).1 0 k = -1
      intro e
      rcases hp k hk with a | a
      · exact Or.inr a
      · rcases hp l hl with b | b
        · right; rw [e, b]
        · rw [a]; exact y2 k l hk hl ((a.symm.trans e).trans b)
theorem z_simN (hk : z_pk G wd cc kc sz who whe) (h0 : ∀ k, k < 6 → q.2.2.2.2 0 k = -1) (hsN : sN < 2 ^ kc) (hL : ∀ j, j < kc → G 3 j = -1 ∨ ∃ l, l < j ∧ G 3 j = nI l) (hm : ∀ k, k < kc → (sN.testBit k = true ↔ ∃ j, j < sz ∧ who j = k)) (hno : ¬ ((∀ k, k < kc → sN.testBit k = true → ∀ l, l < k → G 3 k = nI l → sN.testBit l = true) ∧ ∀ i j, i < sz → j < sz → whe i = whe j → i = j)) (set : Int32) (i : Nat) : ¬ (p_fs (m_ps G tc wd kc set sz who whe q i).1.2.2.2.2 G kc &&& nI sN = nI sN) := by
  intro hF
  apply hno
  obtain ⟨d1, d2⟩ := z_simD (tc := tc) hk h0 set i
  have hk6 := hk.1
  have hd := z_F_done hk6 hsN hL hF
  have hb : ∀ j, j < sz → sN.testBit (who j) = true := fun j hj => (hm (who j) (hk.2.2.2.1 j hj).1).mpr ⟨j, hj, rfl⟩
  constructor
  · intro k hk2 hkb l hl e
    rcases d1 l (by omega) with h | ⟨j, hj, h, _⟩
    · exact absurd h (z_dn_0 ((hd k hk2 hkb).2 l hl e))
    · rw [← h]; exact hb j hj
  · intro a b ha hb2 e
    have wa := (hk.2.2.2.1 a ha).1
    have wb := (hk.2.2.2.1 b hb2).1
    have na := z_dn_0 (hd (who a) wa (hb a ha)).1
    have nb := z_dn_0 (hd (who b) wb (hb b hb2)).1
    obtain ⟨ja, hja, ea, va⟩ := (d1 (who a) (by omega)).resolve_left na
    obtain ⟨jb, hjb, eb, vb⟩ := (d1 (who b) (by omega)).resolve_left nb
    have ea2 : ja = a := hk.2.2.2.2 ja a hja ha ea
    have eb2 : jb = b := hk.2.2.2.2 jb b hjb hb2 eb
    rw [ea2] at va
    rw [eb2] at vb
    rcases d2 (who a) (who b) (by omega) (by omega) (by rw [va, vb, e]) with h | h
    · exact hk.2.2.2.2 a b ha hb2 h
    · exact absurd h na
/-- when the hours in a row are m -/
theorem z_fi_v (P : Nat → Bool) {v : Nat} (n : Nat) : ∀ a, a ≤ v → v < a + n → (∀ i, a ≤ i → i < a + n → (P i = true ↔ i = v)) → p_fi P a n = nI v := by
  induction n with
  | zero => intro a h1 h2; omega
  | succ n ih =>
    intro a h1 h2 h
    show (if P a = true then _ else _) = _
    by_cases e : a = v
    · rw [if_pos ((h a (by omega) (by omega)).mpr e), e]
    · rw [if_neg (fun q => e ((h a (by omega) (by omega)).mp q))]
      exact ih (a + 1) (by omega) (by omega) (fun i h3 h4 => h i (by omega) (by omega))
theorem z_fi_n (P : Nat → Bool) (n : Nat) : ∀ a, (∀ i, a ≤ i → i < a + n → ¬ P i = true) → p_fi P a n = -1 := by
  induction n with
  | zero => intro a _; rfl
  | succ n ih =>
    intro a h
    show (if P a = true then _ else _) = _
    rw [if_neg (h a (by omega) (by omega))]
    exact ih (a + 1) (fun i h3 h4 => h i (by omega) (by omega))
theorem z_run {a b : Nat} (ha : 1 ≤ a) (h : ∀ i, i ≤ 40 → ((p_fs (m_ps G tc wd kc (nI sN) sz who whe q i).1.2.2.2.2 G kc &&& nI sN = nI sN) ↔ a ≤ i ∧ i ≤ b)) (i : Nat) (hi : i ≤ 40) : (m_ps G tc wd kc (nI sN) sz who whe q i).2.2 = if a ≤ i ∧ i ≤ b then i - a + 1 else 0 := by
  induction i with
  | zero =>
    rw [if_neg (by omega)]; rfl
  | succ i ih =>
    have h1 := h (i + 1) hi
    have h2 := ih (by omega)
    have e : (m_ps G tc wd kc (nI sN) sz who whe q (i + 1)).2.2 = if p_fs (m_ps G tc wd kc (nI sN) sz who whe q (i + 1)).1.2.2.2.2 G kc &&& nI sN = nI sN then (m_ps G tc wd kc (nI sN) sz who whe q i).2.2 + 1 else 0 := rfl
    rw [e, h2]
    by_cases c : a ≤ i + 1 ∧ i + 1 ≤ b
    · rw [if_pos (h1.mpr c), if_pos c]
      by_cases c2 : a ≤ i ∧ i ≤ b
      · rw [if_pos c2]; omega
      · rw [if_neg c2]; omega
    · rw [if_neg (fun q => c (h1.mp q)), if_neg c]
theorem z_pfi {a b m : Nat} (ha : 1 ≤ a) (hb : b ≤ 40) (hm : 1 ≤ m) (h : ∀ i, i ≤ 40 → ((p_fs (m_ps G tc wd kc (nI sN) sz who whe q i).1.2.2.2.2 G kc &&& nI sN = nI sN) ↔ a ≤ i ∧ i ≤ b)) : p_fi (fun h => decide ((m_ps G tc wd kc (nI sN) sz who whe q h).2.2 = m)) 1 40 = if a + m - 1 ≤ b then nI (a + m - 1) else -1 := by
  by_cases c : a + m - 1 ≤ b
  · rw [if_pos c]
    refine z_fi_v _ 40 1 (by omega) (by omega) (fun i h1 h2 => ?_)
    rw [decide_eq_true_eq, z_run ha h i (by omega)]
    split <;> omega
  · rw [if_neg c]
    refine z_fi_n _ 40 1 (fun i h1 h2 => ?_)
    rw [decide_eq_true_eq, z_run ha h i (by omega)]
    split <;> omega
theorem z_pfn {m : Nat} (hm : 1 ≤ m) (h : ∀ i, ¬ (p_fs (m_ps G tc wd kc (nI sN) sz who whe q i).1.2.2.2.2 G kc &&& nI sN = nI sN)) : p_fi (fun h => decide ((m_ps G tc wd kc (nI sN) sz who whe q h).2.2 = m)) 1 40 = -1 := by
  refine z_fi_n _ 40 1 (fun i h1 h2 => ?_)
  rw [decide_eq_true_eq]
  obtain ⟨j, rfl⟩ : ∃ j, i = j + 1 := ⟨i - 1, by omega⟩
  have e : (m_ps G tc wd kc (nI sN) sz who whe q (j + 1)).2.2 = if p_fs (m_ps G tc wd kc (nI sN) sz who whe q (j + 1)).1.2.2.2.2 G kc &&& nI sN = nI sN then (m_ps G tc wd kc (nI sN) sz who whe q j).2.2 + 1 else 0 := rfl
  rw [e, if_neg (h (j + 1))]
  omega
end
