/-! the model's reading: numbers as the class tells them; what was read, by both -/
theorem m_in_f (v lo hi : Int32) : m_in v lo hi = false ↔ (v < lo ∨ hi < v) := by
  unfold m_in
  by_cases a : v < lo
  · simp [a]
  · by_cases b : hi < v
    · simp [a, b]
    · simp [a, b]
theorem p_bad_0 {f : Nat → Int32} {len a : Nat} {lo hi : Int32} (h : p_bad f len a lo hi = 0) : p_fg (p_nl f len a) = true ∧ ¬ (3 < p_fe f len (p_sk f len a) - p_sk f len a ∨ m_in (p_nv f len a) lo hi = false) := by
  unfold p_bad at h
  by_cases e : p_fg (p_nl f len a) = true
  · rw [if_pos e] at h
    refine ⟨e, fun z => ?_⟩
    rw [m_in_f] at z
    rw [if_pos z] at h
    exact absurd h (by decide)
  · rw [if_neg e] at h
    exact absurd h (by decide)
theorem p_bad_2 {f : Nat → Int32} {len a : Nat} {lo hi : Int32} (h : ¬ p_bad f len a lo hi = 0) (e : p_fg (p_nl f len a) = true) : p_bad f len a lo hi = 2 ∧ (3 < p_fe f len (p_sk f len a) - p_sk f len a ∨ m_in (p_nv f len a) lo hi = false) := by
  rw [m_in_f]
  unfold p_bad at h ⊢
  rw [if_pos e] at h ⊢
  by_cases c : 3 < p_fe f len (p_sk f len a) - p_sk f len a ∨ p_nv f len a < lo ∨ hi < p_nv f len a
  · rw [if_pos c]
    exact ⟨rfl, c⟩
  · rw [if_neg c] at h
    exact absurd rfl h
theorem p_bad_1 {f : Nat → Int32} {len a : Nat} {lo hi : Int32} (e : p_fg (p_nl f len a) = false) : p_bad f len a lo hi = 1 := by
  unfold p_bad
  rw [if_neg (by rw [e]; decide)]
theorem m_numberG (len : Nat) (fa : Int32) (hd : Bool) (dd : Nat) (sd : Int32) (sg es a : Nat) (M : Nat → Nat → Int32) (lo hi : Int32) (hlen : len ≤ 240) (ha : a ≤ 10000) (hb : p_bad (M 0) len a lo hi = 0) : rr_C mX11_number 2 [.ref 0, .int lo, .int hi] (W_M (mv len fa hd dd sd sg es a 0) M) 0 0 (some (p_rv (M 0) len a lo hi)) (W_M (mv len fa hd dd sd sg es (p_rat (M 0) len a) 0) M) := by
  obtain ⟨h1, h2⟩ := p_bad_0 hb
  rw [show p_rv (M 0) len a lo hi = p_nv (M 0) len a from if_pos hb, show p_rat (M 0) len a = p_fe (M 0) len (p_sk (M 0) len a) from if_pos h1]
  exact m_number0 len fa hd dd sd sg es a M lo hi hlen ha h1 h2
def m_nf (f : Nat → Int32) (len a : Nat) : Int32 := if p_fg (p_nl f len a) = true then p_nv f len a else 0
theorem m_numberB (len : Nat) (fa : Int32) (hd : Bool) (dd : Nat) (sd : Int32) (sg es a : Nat) (M : Nat → Nat → Int32) (lo hi : Int32) (hlen : len ≤ 240) (ha : a ≤ 10000) (hb : ¬ p_bad (M 0) len a lo hi = 0) : rr_C mX11_number 2 [.ref 0, .int lo, .int hi] (W_M (mv len fa hd dd sd sg es a 0) M) 0 0 (some (m_nf (M 0) len a)) (W_M (mv len fa hd dd sd sg es (p_sk (M 0) len a) (p_bad (M 0) len a lo hi)) M) := by
  unfold m_nf
  by_cases e : p_fg (p_nl (M 0) len a) = true
  · obtain ⟨h1, h2⟩ := p_bad_2 hb e
    rw [if_pos e, h1]
    exact m_number2 len fa hd dd sd sg es a M lo hi hlen ha e h2
  · have e2 : p_fg (p_nl (M 0) len a) = false := by simpa using e
    rw [if_neg e, p_bad_1 e2]
    exact m_number1 len fa hd dd sd sg es a M lo hi hlen ha e2
theorem p_fl_0 {q : Int32 × Int32} (h : q.1 = 0) (k w : Int32) : p_fl k w q = (k, w) := if_pos h
theorem p_fl_k {q : Int32 × Int32} (h : ¬ q.1 = 0) (k w : Int32) : p_fl k w q = q := if_neg h
theorem p_rq_g {f : Nat → Int32} {len a : Nat} {lo hi : Int32} (h : p_bad f len a lo hi = 0) (q : Int32 × Int32) : p_rq f len a lo hi q = q := if_pos h
theorem p_rq_b {f : Nat → Int32} {len a : Nat} {lo hi : Int32} (h : ¬ p_bad f len a lo hi = 0) {q : Int32 × Int32} (hq : q.1 = 0) : p_rq f len a lo hi q = (p_bad f len a lo hi, nI (p_sk f len a)) := (if_neg h).trans (p_fl_0 hq _ _)
theorem p_rq_k {q : Int32 × Int32} (h : ¬ q.1 = 0) (f : Nat → Int32) (len a : Nat) (lo hi : Int32) : p_rq f len a lo hi q = q := by
  unfold p_rq
  split
  · rfl
  · exact p_fl_k h _ _
theorem p_eq_g {f : Nat → Int32} {len a : Nat} (h : p_nl f len a = 59) (q : Int32 × Int32) : p_eq' f len a q = q := if_pos h
theorem p_eq_b {f : Nat → Int32} {len a : Nat} (h : ¬ p_nl f len a = 59) {q : Int32 × Int32} (hq : q.1 = 0) : p_eq' f len a q = (1, nI (p_sk f len a)) := (if_neg h).trans (p_fl_0 hq _ _)
theorem p_eq_k {q : Int32 × Int32} (h : ¬ q.1 = 0) (f : Nat → Int32) (len a : Nat) : p_eq' f len a q = q := by
  unfold p_eq'
  split
  · rfl
  · exact p_fl_k h _ _
theorem p_lq_k {q : Int32 × Int32} (h : ¬ q.1 = 0) (f : Nat → Int32) (len a na kc : Nat) : p_lq f len a na kc q = q := by
  unfold p_lq
  rw [p_rq_k h]
  split
  · rfl
  · split
    · rfl
    · exact p_fl_k h _ _
theorem p_lq_b {f : Nat → Int32} {len a : Nat} (h : ¬ p_bad f len a 0 9 = 0) {q : Int32 × Int32} (hq : q.1 = 0) (na kc : Nat) : p_lq f len a na kc q = (p_bad f len a 0 9, nI (p_sk f len a)) := by
  have e := p_rq_b h hq
  unfold p_lq
  rw [e]
  split
  · rfl
  · split
    · rfl
    · exact p_fl_k h _ _
theorem p_lq_9 {f : Nat → Int32} {len a : Nat} (h : p_bad f len a 0 9 = 0) (h9 : p_rv f len a 0 9 = 9) (na kc : Nat) (q : Int32 × Int32) : p_lq f len a na kc q = q := (if_pos h9).trans (p_rq_g h q)
theorem p_lq_in {f : Nat → Int32} {len a : Nat} (h : p_bad f len a 0 9 = 0) (h9 : ¬ p_rv f len a 0 9 = 9) (na : Nat) {kc : Nat} (hk : p_in (p_rv f len a 0 9) (nI kc) = true) (q : Int32 × Int32) : p_lq f len a na kc q = q := (if_neg h9).trans ((if_pos hk).trans (p_rq_g h q))
theorem p_lq_c {f : Nat → Int32} {len a : Nat} (h : p_bad f len a 0 9 = 0) (h9 : ¬ p_rv f len a 0 9 = 9) (na : Nat) {kc : Nat} (hk : p_in (p_rv f len a 0 9) (nI kc) = false) {q : Int32 × Int32} (hq : q.1 = 0) : p_lq f len a na kc q = (2, nI (p_sk f len a)) := by
  unfold p_lq
  rw [if_neg h9, if_neg (by rw [hk]; decide), p_rq_g h, p_fl_0 hq, show p_rna f len a na = p_sk f len a from if_pos (p_bad_0 h).1]
theorem p_sk_sk (f : Nat → Int32) (len a : Nat) : p_sk f len (p_sk f len a) = p_sk f len a := by
  have key : ∀ n a, len - a = n → p_sk f len (p_sk f len a) = p_sk f len a := by
    intro n
    induction n with
    | zero =>
      intro a h
      rw [p_sk_end (a := a) (by omega), p_sk_end (a := a) (by omega)]
    | succ n ih =>
      intro a h
      by_cases e : f a = 32
      · rw [p_sk_go (a := a) (by omega) e]
        exact ih (a + 1) (by omega)
      · rw [p_sk_stop (a := a) (by omega) e, p_sk_stop (a := a) (by omega) e]
  exact key _ a rfl
theorem p_nl_sk (f : Nat → Int32) (len a : Nat) : p_nl f len (p_sk f len a) = p_nl f len a := by
  unfold p_nl
  rw [p_sk_sk]
theorem p_nv_sk (f : Nat → Int32) (len a : Nat) : p_nv f len (p_sk f len a) = p_nv f len a := by
  unfold p_nv
  rw [p_sk_sk]
theorem p_bad_sk (f : Nat → Int32) (len a : Nat) (lo hi : Int32) : p_bad f len (p_sk f len a) lo hi = p_bad f len a lo hi := by
  unfold p_bad
  rw [p_nl_sk, p_sk_sk, p_nv_sk]
theorem p_rv_sk (f : Nat → Int32) (len a : Nat) (lo hi : Int32) : p_rv f len (p_sk f len a) lo hi = p_rv f len a lo hi := by
  unfold p_rv
  rw [p_bad_sk, p_nv_sk]
theorem p_rat_sk (f : Nat → Int32) (len a : Nat) : p_rat f len (p_sk f len a) = p_rat f len a := by
  unfold p_rat
  rw [p_nl_sk, p_sk_sk]
/-- what the model has read so far, by the class's reading -/
def m_RR (M : Nat → Nat → Int32) (hd : Bool) (s : p_RS) : Prop := (hd = s.2.2.1 ∧ 1 ≤ s.2.2.2.2.1 ∧ s.2.2.2.2.1 ≤ 12 ∧ s.2.2.2.2.2.1 ≤ 30 ∧ s.2.2.2.2.2.2.1 ≤ 9 ∧ s.2.2.2.2.2.2.2.1 ≤ 6) ∧ (M 5 0 = nI s.2.2.2.2.1 ∧ M 5 1 = nI s.2.2.2.2.2.2.1 ∧ M 5 2 = nI s.2.2.2.2.2.2.2.1 ∧ (hd = true → M 5 3 = nI s.2.2.2.2.2.1) ∧ (hd = false → s.2.2.2.2.2.1 = 30)) ∧ (∀ i, i < s.2.2.2.2.1 → M 6 i = s.2.2.2.2.2.2.2.2 0 i) ∧ (∀ c, c < s.2.2.2.2.2.2.1 → M 7 c = s.2.2.2.2.2.2.2.2 1 c) ∧ (∀ k, k < s.2.2.2.2.2.2.2.1 → (M 8 (4 * k) = s.2.2.2.2.2.2.2.2 2 k ∧ M 8 ((4 * k) + 1) = s.2.2.2.2.2.2.2.2 3 k ∧ M 8 ((4 * k) + 2) = s.2.2.2.2.2.2.2.2 4 k + 10 ∧ M 8 ((4 * k) + 3) = s.2.2.2.2.2.2.2.2 5 k + 10) ∧ (∃ t : Nat, s.2.2.2.2.2.2.2.2 2 k = nI t ∧ 1 ≤ t ∧ t ≤ 6) ∧ (s.2.2.2.2.2.2.2.2 3 k = -1 ∨ ∃ l, l < k ∧ s.2.2.2.2.2.2.2.2 3 k = nI l))
/-- the model's reading stands as the class's: both went on, or both have this fault -/
def m_RO (M : Nat → Nat → Int32) (hd : Bool) (a : Nat) (wr : Int32) (s : p_RS) : Prop := (s.2.2.2.1.1 = 0 ∧ wr = 0 ∧ a = s.1 ∧ m_RR M hd s) ∨ (¬ s.2.2.2.1.1 = 0 ∧ wr = s.2.2.2.1.1 ∧ nI a = s.2.2.2.1.2)
/-- what a reader of the model leaves -/
def m_RP (len : Nat) (fa : Int32) (dd : Nat) (sd : Int32) (sg es : Nat) (M : Nat → Nat → Int32) (s : p_RS) (w' : rr_A) : Prop := ∃ (hd : Bool) (a : Nat) (wr : Int32) (M' : Nat → Nat → Int32), w' = W_M (mv len fa hd dd sd sg es a wr) M' ∧ a ≤ 500 ∧ (∀ i, i < 5 ∨ 8 < i → M' i = M i) ∧ m_RO M' hd a wr s
