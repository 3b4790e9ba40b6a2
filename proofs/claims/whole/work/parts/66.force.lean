/-! what is in force, bit by bit; a set's clauses all in force -/
theorem z_bt : ∀ s, s < 64 → ∀ k, k < 6 → (p_bit (nI s) (nI k) = 0 ↔ s.testBit k = false) := by decide +kernel
theorem z_nand {a b : Nat} (ha : a < 2 ^ 31) (hb : b < 2 ^ 31) : nI a &&& nI b = nI (a &&& b) := by
  apply Int32.toBitVec_inj.mp
  apply BitVec.eq_of_toNat_eq
  rw [Int32.toBitVec_and, BitVec.toNat_and, pk_tn (by omega), pk_tn (by omega), pk_tn]
  exact Nat.lt_of_le_of_lt Nat.and_le_left (by omega)
theorem z_fsb (S G : Nat → Nat → Int32) {n : Nat} (hn : n ≤ 6) : ∃ X, X < 2 ^ n ∧ p_fs S G n = nI X ∧ (∀ m, m ≤ n → ∀ k, k < m → (p_bit (p_fs S G m) (nI k) = 0 ↔ X.testBit k = false)) ∧ ∀ k, k < n → (X.testBit k = true ↔ p_done S G k = true ∧ (G 3 k = -1 ∨ ¬ p_bit (p_fs S G k) (G 3 k) = 0)) := by
  induction n with
  | zero => exact ⟨0, by decide, rfl, fun m hm k hk => by omega, fun k hk => by omega⟩
  | succ n ih =>
    obtain ⟨X, hX, e, h1, h2⟩ := ih (by omega)
    have hp6 : 2 ^ (n + 1) ≤ 2 ^ 6 := Nat.pow_le_pow_right (by decide) hn
    have hp1 : 2 ^ (n + 1) = 2 * 2 ^ n := by rw [Nat.pow_succ, Nat.mul_comm]
    by_cases c : p_done S G n = true ∧ (G 3 n = -1 ∨ ¬ p_bit (p_fs S G n) (G 3 n) = 0)
    · have ef : p_fs S G (n + 1) = nI (X ||| 2 ^ n) := by
        show (if _ then _ else _) = _
        rw [if_pos c, e, p_sl1 n (by omega)]
        exact p_nor (by omega) (by omega)
      have hlt : X ||| 2 ^ n < 2 ^ (n + 1) := Nat.or_lt_two_pow (by omega) (by omega)
      have hb : ∀ k, k < n → (X ||| 2 ^ n).testBit k = X.testBit k := fun k hk => by
        rw [Nat.testBit_or, Nat.testBit_two_pow_of_ne (by omega), Bool.or_false]
      have hbn : (X ||| 2 ^ n).testBit n = true := by
        rw [Nat.testBit_or, Nat.testBit_two_pow_self, Bool.or_true]
      refine ⟨X ||| 2 ^ n, hlt, ef, ?_, ?_⟩
      · intro m hm k hk
        by_cases em : m = n + 1
        · subst em
          rw [ef]
          exact z_bt _ (by omega) k (by omega)
        · rw [h1 m (by omega) k hk, hb k (by omega)]
      · intro k hk
        by_cases ek : k = n
        · subst ek
          exact ⟨fun _ => c, fun _ => hbn⟩
        · rw [hb k (by omega)]
          exact h2 k (by omega)
    · have ef : p_fs S G (n + 1) = nI X := by
        show (if _ then _ else _) = _
        rw [if_neg c, e]
      refine ⟨X, by omega, ef, ?_, ?_⟩
      · intro m hm k hk
        by_cases em : m = n + 1
        · subst em
          rw [ef]
          exact z_bt _ (by omega) k (by omega)
        · exact h1 m (by omega) k hk
      · intro k hk
        by_cases ek : k = n
        · subst ek
          have hf : X.testBit k = false := Nat.testBit_lt_two_pow hX
          rw [hf]
          exact ⟨fun q => by simp at q, fun q => absurd q c⟩
        · exact h2 k (by omega)
section
variable {S G : Nat → Nat → Int32} {kc sN : Nat}
theorem z_F (hkc : kc ≤ 6) (hs : sN < 2 ^ kc) (hL : ∀ j, j < kc → G 3 j = -1 ∨ ∃ l, l < j ∧ G 3 j = nI l) : ∃ X : Nat, (p_fs S G kc &&& nI sN = nI sN ↔ ∀ k, k < kc → sN.testBit k = true → X.testBit k = true) ∧ ∀ k, k < kc → (X.testBit k = true ↔ p_done S G k = true ∧ (G 3 k = -1 ∨ ∃ l, l < k ∧ G 3 k = nI l ∧ X.testBit l = true)) := by
  obtain ⟨X, hX, e, h1, h2⟩ := z_fsb S G hkc
  have hp6 : 2 ^ kc ≤ 2 ^ 6 := Nat.pow_le_pow_right (by decide) hkc
  refine ⟨X, ?_, ?_⟩
  · rw [e, z_nand (by omega) (by omega)]
    constructor
    · intro h k hk hb
      have h3 : X &&& sN = sN := z_ne (by have := Nat.and_le_left (n := X) (m := sN); omega) (by omega) h
      rw [← h3, Nat.testBit_and, Bool.and_eq_true] at hb
      exact hb.1
    · intro h
      congr 1
      apply Nat.eq_of_testBit_eq
      intro k
      rw [Nat.testBit_and]
      by_cases hk : k < kc
      · cases hb : sN.testBit k
        · rw [Bool.and_false]
        · rw [h k hk hb]; rfl
      · have : sN.testBit k = false := Nat.testBit_lt_two_pow (Nat.lt_of_lt_of_le hs (Nat.pow_le_pow_right (by decide) (by omega)))
        rw [this, Bool.and_false]
  · intro k hk
    rw [h2 k hk]
    constructor
    · rintro ⟨a, b⟩
      refine ⟨a, ?_⟩
      rcases hL k hk with c | ⟨l, hl, c⟩
      · exact Or.inl c
      · right
        refine ⟨l, hl, c, ?_⟩
        rcases b with b | b
        · exact absurd (c.symm.trans b) (p_nm1 (by omega))
        · rw [c, h1 k (by omega) l hl] at b
          simpa using b
    · rintro ⟨a, b⟩
      refine ⟨a, ?_⟩
      rcases b with b | ⟨l, hl, c, b⟩
      · exact Or.inl b
      · right
        rw [c, h1 k (by omega) l hl, b]
        decide
/-- a set is whole: what its clauses lean on is in it -/
theorem z_wh (hkc : kc ≤ 6) (hs : sN < 2 ^ kc) (hL : ∀ j, j < kc → G 3 j = -1 ∨ ∃ l, l < j ∧ G 3 j = nI l) : p_all (p_whk (nI sN) (G 3) kc) kc = true ↔ ∀ k, k < kc → sN.testBit k = true → ∀ l, l < k → G 3 k = nI l → sN.testBit l = true := by
  have hp6 : 2 ^ kc ≤ 2 ^ 6 := Nat.pow_le_pow_right (by decide) hkc
  rw [p_all_iff]
  constructor
  · intro h k hk hb l hl e
    have h1 := h k hk
    unfold p_whk at h1
    rw [e, decide_eq_false (by rw [z_bt sN (by omega) k (by omega), hb]; decide), show p_in (nI l) (nI kc) = true from by
      unfold p_in
      rw [decide_eq_false (by rw [Int32.lt_iff_toInt_lt, nI_toInt (by omega), show (0 : Int32).toInt = 0 from by decide]; omega), decide_eq_false (by rw [Int32.le_iff_toInt_le, nI_toInt (by omega), nI_toInt (by omega)]; omega)]
      rfl] at h1
    simp only [Bool.false_or, Bool.not_true, Bool.not_eq_true', decide_eq_false_iff_not] at h1
    rw [z_bt sN (by omega) l (by omega)] at h1
    simpa using h1
  · intro h k hk
    unfold p_whk
    cases hb : sN.testBit k
    · rw [decide_eq_true ((z_bt sN (by omega) k (by omega)).mpr hb)]; rfl
    · rcases hL k hk with c | ⟨l, hl, c⟩
      · rw [c, show p_in (-1) (nI kc) = false from by unfold p_in; rw [show decide ((-1 : Int32) < 0) = true from by decide]; rfl]
        simp
      · have h3 := h k hk hb l hl c
        rw [c, decide_eq_false (p := p_bit (nI sN) (nI l) = 0) (by rw [z_bt sN (by omega) l (by omega), h3]; decide)]
        simp
theorem z_F_done (hkc : kc ≤ 6) (hs : sN < 2 ^ kc) (hL : ∀ j, j < kc → G 3 j = -1 ∨ ∃ l, l < j ∧ G 3 j = nI l) (h : p_fs S G kc &&& nI sN = nI sN) : ∀ k, k < kc → sN.testBit k = true → p_done S G k = true ∧ ∀ l, l < k → G 3 k = nI l → p_done S G l = true := by
  obtain ⟨X, h1, h2⟩ := z_F (S := S) hkc hs hL
  intro k hk hb
  obtain ⟨a, b⟩ := (h2 k hk).mp (h1.mp h k hk hb)
  refine ⟨a, fun l hl e => ?_⟩
  rcases b with b | ⟨l2, hl2, e2, b⟩
  · exact absurd (e.symm.trans b) (p_nm1 (by omega))
  · have : l = l2 := z_ne (by omega) (by omega) (e.symm.trans e2)
    subst this
    exact ((h2 l (by omega)).mp b).1
theorem z_F_all (hkc : kc ≤ 6) (hs : sN < 2 ^ kc) (hL : ∀ j, j < kc → G 3 j = -1 ∨ ∃ l, l < j ∧ G 3 j = nI l) (hw : ∀ k, k < kc → sN.testBit k = true → ∀ l, l < k → G 3 k = nI l → sN.testBit l = true) (h : ∀ k, k < kc → sN.testBit k = true → p_done S G k = true) : p_fs S G kc &&& nI sN = nI sN := by
  obtain ⟨X, h1, h2⟩ := z_F (S := S) hkc hs hL
  apply h1.mpr
  intro k
  induction k using Nat.strongRecOn with
  | ind k ih =>
    intro hk hb
    refine (h2 k hk).mpr ⟨h k hk hb, ?_⟩
    rcases hL k hk with c | ⟨l, hl, c⟩
    · exact Or.inl c
    · exact Or.inr ⟨l, hl, c, ih l hl (by omega) (hw k hk hb l hl c)⟩
end
