/-! small sets of one, two, three clauses, and who is in them -/
def z_q1 (s a : Nat) : Bool := decide (((0 ||| ((1 : Int32) <<< (nI a &&& 31))) = nI s) ↔ (¬ p_bit (nI s) (nI a) = 0)) && (!decide (¬ p_bit (nI s) (nI a) = 0) || p_all (fun k => decide (s.testBit k = true ↔ (k = a))) 6)
theorem z_q1a : p_all (fun s => !decide (m_ones (nI s) 9 = nI 1) || p_all (fun a => z_q1 s a) 6) 64 = true := by decide +kernel
theorem z_m1 : ∀ s, s < 64 → m_ones (nI s) 9 = nI 1 → ∀ a, a < 6 → (((0 ||| ((1 : Int32) <<< (nI a &&& 31))) = nI s ↔ ¬ p_bit (nI s) (nI a) = 0) ∧ (¬ p_bit (nI s) (nI a) = 0 → ∀ k, k < 6 → (s.testBit k = true ↔ k = a))) := by
  intro s hs ho a ha
  have h := p_all_iff.mp z_q1a s hs
  rw [decide_eq_true ho] at h
  replace h : p_all (fun a => z_q1 s a) 6 = true := h
  replace h := p_all_iff.mp h a ha
  replace h : z_q1 s a = true := h
  unfold z_q1 at h
  rw [Bool.and_eq_true, decide_eq_true_eq, Bool.or_eq_true, Bool.not_eq_true', decide_eq_false_iff_not] at h
  refine ⟨h.1, fun hq k hk => ?_⟩
  exact of_decide_eq_true (p_all_iff.mp (h.2.resolve_left (fun z => z hq)) k hk)
def z_q2 (s a b : Nat) : Bool := decide ((((0 ||| ((1 : Int32) <<< (nI a &&& 31))) ||| ((1 : Int32) <<< (nI b &&& 31))) = nI s) ↔ (¬ p_bit (nI s) (nI a) = 0 ∧ ¬ p_bit (nI s) (nI b) = 0 ∧ ¬ a = b)) && (!decide (¬ p_bit (nI s) (nI a) = 0 ∧ ¬ p_bit (nI s) (nI b) = 0 ∧ ¬ a = b) || p_all (fun k => decide (s.testBit k = true ↔ (k = a ∨ k = b))) 6)
theorem z_q2a : p_all (fun s => !decide (m_ones (nI s) 9 = nI 2) || p_all (fun a => p_all (fun b => z_q2 s a b) 6) 6) 64 = true := by decide +kernel
theorem z_m2 : ∀ s, s < 64 → m_ones (nI s) 9 = nI 2 → ∀ a, a < 6 → ∀ b, b < 6 → ((((0 ||| ((1 : Int32) <<< (nI a &&& 31))) ||| ((1 : Int32) <<< (nI b &&& 31))) = nI s ↔ ¬ p_bit (nI s) (nI a) = 0 ∧ ¬ p_bit (nI s) (nI b) = 0 ∧ ¬ a = b) ∧ (¬ p_bit (nI s) (nI a) = 0 ∧ ¬ p_bit (nI s) (nI b) = 0 ∧ ¬ a = b → ∀ k, k < 6 → (s.testBit k = true ↔ k = a ∨ k = b))) := by
  intro s hs ho a ha b hb
  have h := p_all_iff.mp z_q2a s hs
  rw [decide_eq_true ho] at h
  replace h : p_all (fun a => p_all (fun b => z_q2 s a b) 6) 6 = true := h
  replace h := p_all_iff.mp h a ha
  replace h := p_all_iff.mp h b hb
  replace h : z_q2 s a b = true := h
  unfold z_q2 at h
  rw [Bool.and_eq_true, decide_eq_true_eq, Bool.or_eq_true, Bool.not_eq_true', decide_eq_false_iff_not] at h
  refine ⟨h.1, fun hq k hk => ?_⟩
  exact of_decide_eq_true (p_all_iff.mp (h.2.resolve_left (fun z => z hq)) k hk)
def z_q3 (s a b c : Nat) : Bool := decide (((((0 ||| ((1 : Int32) <<< (nI a &&& 31))) ||| ((1 : Int32) <<< (nI b &&& 31))) ||| ((1 : Int32) <<< (nI c &&& 31))) = nI s) ↔ (¬ p_bit (nI s) (nI a) = 0 ∧ ¬ p_bit (nI s) (nI b) = 0 ∧ ¬ p_bit (nI s) (nI c) = 0 ∧ ¬ a = b ∧ ¬ a = c ∧ ¬ b = c)) && (!decide (¬ p_bit (nI s) (nI a) = 0 ∧ ¬ p_bit (nI s) (nI b) = 0 ∧ ¬ p_bit (nI s) (nI c) = 0 ∧ ¬ a = b ∧ ¬ a = c ∧ ¬ b = c) || p_all (fun k => decide (s.testBit k = true ↔ (k = a ∨ k = b ∨ k = c))) 6)
theorem z_q3a : p_all (fun s => !decide (m_ones (nI s) 9 = nI 3) || p_all (fun a => p_all (fun b => p_all (fun c => z_q3 s a b c) 6) 6) 6) 64 = true := by decide +kernel
theorem z_m3 : ∀ s, s < 64 → m_ones (nI s) 9 = nI 3 → ∀ a, a < 6 → ∀ b, b < 6 → ∀ c, c < 6 → (((((0 ||| ((1 : Int32) <<< (nI a &&& 31))) ||| ((1 : Int32) <<< (nI b &&& 31))) ||| ((1 : Int32) <<< (nI c &&& 31))) = nI s ↔ ¬ p_bit (nI s) (nI a) = 0 ∧ ¬ p_bit (nI s) (nI b) = 0 ∧ ¬ p_bit (nI s) (nI c) = 0 ∧ ¬ a = b ∧ ¬ a = c ∧ ¬ b = c) ∧ (¬ p_bit (nI s) (nI a) = 0 ∧ ¬ p_bit (nI s) (nI b) = 0 ∧ ¬ p_bit (nI s) (nI c) = 0 ∧ ¬ a = b ∧ ¬ a = c ∧ ¬ b = c → ∀ k, k < 6 → (s.testBit k = true ↔ k = a ∨ k = b ∨ k = c))) := by
  intro s hs ho a ha b hb c hc
  have h := p_all_iff.mp z_q3a s hs
  rw [decide_eq_true ho] at h
  replace h : p_all (fun a => p_all (fun b => p_all (fun c => z_q3 s a b c) 6) 6) 6 = true := h
  replace h := p_all_iff.mp h a ha
  replace h := p_all_iff.mp h b hb
  replace h := p_all_iff.mp h c hc
  replace h : z_q3 s a b c = true := h
  unfold z_q3 at h
  rw [Bool.and_eq_true, decide_eq_true_eq, Bool.or_eq_true, Bool.not_eq_true', decide_eq_false_iff_not] at h
  refine ⟨h.1, fun hq k hk => ?_⟩
  exact of_decide_eq_true (p_all_iff.mp (h.2.resolve_left (fun z => z hq)) k hk)
theorem z_mn {sN sz : Nat} (hs : sN < 64) (ho : m_ones (nI sN) 9 = nI sz) (h1 : 1 ≤ sz) (h3 : sz ≤ 3) {w : Nat → Nat} (hw : ∀ j, j < sz → w j < 6) : (m_mn w sz = nI sN ↔ (∀ j, j < sz → ¬ p_bit (nI sN) (nI (w j)) = 0) ∧ ∀ i j, i < sz → j < sz → w i = w j → i = j) ∧ (m_mn w sz = nI sN → ∀ k, k < 6 → (sN.testBit k = true ↔ ∃ j, j < sz ∧ w j = k)) := by
  rcases (show sz = 1 ∨ sz = 2 ∨ sz = 3 by omega) with rfl | rfl | rfl
  · obtain ⟨a, b⟩ := z_m1 sN hs ho (w 0) (hw 0 (by omega))
    refine ⟨⟨fun h => ?_, fun h => ?_⟩, fun h k hk => ?_⟩
    · have := a.mp h
      refine ⟨fun j hj => ?_, fun i j hi hj _ => by omega⟩
      rw [show j = 0 by omega]; exact this
    · exact a.mpr (h.1 0 (by omega))
    · rw [b (a.mp h) k hk]
      constructor
      · intro e; exact ⟨0, by omega, e.symm⟩
      · rintro ⟨j, hj, e⟩
        rw [show j = 0 by omega] at e; exact e.symm
  · obtain ⟨a, b⟩ := z_m2 sN hs ho (w 0) (hw 0 (by omega)) (w 1) (hw 1 (by omega))
    refine ⟨⟨fun h => ?_, fun h => ?_⟩, fun h k hk => ?_⟩
    · obtain ⟨c1, c2, c3⟩ := a.mp h
      refine ⟨fun j hj => ?_, fun i j hi hj e => ?_⟩
      · rcases (show j = 0 ∨ j = 1 by omega) with rfl | rfl
        · exact c1
        · exact c2
      · rcases (show i = 0 ∨ i = 1 by omega) with rfl | rfl <;> rcases (show j = 0 ∨ j = 1 by omega) with rfl | rfl
        · rfl
        · exact absurd e c3
        · exact absurd e.symm c3
        · rfl
    · exact a.mpr ⟨h.1 0 (by omega), h.1 1 (by omega), fun e => absurd (h.2 0 1 (by omega) (by omega) e) (by omega)⟩
    · rw [b (a.mp h) k hk]
      constructor
      · rintro (e | e)
        · exact ⟨0, by omega, e.symm⟩
        · exact ⟨1, by omega, e.symm⟩
      · rintro ⟨j, hj, e⟩
        rcases (show j = 0 ∨ j = 1 by omega) with rfl | rfl
        · exact Or.inl e.symm
        · exact Or.inr e.symm
  · obtain ⟨a, b⟩ := z_m3 sN hs ho (w 0) (hw 0 (by omega)) (w 1) (hw 1 (by omega)) (w 2) (hw 2 (by omega))
    refine ⟨⟨fun h => ?_, fun h => ?_⟩, fun h k hk => ?_⟩
    · obtain ⟨c1, c2, c3, c4, c5, c6⟩ := a.mp h
      refine ⟨fun j hj => ?_, fun i j hi hj e => ?_⟩
      · rcases (show j = 0 ∨ j = 1 ∨ j = 2 by omega) with rfl | rfl | rfl
        · exact c1
        · exact c2
        · exact c3
      · rcases (show i = 0 ∨ i = 1 ∨ i = 2 by omega) with rfl | rfl | rfl <;> rcases (show j = 0 ∨ j = 1 ∨ j = 2 by omega) with rfl | rfl | rfl
        · rfl
        · exact absurd e c4
        · exact absurd e c5
        · exact absurd e.symm c4
        · rfl
        · exact absurd e c6
        · exact absurd e.symm c5
        · exact absurd e.symm c6
        · rfl
    · exact a.mpr ⟨h.1 0 (by omega), h.1 1 (by omega), h.1 2 (by omega), fun e => absurd (h.2 0 1 (by omega) (by omega) e) (by omega), fun e => absurd (h.2 0 2 (by omega) (by omega) e) (by omega), fun e => absurd (h.2 1 2 (by omega) (by omega) e) (by omega)⟩
    · rw [b (a.mp h) k hk]
      constructor
      · rintro (e | e | e)
        · exact ⟨0, by omega, e.symm⟩
        · exact ⟨1, by omega, e.symm⟩
        · exact ⟨2, by omega, e.symm⟩
      · rintro ⟨j, hj, e⟩
        rcases (show j = 0 ∨ j = 1 ∨ j = 2 by omega) with rfl | rfl | rfl
        · exact Or.inl e.symm
        · exact Or.inr (Or.inl e.symm)
        · exact Or.inr (Or.inr e.symm)
