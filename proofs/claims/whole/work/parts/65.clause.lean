/-! one clause in one hour that passes -/
theorem z_ne {a b : Nat} (ha : a < 100000) (hb : b < 100000) (h : nI a = nI b) : a = b := by
  have e := congrArg Int32.toInt h
  rw [nI_toInt (by omega), nI_toInt (by omega)] at e
  omega
theorem z_s1 (w : Nat) : nI w + 1 = nI (w + 1) := nI_add w 1
theorem z_rm_n {S : Nat → Nat → Int32} {j k : Nat} (h : ¬ j = k) (i : Nat) : p_rmS S k i j = S i j := by
  unfold p_rmS va_up upd
  by_cases e2 : i = 2
  · subst e2; simp [h]
  · by_cases e1 : i = 1
    · subst e1; simp [h]
    · by_cases e0 : i = 0
      · subst e0; simp [h]
      · simp [e0, e1, e2]
theorem z_up_n {S : Nat → Nat → Int32} {j k : Nat} (h : ¬ j = k) (a : Nat) (v : Int32) (i : Nat) : va_up S a (upd (S a) k v) i j = S i j := by
  unfold va_up upd
  by_cases e : i = a
  · subst e; simp [h]
  · simp [e]
theorem z_age_n {G : Nat → Nat → Int32} {tc wd hh k : Nat} {S : Nat → Nat → Int32} {ss : Int32} {j : Nat} (h : ¬ j = k) (i : Nat) : (p_age G tc wd hh k S ss).1 i j = S i j := by
  unfold p_age
  split
  · exact z_rm_n h i
  · split
    · exact z_up_n h 1 _ i
    · split
      · split
        · exact z_up_n h 2 _ i
        · exact (z_rm_n h i).trans (z_up_n h 2 _ i)
      · rfl
theorem z_pl_ge (G : Nat → Nat → Int32) (tc wd hh : Nat) (S : Nat → Nat → Int32) (ss : Int32) {n j : Nat} (h : n ≤ j) (i : Nat) : (p_pl G tc wd hh S ss n).1 i j = S i j := by
  induction n with
  | zero => rfl
  | succ n ih =>
    simp only [p_pl]
    split
    · exact ih (by omega)
    · rw [z_age_n (by omega)]; exact ih (by omega)
theorem z_pl_j (G : Nat → Nat → Int32) (tc wd hh : Nat) (S : Nat → Nat → Int32) (ss : Int32) {n j : Nat} (hj : j < n) (hn : n ≤ 6) : ∃ (S1 : Nat → Nat → Int32) (ss1 : Int32), (∀ i, S1 i j = S i j) ∧ (ss1 = nI j ↔ ss = nI j) ∧ (∀ i, (p_pl G tc wd hh S ss n).1 i j = if S 0 j = -1 then S i j else (p_age G tc wd hh j S1 ss1).1 i j) ∧ (ss = nI j → ¬ S 0 j = -1 → (p_pl G tc wd hh S ss n).2 = (p_age G tc wd hh j S1 ss1).2) := by
  induction n with
  | zero => omega
  | succ n ih =>
    by_cases e : j = n
    · subst e
      refine ⟨(p_pl G tc wd hh S ss j).1, (p_pl G tc wd hh S ss j).2, fun i => z_pl_ge G tc wd hh S ss (Nat.le_refl _) i, ?_, ?_, ?_⟩
      · rcases z_pl_s G tc wd hh S ss j with h | ⟨⟨k, hk, h1⟩, h2⟩
        · rw [h]
        · rw [h2, h1]
          exact ⟨fun q => absurd q.symm (p_nm1 (by omega)), fun q => absurd (z_ne (by omega) (by omega) q) (by omega)⟩
      · intro i
        simp only [p_pl]
        rw [z_pl_ge G tc wd hh S ss (Nat.le_refl _) 0]
        by_cases e : S 0 j = -1
        · rw [if_pos e, if_pos e]; exact z_pl_ge G tc wd hh S ss (Nat.le_refl _) i
        · rw [if_neg e, if_neg e]
      · intro _ e
        simp only [p_pl]
        rw [z_pl_ge G tc wd hh S ss (Nat.le_refl _) 0, if_neg e]
    · obtain ⟨S1, ss1, h1, h2, h3, h4⟩ := ih (by omega) (by omega)
      refine ⟨S1, ss1, h1, h2, ?_, ?_⟩
      · intro i
        rw [← h3 i]
        simp only [p_pl]
        split
        · rfl
        · exact z_age_n e i
      · intro hs hc
        rw [← h4 hs hc]
        simp only [p_pl]
        split
        · rfl
        · rcases z_age_s G tc wd hh n (p_pl G tc wd hh S ss n).1 (p_pl G tc wd hh S ss n).2 with h | ⟨h, h5⟩
          · exact h
          · exfalso
            rcases z_pl_s G tc wd hh S ss n with h6 | ⟨_, h6⟩
            · exact absurd (z_ne (by omega) (by omega) ((hs.symm.trans h6.symm).trans h)) (by omega)
            · exact absurd (h.symm.trans h6) (p_nm1 (by omega))
section
variable {G : Nat → Nat → Int32} {tc wd hh : Nat} {S : Nat → Nat → Int32} {ss : Int32} {n j c w t d : Nat}
theorem z_pl_no (hj : j < n) (hn : n ≤ 6) (h : S 0 j = -1) : (p_pl G tc wd hh S ss n).1 0 j = -1 := by
  obtain ⟨S1, ss1, h1, h2, h3, h4⟩ := z_pl_j G tc wd hh S ss hj hn
  rw [h3 0, if_pos h, h]
theorem z_pl_free (h : ss = -1) : (p_pl G tc wd hh S ss n).2 = -1 := by
  rcases z_pl_s G tc wd hh S ss n with e | ⟨_, e⟩
  · rw [e, h]
  · exact e
theorem z_pl_wet (hj : j < n) (hn : n ≤ 6) (h0 : S 0 j = nI c) (hc : c < 100) (hw : p_wet G tc c hh = true) : (p_pl G tc wd hh S ss n).1 0 j = -1 := by
  obtain ⟨S1, ss1, h1, h2, h3, h4⟩ := z_pl_j G tc wd hh S ss hj hn
  rw [h3 0, h0, if_neg (p_nm1 (by omega))]
  unfold p_age
  rw [h1 0, h0, nI_clamp (by omega), if_pos hw]
  exact pk_us
theorem z_pl_st (hj : j < n) (hn : n ≤ 6) (h0 : S 0 j = nI c) (hc : c < 100) (hw : p_wet G tc c hh = false) (hs : ss = nI j) (hy : S 1 j = nI w) (hwl : w < 100) (hG : G 2 j = nI t) (ht : t < 100) : (p_pl G tc wd hh S ss n).1 0 j = nI c ∧ (p_pl G tc wd hh S ss n).1 1 j = nI (w + 1) ∧ (p_pl G tc wd hh S ss n).1 2 j = S 2 j ∧ (p_pl G tc wd hh S ss n).2 = (if w + 1 < t then ss else -1) := by
  obtain ⟨S1, ss1, h1, h2, h3, h4⟩ := z_pl_j G tc wd hh S ss hj hn
  have hne : ¬ S 0 j = -1 := by rw [h0]; exact p_nm1 (by omega)
  have e : p_age G tc wd hh j S1 ss1 = (va_up S1 1 (upd (S1 1) j (S1 1 j + 1)), if p_done (va_up S1 1 (upd (S1 1) j (S1 1 j + 1))) G j = true then -1 else ss1) := by
    unfold p_age
    rw [h1 0, h0, nI_clamp (by omega), if_neg (by rw [hw]; decide), if_pos (h2.mpr hs)]
  have hd : p_done (va_up S1 1 (upd (S1 1) j (S1 1 j + 1))) G j = !decide (w + 1 < t) := by
    show (!decide (S1 0 j = -1) && !decide (upd (S1 1) j (S1 1 j + 1) j < G 2 j)) = _
    rw [pk_us, h1 0, h1 1, hy, hG, decide_eq_false hne, z_s1]
    have : nI (w + 1) < nI t ↔ w + 1 < t := by
      rw [Int32.lt_iff_toInt_lt, nI_toInt (by omega), nI_toInt (by omega)]; omega
    simp [this]
  rw [h3 0, h3 1, h3 2, h4 hs hne, if_neg hne, if_neg hne, if_neg hne, e]
  refine ⟨(h1 0).trans h0, ?_, h1 2, ?_⟩
  · show upd (S1 1) j (S1 1 j + 1) j = _
    rw [pk_us, h1 1, hy, z_s1]
  · show (if _ then _ else _) = _
    rw [hd, h2.mpr hs, hs]
    by_cases e : w + 1 < t
    · simp [e]
    · simp [e]
theorem z_pl_dry (hj : j < n) (hn : n ≤ 6) (h0 : S 0 j = nI c) (hc : c < 100) (hw : p_wet G tc c hh = false) (hs : ¬ ss = nI j) (hy : S 1 j = nI w) (hwl : w < 100) (hG : G 2 j = nI t) (ht : t ≤ w) (hd : S 2 j = nI d) (hdl : d + 1 ≤ wd) (hwd : wd < 100) : (p_pl G tc wd hh S ss n).1 0 j = nI c ∧ (p_pl G tc wd hh S ss n).1 1 j = nI w ∧ (p_pl G tc wd hh S ss n).1 2 j = nI (d + 1) := by
  obtain ⟨S1, ss1, h1, h2, h3, h4⟩ := z_pl_j G tc wd hh S ss hj hn
  have hne : ¬ S 0 j = -1 := by rw [h0]; exact p_nm1 (by omega)
  have hdn : p_done S1 G j = true := by
    unfold p_done
    rw [h1 0, h1 1, hy, hG, decide_eq_false hne, decide_eq_false (by rw [Int32.lt_iff_toInt_lt, nI_toInt (by omega), nI_toInt (by omega)]; omega)]
    rfl
  have e : p_age G tc wd hh j S1 ss1 = (va_up S1 2 (upd (S1 2) j (S1 2 j + 1)), ss1) := by
    unfold p_age
    rw [h1 0, h0, nI_clamp (by omega), if_neg (by rw [hw]; decide), if_neg (fun q => hs (h2.mp q)), if_pos hdn, if_pos]
    rw [h1 2, hd, z_s1, Int32.le_iff_toInt_le, nI_toInt (by omega), nI_toInt (by omega)]
    omega
  rw [h3 0, h3 1, h3 2, if_neg hne, if_neg hne, if_neg hne, e]
  refine ⟨(h1 0).trans h0, (h1 1).trans hy, ?_⟩
  show upd (S1 2) j (S1 2 j + 1) j = _
  rw [pk_us, h1 2, hd, z_s1]
theorem z_pl_blow (hj : j < n) (hn : n ≤ 6) (h0 : S 0 j = nI c) (hc : c < 100) (hw : p_wet G tc c hh = false) (hs : ¬ ss = nI j) (hy : S 1 j = nI w) (hwl : w < 100) (hG : G 2 j = nI t) (ht : t ≤ w) (hd : S 2 j = nI d) (hdl : wd < d + 1) (hwd : d < 100) : (p_pl G tc wd hh S ss n).1 0 j = -1 := by
  obtain ⟨S1, ss1, h1, h2, h3, h4⟩ := z_pl_j G tc wd hh S ss hj hn
  have hne : ¬ S 0 j = -1 := by rw [h0]; exact p_nm1 (by omega)
  have hdn : p_done S1 G j = true := by
    unfold p_done
    rw [h1 0, h1 1, hy, hG, decide_eq_false hne, decide_eq_false (by rw [Int32.lt_iff_toInt_lt, nI_toInt (by omega), nI_toInt (by omega)]; omega)]
    rfl
  rw [h3 0, if_neg hne]
  unfold p_age
  rw [h1 0, h0, nI_clamp (by omega), if_neg (by rw [hw]; decide), if_neg (fun q => hs (h2.mp q)), if_pos hdn, if_neg]
  · exact pk_us
  · rw [h1 2, hd, z_s1, Int32.le_iff_toInt_le, nI_toInt (by omega), nI_toInt (by omega)]
    omega
end
