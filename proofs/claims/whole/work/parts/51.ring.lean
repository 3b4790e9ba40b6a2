/-! the deeds' rows, by the class's ring and by the model's rows -/
theorem z_sv_out {R : Nat → Int32} {a : Nat} {h ss p1 p2 : Int32} {S : Nat → Nat → Int32} {i : Nat} (hi : i < a ∨ a + 22 ≤ i) : p_sav R a h ss p1 p2 S i = R i := by
  unfold p_sav
  rw [pk_cpy_out (by omega), pk_cpy_out (by omega), pk_cpy_out (by omega), pk_un (by omega), pk_un (by omega), pk_un (by omega), pk_un (by omega)]
theorem z_sv_in (R : Nat → Int32) (a : Nat) (q : p_Q) : z_rw (p_sav R a (nI q.1) q.2.1 q.2.2.1 q.2.2.2.1 q.2.2.2.2) a q := by
  unfold p_sav
  refine ⟨?_, ?_, ?_, ?_, fun k hk => ⟨?_, ?_, ?_⟩⟩
  · rw [pk_cpy_out (by omega), pk_cpy_out (by omega), pk_cpy_out (by omega), pk_un (by omega), pk_un (by omega), pk_un (by omega), pk_us]
  · rw [pk_cpy_out (by omega), pk_cpy_out (by omega), pk_cpy_out (by omega), pk_un (by omega), pk_un (by omega), pk_us]
  · rw [pk_cpy_out (by omega), pk_cpy_out (by omega), pk_cpy_out (by omega), pk_un (by omega), pk_us]
  · rw [pk_cpy_out (by omega), pk_cpy_out (by omega), pk_cpy_out (by omega), pk_us]
  · rw [pk_cpy_out (by omega), pk_cpy_out (by omega), pk_cpy_in (by omega) (by omega), show 0 + (a + 4 + k - (a + 4)) = k by omega]
  · rw [pk_cpy_out (by omega), pk_cpy_in (by omega) (by omega), show 0 + (a + 10 + k - (a + 4 + 6)) = k by omega]
  · rw [pk_cpy_in (by omega) (by omega), show 0 + (a + 16 + k - (a + 4 + 12)) = k by omega]
theorem z_rw_c {f g : Nat → Int32} {a : Nat} {q : p_Q} (h : ∀ i, i < 22 → f (a + i) = g (a + i)) (hg : z_rw g a q) : z_rw f a q := by
  obtain ⟨h0, h1, h2, h3, hk⟩ := hg
  refine ⟨?_, ?_, ?_, ?_, fun k hk6 => ?_⟩
  · have := h 0 (by omega); rw [Nat.add_zero] at this; rw [this]; exact h0
  · rw [h 1 (by omega)]; exact h1
  · rw [h 2 (by omega)]; exact h2
  · rw [h 3 (by omega)]; exact h3
  · obtain ⟨k1, k2, k3⟩ := hk k hk6
    rw [Nat.add_assoc, Nat.add_assoc, Nat.add_assoc] at *
    rw [h (4 + k) (by omega), h (10 + k) (by omega), h (16 + k) (by omega)]
    exact ⟨k1, k2, k3⟩
/-- the state that a row of the class gives back -/
def z_ld (S : Nat → Nat → Int32) (R : Nat → Int32) (a : Nat) (q : p_Q) : p_Q := (q.1, q.2.1, q.2.2.1, q.2.2.2.1, p_lod S R a)
theorem z_ld_ag {S : Nat → Nat → Int32} {R : Nat → Int32} {a : Nat} {q : p_Q} (h : z_rw R a q) : p_agq q (z_ld S R a q) := by
  refine ⟨rfl, rfl, rfl, rfl, fun i hi k hk => ?_⟩
  obtain ⟨k1, k2, k3⟩ := h.2.2.2.2 k hk
  show _ = p_lod S R a i k
  rcases (show i = 0 ∨ i = 1 ∨ i = 2 by omega) with rfl | rfl | rfl
  · show _ = va_cpy R (S 0) (a + 4) 0 6 k
    rw [pk_cpy_in (by omega) (by omega), Nat.sub_zero]; exact k1.symm
  · show _ = va_cpy R (S 1) ((a + 4) + 6) 0 6 k
    rw [pk_cpy_in (by omega) (by omega), Nat.sub_zero]; exact k2.symm
  · show _ = va_cpy R (S 2) ((a + 4) + 12) 0 6 k
    rw [pk_cpy_in (by omega) (by omega), Nat.sub_zero]; exact k3.symm
/-- the deeds that are kept, one more of them -/
def z_nD (D : Nat → p_Q) (dd : Nat) (u : p_Q) (j : Nat) : p_Q := if dd = 30 then (if j = 29 then u else D (j + 1)) else (if j = dd then u else D j)
theorem z_rg_add {R : Nat → Int32} {nx dd : Nat} {D : Nat → p_Q} (h : z_rg R nx dd D) (hn : nx < 30) (hd : dd ≤ 30) (u : p_Q) : z_rg (p_svQ R nx u) ((nx + 1) % 30) (min (dd + 1) 30) (z_nD D dd u) := by
  have hin : z_rw (p_svQ R nx u) (nx * 22) u := z_sv_in R (nx * 22) u
  have hout : ∀ m q, ¬ m = nx → z_rw R (m * 22) q → z_rw (p_svQ R nx u) (m * 22) q := fun m q hm hq => z_rw_c (fun i hi => z_sv_out (by omega)) hq
  intro j hj
  unfold z_nD
  by_cases e : dd = 30
  · rw [if_pos e]
    by_cases e2 : j = 29
    · rw [if_pos e2, show ((nx + 1) % 30 + 30 - min (dd + 1) 30 + j) % 30 = nx by omega]
      exact hin
    · rw [if_neg e2]
      have h2 := h (j + 1) (by omega)
      rw [show (nx + 30 - dd + (j + 1)) % 30 = ((nx + 1) % 30 + 30 - min (dd + 1) 30 + j) % 30 by omega] at h2
      exact hout _ _ (by omega) h2
  · rw [if_neg e]
    by_cases e2 : j = dd
    · rw [if_pos e2, show ((nx + 1) % 30 + 30 - min (dd + 1) 30 + j) % 30 = nx by omega]
      exact hin
    · rw [if_neg e2]
      have h2 := h j (by omega)
      rw [show (nx + 30 - dd + j) % 30 = ((nx + 1) % 30 + 30 - min (dd + 1) 30 + j) % 30 by omega] at h2
      exact hout _ _ (by omega) h2
theorem m_P_add {f : Nat → Int32} {D : Nat → p_Q} {dd : Nat} (h : m_P f D dd) (hd : dd ≤ 30) (u : p_Q) : m_P (m_nt f (en u) dd) (z_nD D dd u) (min (dd + 1) 30) := by
  intro j hj i hi
  unfold m_nt z_nD
  by_cases e : dd = 30
  · rw [if_pos e, if_pos e]
    by_cases e2 : j = 29
    · rw [if_pos e2, pk_cpy_in (by omega) (by omega), show 0 + (22 * j + i - 638) = i by omega]
    · rw [if_neg e2, pk_cpy_out (by omega)]
      unfold m_shf
      rw [if_pos (by omega), show 22 * j + i + 22 = 22 * (j + 1) + i by omega]
      exact h (j + 1) (by omega) i hi
  · rw [if_neg e, if_neg e]
    by_cases e2 : j = dd
    · rw [if_pos e2, pk_cpy_in (by omega) (by omega), show 0 + (22 * j + i - 22 * dd) = i by omega]
    · rw [if_neg e2, pk_cpy_out (by omega)]
      exact h j (by omega) i hi
theorem z_nD_all {P : p_Q → Prop} {D : Nat → p_Q} {dd : Nat} (h : ∀ j, j < dd → P (D j)) (hd : dd ≤ 30) {u : p_Q} (hu : P u) : ∀ j, j < min (dd + 1) 30 → P (z_nD D dd u j) := by
  intro j hj
  unfold z_nD
  by_cases e : dd = 30
  · rw [if_pos e]
    by_cases e2 : j = 29
    · rw [if_pos e2]; exact hu
    · rw [if_neg e2]; exact h _ (by omega)
  · rw [if_neg e]
    by_cases e2 : j = dd
    · rw [if_pos e2]; exact hu
    · rw [if_neg e2]; exact h _ (by omega)
/-- n deeds more, f tells the states ahead of them -/
def z_itD (D : Nat → p_Q) (dd : Nat) (f : Nat → p_Q) : Nat → Nat → p_Q
  | 0 => D
  | n + 1 => z_nD (z_itD D dd f n) (min (dd + n) 30) (f n)
theorem z_itD_all {P : p_Q → Prop} {D : Nat → p_Q} {dd : Nat} (h : ∀ j, j < dd → P (D j)) (hd : dd ≤ 30) {f : Nat → p_Q} {n : Nat} (hf : ∀ i, i < n → P (f i)) : ∀ j, j < min (dd + n) 30 → P (z_itD D dd f n j) := by
  induction n with
  | zero => intro j hj; exact h j (by omega)
  | succ n ih =>
    have i2 := ih (fun i hi => hf i (by omega))
    intro j hj
    exact z_nD_all (dd := min (dd + n) 30) i2 (by omega) (hf n (by omega)) j (by omega)
theorem z_rg_it {R : Nat → Int32} {nx dd : Nat} {D : Nat → p_Q} (h : z_rg R nx dd D) (hn : nx < 30) (hd : dd ≤ 30) (f : Nat → p_Q) (n : Nat) : z_rg (p_ph R nx f n) ((nx + n) % 30) (min (dd + n) 30) (z_itD D dd f n) := by
  induction n with
  | zero =>
    rw [show (nx + 0) % 30 = nx by omega, show min (dd + 0) 30 = dd by omega]
    exact h
  | succ n ih =>
    have h2 := z_rg_add ih (by omega) (by omega) (f n)
    rw [show ((nx + n) % 30 + 1) % 30 = (nx + (n + 1)) % 30 by omega, show min (min (dd + n) 30 + 1) 30 = min (dd + (n + 1)) 30 by omega] at h2
    exact h2
theorem m_P_it {F : Nat → Int32} {D : Nat → p_Q} {dd : Nat} (h : m_P F D dd) (hd : dd ≤ 30) (f : Nat → p_Q) (n : Nat) : m_P (m_np F dd f n).1 (z_itD D dd f n) (min (dd + n) 30) ∧ (m_np F dd f n).2 = min (dd + n) 30 := by
  induction n with
  | zero =>
    rw [show min (dd + 0) 30 = dd by omega]
    exact ⟨h, rfl⟩
  | succ n ih =>
    obtain ⟨i1, i2⟩ := ih
    constructor
    · rw [m_np_1, i2]
      have h2 := m_P_add i1 (by omega) (f n)
      rw [show min (min (dd + n) 30 + 1) 30 = min (dd + (n + 1)) 30 by omega] at h2
      exact h2
    · rw [m_np_2, i2, m_nd_min (by omega)]
      omega
