/-! plan: the model's fold over all plans; both answers -/
theorem z_vb_i {set : Int32} {dp : Nat} {w c : Nat → Nat} : z_vb set dp w c = true ↔ (∀ p, p < dp → ¬ p_bit set (nI (w p)) = 0) ∧ (∀ i j, i < dp → j < dp → w i = w j → i = j) ∧ ∀ i j, i < dp → j < dp → c i = c j → i = j := by
  unfold z_vb
  rw [p_all_iff]
  constructor
  · intro h
    have h2 : ∀ p, p < dp → ¬ p_bit set (nI (w p)) = 0 ∧ ∀ r, r < p → ¬ w r = w p ∧ ¬ c r = c p := by
      intro p hp
      have h1 := h p hp
      rw [Bool.and_eq_true, Bool.not_eq_true', decide_eq_false_iff_not, p_all_iff] at h1
      refine ⟨h1.1, fun r hr => ?_⟩
      have h3 := h1.2 r hr
      rw [Bool.and_eq_true, Bool.not_eq_true', Bool.not_eq_true', decide_eq_false_iff_not, decide_eq_false_iff_not] at h3
      exact h3
    refine ⟨fun p hp => (h2 p hp).1, fun i j hi hj e => ?_, fun i j hi hj e => ?_⟩
    · rcases Nat.lt_trichotomy i j with q | q | q
      · exact absurd e ((h2 j hj).2 i q).1
      · exact q
      · exact absurd e.symm ((h2 i hi).2 j q).1
    · rcases Nat.lt_trichotomy i j with q | q | q
      · exact absurd e ((h2 j hj).2 i q).2
      · exact q
      · exact absurd e.symm ((h2 i hi).2 j q).2
  · rintro ⟨h1, h2, h3⟩ p hp
    rw [Bool.and_eq_true, Bool.not_eq_true', decide_eq_false_iff_not, p_all_iff]
    refine ⟨h1 p hp, fun r hr => ?_⟩
    rw [Bool.and_eq_true, Bool.not_eq_true', Bool.not_eq_true', decide_eq_false_iff_not, decide_eq_false_iff_not]
    exact ⟨fun e => absurd (h2 r p (by omega) hp e) (by omega), fun e => absurd (h3 r p (by omega) hp e) (by omega)⟩
theorem z_bst (f : Nat → Int32) (w c : Nat → Nat) {n p : Nat} (h : p < n) : m_bst f w c n p = nI (w p + 10 * c p) := by
  induction n with
  | zero => omega
  | succ n ih =>
    show upd (m_bst f w c n) n (nI (w n + 10 * c n)) p = _
    by_cases e : p = n
    · rw [e, pk_us]
    · rw [pk_un e]; exact ih (by omega)
def z_RR (sz : Nat) (x : Int32 × (Nat → Int32)) (s : p_S) : Prop := x.1 = (if 40 < s.1 then -1 else nI s.1) ∧ (s.1 ≤ 40 → ∀ p, p < sz → x.2 p = s.2 p)
theorem z_ra (S : Nat → Nat → Int32) (ss : Int32) (n : Nat) : (∀ k, k < n → (p_ra S ss n).1 0 k = -1) ∧ (∀ k, n ≤ k → (p_ra S ss n).1 0 k = S 0 k) ∧ ((p_ra S ss n).2.1 = ss ∨ (p_ra S ss n).2.1 = -1) ∧ (∀ k, k < n → ss = nI k → ¬ S 0 k = -1 → (p_ra S ss n).2.1 = -1) := by
  induction n with
  | zero => exact ⟨fun k hk => by omega, fun k _ => rfl, Or.inl rfl, fun k hk => by omega⟩
  | succ n ih =>
    obtain ⟨h1, h2, h3, h4⟩ := ih
    by_cases e : (p_ra S ss n).1 0 n = -1
    · have e2 : p_ra S ss (n + 1) = p_ra S ss n := if_pos e
      rw [e2]
      refine ⟨fun k hk => ?_, fun k hk => h2 k (by omega), h3, fun k hk hs hn => ?_⟩
      · by_cases ek : k = n
        · rw [ek]; exact e
        · exact h1 k (by omega)
      · by_cases ek : k = n
        · subst ek
          rw [h2 k (Nat.le_refl _)] at e
          exact absurd e hn
        · exact h4 k (by omega) hs hn
    · have e2 : p_ra S ss (n + 1) = (p_rmS (p_ra S ss n).1 n, p_rms (p_ra S ss n).2.1 n, (p_ra S ss n).2.2 + 1) := if_neg e
      rw [e2]
      have hr : p_rms (p_ra S ss n).2.1 n = (p_ra S ss n).2.1 ∨ p_rms (p_ra S ss n).2.1 n = -1 := by
        rcases z_rms (p_ra S ss n).2.1 n with h | ⟨_, h⟩
        · exact Or.inl h
        · exact Or.inr h
      refine ⟨fun k hk => ?_, fun k hk => ?_, ?_, fun k hk hs hn => ?_⟩
      · show p_rmS (p_ra S ss n).1 n 0 k = -1
        rw [(p_rmS_at _ n k).1]
        by_cases ek : k = n
        · rw [if_pos ek]
        · rw [if_neg ek]; exact h1 k (by omega)
      · show p_rmS (p_ra S ss n).1 n 0 k = _
        rw [(p_rmS_at _ n k).1, if_neg (by omega)]; exact h2 k (by omega)
      · show p_rms (p_ra S ss n).2.1 n = ss ∨ p_rms (p_ra S ss n).2.1 n = -1
        rcases hr with h | h
        · rw [h]; exact h3
        · exact Or.inr h
      · show p_rms (p_ra S ss n).2.1 n = -1
        by_cases ek : k = n
        · subst ek
          unfold p_rms
          rcases h3 with h | h
          · rw [h, if_pos hs]
          · rw [h]; split <;> rfl
        · rw [show (p_ra S ss n).2.1 = -1 from h4 k (by omega) hs hn]
          unfold p_rms
          split <;> rfl
theorem z_sm0 {G : Nat → Nat → Int32} {cc kc : Nat} {q : p_Q} (hI : m_I G cc kc q) (hT : z_T q.2.1) : (p_sm q kc).2.1 = -1 ∧ ∀ k, k < 6 → (p_sm q kc).2.2.2.2 0 k = -1 := by
  obtain ⟨h1, h2, h3, h4⟩ := z_ra q.2.2.2.2 q.2.1 kc
  constructor
  · show (p_ra q.2.2.2.2 q.2.1 kc).2.1 = -1
    rcases hT with h | ⟨j, hj, h⟩
    · rcases h3 with a | a
      · rw [a, h]
      · exact a
    · obtain ⟨a, b, _⟩ := hI.1.2 j hj h
      exact h4 j a h b
  · intro k hk
    show (p_ra q.2.2.2.2 q.2.1 kc).1 0 k = -1
    by_cases e : k < kc
    · exact h1 k e
    · rw [h2 k (by omega)]
      rcases (hI.1.1 k hk).1 with a | ⟨a, _⟩
      · exact a
      · exact absurd a e
section
variable {G : Nat → Nat → Int32} {tc wd cc kc sz sN m : Nat} {q : p_Q}
theorem z_pvs (hcc : cc ≤ 9) (hkc : kc ≤ 6) (hwd : wd ≤ 30) (hK : ∀ j, j < kc → ∃ t : Nat, G 2 j = nI t ∧ 1 ≤ t ∧ t ≤ 6) (hL : ∀ j, j < kc → G 3 j = -1 ∨ ∃ l, l < j ∧ G 3 j = nI l) (hsN : sN < 2 ^ kc) (ho : m_ones (nI sN) 9 = nI sz) (h1 : 1 ≤ sz) (h3 : sz ≤ 3) (hm : 1 ≤ m) (hI : m_I G cc kc q) (hT : z_T q.2.1) {w c : Nat → Nat} (hw : ∀ j, j < sz → w j < kc ∧ c j < cc) (hmn : m_mn w sz = nI sN) : p_fi (fun h => decide ((m_ps G tc wd kc (nI sN) sz w c (p_sm q kc) h).2.2 = m)) 1 40 = if p_all (p_whk (nI sN) (G 3) kc) kc = true ∧ z_vb (nI sN) sz w c = true ∧ (z_fu G tc wd w c q.1 sz).1 + m - 1 ≤ (z_fu G tc wd w c q.1 sz).2 then nI ((z_fu G tc wd w c q.1 sz).1 + m - 1 - q.1) else -1 := by
  have hp6 : 2 ^ kc ≤ 2 ^ 6 := Nat.pow_le_pow_right (by decide) hkc
  obtain ⟨a1, a2⟩ := z_mn (sN := sN) (by omega) ho h1 h3 (w := w) (fun j hj => by have := (hw j hj).1; omega)
  obtain ⟨b1, b2⟩ := a1.mp hmn
  have hbits : ∀ k, k < kc → (sN.testBit k = true ↔ ∃ j, j < sz ∧ w j = k) := fun k hk => a2 hmn k (by omega)
  have hpk : z_pk G wd cc kc sz w c := ⟨hkc, hcc, hwd, fun j hj => by
    obtain ⟨x, y⟩ := hw j hj
    obtain ⟨t, e1, e2, e3⟩ := hK (w j) x
    have : p_tk G (w j) = t := by unfold p_tk; rw [e1]; exact nI_clamp (by omega)
    rw [this]
    exact ⟨x, y, e1, e2, e3⟩, b2⟩
  obtain ⟨s1, s2⟩ := z_sm0 hI hT
  by_cases hwd : p_all (p_whk (nI sN) (G 3) kc) kc = true ∧ ∀ i j, i < sz → j < sz → c i = c j → i = j
  · have hv : z_vb (nI sN) sz w c = true := z_vb_i.mpr ⟨b1, b2, hwd.2⟩
    have hF := fun i hi => z_simF (tc := tc) hpk hwd.2 s1 s2 hsN hL ((z_wh hkc hsN hL).mp hwd.1) hbits (nI sN) i hi
    have e0 : (p_sm q kc).1 = q.1 := rfl
    rw [e0] at hF
    have hfr : q.1 + 1 ≤ (z_fu G tc wd w c q.1 sz).1 := by
      have f1 := z_fr_m G tc wd w c q.1 h1
      have f2 : q.1 ≤ z_b G tc wd w c q.1 0 := z_b_ge G tc wd w c q.1 0
      have f3 := (hpk.2.2.2.1 0 (by omega)).2.2.2.1
      rw [show (1 : Nat) = 0 + 1 from rfl, z_fr_s] at f1
      omega
    have hun : (z_fu G tc wd w c q.1 sz).2 ≤ q.1 + 40 := z_un_m G tc wd w c q.1 (Nat.zero_le sz)
    rw [z_pfi (a := (z_fu G tc wd w c q.1 sz).1 - q.1) (b := (z_fu G tc wd w c q.1 sz).2 - q.1) (by omega) (by omega) hm (fun i hi => (hF i hi).trans (by omega))]
    by_cases c2 : (z_fu G tc wd w c q.1 sz).1 + m - 1 ≤ (z_fu G tc wd w c q.1 sz).2
    · rw [if_pos (by omega), if_pos ⟨hwd.1, hv, c2⟩]
      congr 1
      omega
    · rw [if_neg (by omega), if_neg (fun q => c2 q.2.2)]
  · rw [if_neg (fun z => hwd ⟨z.1, (z_vb_i.mp z.2.1).2.2⟩)]
    refine z_pfn hm (fun i => z_simN hpk s2 hsN hL hbits (fun z => hwd ⟨(z_wh hkc hsN hL).mpr z.1, z.2⟩) (nI sN) i)
theorem z_fd (hcc : cc ≤ 9) (hkc : kc ≤ 6) (hk0 : 0 < kc) (hwd : wd ≤ 30) (hK : ∀ j, j < kc → ∃ t : Nat, G 2 j = nI t ∧ 1 ≤ t ∧ t ≤ 6) (hL : ∀ j, j < kc → G 3 j = -1 ∨ ∃ l, l < j ∧ G 3 j = nI l) (hsN : sN < 2 ^ kc) (ho : m_ones (nI sN) 9 = nI sz) (h1 : 1 ≤ sz) (h3 : sz ≤ 3) (hm : 1 ≤ m) (hI : m_I G cc kc q) (hT : z_T q.2.1) (hwh : p_all (p_whk (nI sN) (G 3) kc) kc = true) (b N1 : Nat → Int32) (e : Nat) (he : e ≤ m_T cc kc sz) : z_RR sz (m_fd G tc wd cc kc (nI sN) sz m q b e) (p_lp (fun i => z_sp G tc wd (nI sN) m q.1 sz (m_who cc kc sz i) (m_whe cc kc sz i)) e (41, N1)) := by
  have hp6 : 2 ^ kc ≤ 2 ^ 6 := Nat.pow_le_pow_right (by decide) hkc
  induction e with
  | zero => exact ⟨rfl, fun h => absurd (show 41 ≤ 40 from h) (by omega)⟩
  | succ e ih =>
    have i2 := ih (by omega)
    have hc0 : 0 < cc := by
      rcases Nat.eq_zero_or_pos cc with z | z
      · rw [z, m_T_0 kc h1] at he; omega
      · exact z
    rw [p_lp_s]
    obtain ⟨s, hs⟩ : ∃ s, s = p_lp (fun i => z_sp G tc wd (nI sN) m q.1 sz (m_who cc kc sz i) (m_whe cc kc sz i)) e (41, N1) := ⟨_, rfl⟩
    rw [← hs] at i2 ⊢
    obtain ⟨X, hX⟩ : ∃ X, X = m_fd G tc wd cc kc (nI sN) sz m q b e := ⟨_, rfl⟩
    rw [← hX] at i2
    obtain ⟨w, hw0⟩ : ∃ w, w = m_who cc kc sz e := ⟨_, rfl⟩
    obtain ⟨c, hc1⟩ : ∃ c, c = m_whe cc kc sz e := ⟨_, rfl⟩
    have hw : ∀ j, j < sz → w j < kc ∧ c j < cc := fun j _ => by rw [hw0, hc1]; exact ⟨m_who_lt hk0 _ _ _, m_whe_lt hc0 _ _ _⟩
    show z_RR sz (m_fd G tc wd cc kc (nI sN) sz m q b (e + 1)) (z_sp G tc wd (nI sN) m q.1 sz (m_who cc kc sz e) (m_whe cc kc sz e) s)
    rw [← hw0, ← hc1]
    by_cases hmn : m_mn w sz = nI sN
    · have hpv := z_pvs (tc := tc) hcc hkc hwd hK hL hsN ho h1 h3 hm hI hT hw hmn
      have hpv2 : m_pv G tc wd cc kc (nI sN) sz m q e = p_fi (fun h => decide ((m_ps G tc wd kc (nI sN) sz w c (p_sm q kc) h).2.2 = m)) 1 40 := by rw [hw0, hc1]; rfl
      rw [← hpv2] at hpv
      by_cases c2 : z_vb (nI sN) sz w c = true ∧ (z_fu G tc wd w c q.1 sz).1 + m - 1 ≤ (z_fu G tc wd w c q.1 sz).2
      · rw [if_pos ⟨hwh, c2⟩] at hpv
        have hun : (z_fu G tc wd w c q.1 sz).2 ≤ q.1 + 40 := z_un_m G tc wd w c q.1 (Nat.zero_le sz)
        obtain ⟨v, hv⟩ : ∃ v, v = (z_fu G tc wd w c q.1 sz).1 + m - 1 - q.1 := ⟨_, rfl⟩
        rw [← hv] at hpv
        have hv40 : v ≤ 40 := by omega
        have hcond : (X.1 = -1 ∨ nI v < X.1) ↔ v < s.1 := by
          rw [i2.1]
          by_cases c4 : 40 < s.1
          · rw [if_pos c4]; exact ⟨fun _ => by omega, fun _ => Or.inl rfl⟩
          · rw [if_neg c4, Int32.lt_iff_toInt_lt, nI_toInt (by omega), nI_toInt (by omega)]
            constructor
            · rintro (z | z)
              · exact absurd z (p_nm1 (by omega))
              · omega
            · intro z; right; omega
        by_cases c3 : v < s.1
        · rw [m_fd_y hX hpv.symm ⟨by rw [← hw0]; exact hmn, p_nm1 (by omega), hcond.mpr c3⟩]
          have e1 : z_sp G tc wd (nI sN) m q.1 sz w c s = (v, fun p => nI (w p + 10 * c p)) := by
            unfold z_sp
            rw [if_pos ⟨c2.1, c2.2, by rw [← hv]; exact c3⟩, hv]
          rw [e1]
          refine ⟨?_, fun _ p hp => ?_⟩
          · show nI v = if 40 < v then -1 else nI v
            rw [if_neg (by omega)]
          · rw [← hw0, ← hc1]
            exact z_bst _ _ _ hp
        · rw [m_fd_n hX (fun z => c3 (hcond.mp (hpv ▸ z.2.2)))]
          have e1 : z_sp G tc wd (nI sN) m q.1 sz w c s = s := if_neg (fun z => c3 (by rw [hv]; exact z.2.2))
          rw [e1]
          exact i2
      · rw [if_neg (fun z => c2 z.2)] at hpv
        rw [m_fd_n hX (fun z => z.2.1 hpv)]
        have e1 : z_sp G tc wd (nI sN) m q.1 sz w c s = s := if_neg (fun z => c2 ⟨z.1, z.2.1⟩)
        rw [e1]
        exact i2
    · rw [m_fd_n hX (fun z => hmn (by rw [hw0]; exact z.1))]
      have e1 : z_sp G tc wd (nI sN) m q.1 sz w c s = s := if_neg (fun z => hmn (by
        obtain ⟨y1, y2, _⟩ := z_vb_i.mp z.1
        exact (z_mn (sN := sN) (by omega) ho h1 h3 (w := w) (fun j hj => by have := (hw j hj).1; omega)).1.mpr ⟨y1, y2⟩))
      rw [e1]
      exact i2
theorem z_fdn (hcc : cc ≤ 9) (hkc : kc ≤ 6) (hk0 : 0 < kc) (hwd : wd ≤ 30) (hK : ∀ j, j < kc → ∃ t : Nat, G 2 j = nI t ∧ 1 ≤ t ∧ t ≤ 6) (hL : ∀ j, j < kc → G 3 j = -1 ∨ ∃ l, l < j ∧ G 3 j = nI l) (hsN : sN < 2 ^ kc) (ho : m_ones (nI sN) 9 = nI sz) (h1 : 1 ≤ sz) (h3 : sz ≤ 3) (hm : 1 ≤ m) (hI : m_I G cc kc q) (hT : z_T q.2.1) (hwh : ¬ p_all (p_whk (nI sN) (G 3) kc) kc = true) (b : Nat → Int32) (e : Nat) (he : e ≤ m_T cc kc sz) : m_fd G tc wd cc kc (nI sN) sz m q b e = (-1, b) := by
  induction e with
  | zero => rfl
  | succ e ih =>
    have hc0 : 0 < cc := by
      rcases Nat.eq_zero_or_pos cc with z | z
      · rw [z, m_T_0 kc h1] at he; omega
      · exact z
    rw [m_fd_n (ih (by omega)).symm]
    rintro ⟨z1, z2, _⟩
    apply z2
    have hpv := z_pvs (tc := tc) hcc hkc hwd hK hL hsN ho h1 h3 hm hI hT (w := m_who cc kc sz e) (c := m_whe cc kc sz e) (fun j _ => ⟨m_who_lt hk0 _ _ _, m_whe_lt hc0 _ _ _⟩) z1
    rw [if_neg (fun z => hwh z.1)] at hpv
    exact hpv
theorem z_sch (hcc : cc ≤ 9) (hkc : kc ≤ 6) (hk0 : 0 < kc) (hwd : wd ≤ 30) (hK : ∀ j, j < kc → ∃ t : Nat, G 2 j = nI t ∧ 1 ≤ t ∧ t ≤ 6) (hL : ∀ j, j < kc → G 3 j = -1 ∨ ∃ l, l < j ∧ G 3 j = nI l) (hsN : sN < 2 ^ kc) (ho : m_ones (nI sN) 9 = nI sz) (h1 : 1 ≤ sz) (h3 : sz ≤ 3) (hm : 1 ≤ m) (hI : m_I G cc kc q) (hT : z_T q.2.1) (b : Nat → Int32) (N : Nat → Nat → Int32) : z_RR sz (m_fd G tc wd cc kc (nI sN) sz m q b (m_T cc kc sz)) (p_sch G tc wd cc kc (nI sN) sz m q.1 N) := by
  unfold p_sch
  by_cases hwh : p_all (p_whk (nI sN) (G 3) kc) kc = true
  · rw [if_pos hwh]
    have a := z_fd (tc := tc) hcc hkc hk0 hwd hK hL hsN ho h1 h3 hm hI hT hwh b (N 1) (m_T cc kc sz) (Nat.le_refl _)
    have p := z_plc G tc wd cc kc hcc hkc (nI sN) m q.1 sz sz 0 0 (N 0) q.1 (q.1 + 40) (41, N 1) (41, N 1) (by omega) (fun i hi => by omega) rfl rfl ⟨rfl, fun _ _ => rfl⟩
    rw [z_all_lp] at p
    have e : (fun i => z_sp G tc wd (nI sN) m q.1 (0 + sz) (m_who cc kc (0 + sz) (0 * m_T cc kc sz + i)) (m_whe cc kc (0 + sz) (0 * m_T cc kc sz + i))) = (fun i => z_sp G tc wd (nI sN) m q.1 sz (m_who cc kc sz i) (m_whe cc kc sz i)) := by
      funext i
      rw [Nat.zero_mul, Nat.zero_add, Nat.zero_add]
    rw [e] at p
    refine ⟨?_, fun h x hx => ?_⟩
    · rw [p.1]; exact a.1
    · rw [p.2 x hx]; exact a.2 (by rw [← p.1]; exact h) x hx
  · rw [if_neg hwh, z_fdn hcc hkc hk0 hwd hK hL hsN ho h1 h3 hm hI hT hwh b _ (Nat.le_refl _)]
    exact ⟨rfl, fun h => absurd (show 41 ≤ 40 from h) (by omega)⟩
end
