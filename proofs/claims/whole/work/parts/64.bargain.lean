/-! bargain: the class's row in place against the model's table -/
theorem z_chs {E F : Nat → Int32} {set : Int32} {c : Nat} (left : Int32) (G : Nat → Nat → Int32) (kc o : Nat) (h0 : E c = F c) (n : Nat) (h : ∀ k, k < n → ¬ p_bit set (nI k) = 0 → E (c ||| 2 ^ k) = F (c ||| 2 ^ k)) : p_chs E set c left G kc o n = p_chs F set c left G kc o n := by
  induction n with
  | zero =>
    show (E c, p_sum (E c) (G o) kc) = (F c, p_sum (F c) (G o) kc)
    rw [h0]
  | succ n ih =>
    have i2 := ih (fun k hk hb => h k (by omega) hb)
    by_cases e : p_bit set (nI n) = 0
    · have e1 : p_chs E set c left G kc o (n + 1) = p_chs E set c left G kc o n := if_neg (fun q => q.1 e)
      have e2 : p_chs F set c left G kc o (n + 1) = p_chs F set c left G kc o n := if_neg (fun q => q.1 e)
      rw [e1, e2, i2]
    · simp only [p_chs]
      rw [i2, h n (by omega) e]
theorem z_inn (E : Nat → Int32) (set m : Int32) (G : Nat → Nat → Int32) (kc o : Nat) : ∀ n i, p_inn E set m G kc o n i = if i < n then p_cho E set m G kc o i else E i := by
  intro n
  induction n with
  | zero => intro i; rw [if_neg (by omega)]; rfl
  | succ n ih =>
    intro i
    show upd (p_inn E set m G kc o n) n (p_cho (p_inn E set m G kc o n) set m G kc o n) i = _
    by_cases e : i = n
    · subst e
      rw [pk_us, if_pos (by omega)]
      unfold p_cho
      rw [z_chs (E := p_inn E set m G kc o i) (F := E) _ G kc o (by rw [ih, if_neg (by omega)]) kc (fun k _ _ => by rw [ih, if_neg (by have := Nat.left_le_or (n := i) (m := 2 ^ k); omega)])]
    · rw [pk_un e, ih]
      by_cases e2 : i < n
      · rw [if_pos e2, if_pos (by omega)]
      · rw [if_neg e2, if_neg (by omega)]
theorem z_orb : ∀ s, s < 64 → ∀ k, k < 6 → ¬ p_bit (nI s) (nI k) = 0 → 2 ^ k ||| s = s := by decide +kernel
theorem z_out (E : Nat → Int32) {sN : Nat} (hs : sN < 64) (n : Nat) (m : Int32) (G : Nat → Nat → Int32) {kc : Nat} (hkc : kc ≤ 6) : ∀ j c, c ||| sN = sN → p_out E sN n m G kc j c = m_E sN n m G kc j c := by
  intro j
  induction j with
  | zero =>
    intro c hc
    have : c ≤ sN := by have := Nat.left_le_or (n := c) (m := sN); omega
    show p_ide E 64 c = nI c
    unfold p_ide
    rw [if_pos (by omega)]
  | succ j ih =>
    intro c hc
    have hle : c ≤ sN := by have := Nat.left_le_or (n := c) (m := sN); omega
    show p_inn (p_out E sN n m G kc j) (nI sN) m G kc (cond (decide ((n - (j + 1)) % 2 = 0)) 4 5) (sN + 1) c = p_cho (m_E sN n m G kc j) (nI sN) m G kc (4 + (n - (j + 1)) % 2) c
    have ho : cond (decide ((n - (j + 1)) % 2 = 0)) 4 5 = 4 + (n - (j + 1)) % 2 := by
      rcases Nat.mod_two_eq_zero_or_one (n - (j + 1)) with e | e
      · rw [e]; rfl
      · rw [e]; rfl
    rw [z_inn, if_pos (by omega), ho]
    unfold p_cho
    rw [z_chs (E := p_out E sN n m G kc j) (F := m_E sN n m G kc j) _ G kc _ (ih c hc) kc (fun k hk hb => ih _ (by rw [Nat.or_assoc, z_orb sN hs k (by omega) hb]; exact hc))]
theorem z_out0 (E : Nat → Int32) {sN : Nat} (hs : sN < 64) (n : Nat) (m : Int32) (G : Nat → Nat → Int32) {kc : Nat} (hkc : kc ≤ 6) : p_out E sN n m G kc n 0 = m_E sN n m G kc n 0 := z_out E hs n m G hkc n 0 (Nat.zero_or sN)
theorem z_bg (E : Nat → Int32) {sN : Nat} (hs : sN < 64) (n : Nat) (m : Int32) (G : Nat → Nat → Int32) {kc : Nat} (hkc : kc ≤ 6) (f : Nat → Int32) : p_sum (p_out E sN n m G kc n 0) f kc + 100 = 100 + p_sum (m_E sN n m G kc n 0) f kc := by rw [z_out0 E hs n m G hkc, Int32.add_comm]
theorem z_set {x : Int32} {kc : Nat} (hkc : kc ≤ 6) (h : p_in x ((1 : Int32) <<< (nI kc &&& 31)) = true) : ∃ j : Nat, j < 2 ^ kc ∧ j < 64 ∧ x = nI j := by
  have hp : 2 ^ kc ≤ 2 ^ 6 := Nat.pow_le_pow_right (by decide) hkc
  rw [p_sl1 kc (by omega)] at h
  obtain ⟨j, h1, h2⟩ := z_in (n := 2 ^ kc) (by omega) h
  exact ⟨j, h1, by omega, h2⟩
theorem z_x3' {x : Int32} (h : ¬ (x < 0 ∨ 2 < x)) : x = 0 ∨ x = 1 ∨ x = 2 := by
  obtain ⟨n, _, hn, rfl⟩ := z_rn z_l0 (show (2 : Int32) = nI 2 by decide +kernel) (by omega) (by omega) h
  rcases (show n = 0 ∨ n = 1 ∨ n = 2 by omega) with rfl | rfl | rfl
  · exact Or.inl (by decide +kernel)
  · exact Or.inr (Or.inl (by decide +kernel))
  · exact Or.inr (Or.inr (by decide +kernel))
theorem z_bargain (x y z o : Int32) : z_S mX10_bargain mX11_bargain [.ref 0, .int x, .int y, .int z, .int o] := by
  intro w1 w2 h
  obtain ⟨tc, wd, cc, kc, G, len, fa, T, u, dd, D, jk, J, js, v, sn, V, bn, B, hg, hX, hM⟩ := h
  have hX0 := hX
  have hM00 := hM
  obtain ⟨hgA, hln, hgS, hgV, hgB⟩ := hg
  obtain ⟨⟨htc, hcc, hkc, hwd, h0c, h0k⟩, hK, hL⟩ := hgA
  obtain ⟨⟨hI, hu⟩, hdd, hD, hJ⟩ := hgS
  obtain ⟨a, na, wt, q, T1, tb, wb, cb, kb, H, hx, s5, r1, r2, Y, nx, R, I, p8, N, E, V1, e1, hq, hT, hnx, hrg, him, hV1⟩ := hX
  obtain ⟨hd, a2, wr, M, e2, hG, hM0, hM9, ⟨t, hM10⟩, hP, hmi, hmv, hmb⟩ := hM
  rw [e1, e2]
  by_cases hin : p_in x ((1 : Int32) <<< (nI kc &&& 31)) = true
  · by_cases ho : y < 1 ∨ 6 < y ∨ z < 0 ∨ 30 < z ∨ o < 0 ∨ 2 < o
    · exact z_mk tc wd cc kc G len fa T u dd D jk J js v sn V bn B ⟨⟨⟨htc, hcc, hkc, hwd, h0c, h0k⟩, hK, hL⟩, hln, ⟨⟨hI, hu⟩, hdd, hD, hJ⟩, hgV, hgB⟩ (by omega) (by omega) ((c10_bargainO tc wd cc kc G len a na wt q T1 tb wb cb kb H u hx s5 r1 r2 Y nx dd R I p8 N E sn V1 bn B v x y z o hin ho).toP ⟨rfl, ⟨a, na, wt, q, T1, tb, wb, cb, kb, H, hx, s5, r1, r2, Y, nx, R, I, p8, N, E, V1, rfl, hq, hT, hnx, hrg, him, hV1⟩⟩) ((m_bargainO len fa hd dd v sn bn a2 wr M tc wd cc kc G hG x y z o htc hcc hkc hin ho).toP ⟨rfl, ⟨hd, a2, wr, M, rfl, hG, hM0, hM9, ⟨t, hM10⟩, hP, hmi, hmv, hmb⟩⟩)
    · obtain ⟨sN, _, hsN, rfl⟩ := z_set hkc hin
      obtain ⟨n, hn1, hn6, rfl⟩ := z_rn (k := y) z_l1 (show (6 : Int32) = nI 6 by decide +kernel) (by omega) (by omega) (fun q => ho (q.elim Or.inl (fun q => Or.inr (Or.inl q))))
      obtain ⟨m, _, hm30, rfl⟩ := z_rn (k := z) z_l0 z_l30 (by omega) (by omega) (fun q => ho (Or.inr (Or.inr (q.elim Or.inl (fun q => Or.inr (Or.inl q))))))
      rcases z_x3' (x := o) (fun q => ho (Or.inr (Or.inr (Or.inr (Or.inr q))))) with rfl | rfl | rfl
      · exact z_mk tc wd cc kc G len fa T u dd D jk J js v sn V bn B ⟨⟨⟨htc, hcc, hkc, hwd, h0c, h0k⟩, hK, hL⟩, hln, ⟨⟨hI, hu⟩, hdd, hD, hJ⟩, hgV, hgB⟩ (by omega) (by omega) ((c10_bargain0 tc wd cc kc G len a na wt q T1 tb wb cb kb H u hx s5 r1 r2 Y nx dd R I p8 N E sn V1 bn B v sN n m htc hcc hkc hin hsN hn1 hn6 hm30).imp (fun r w' h => by obtain ⟨h1, E2, rfl⟩ := h; exact ⟨h1.trans (congrArg some (z_bg (E 0) hsN n (nI m) G hkc (G 4))), ⟨a, na, wt, q, T1, tb, wb, cb, kb, H, hx, s5, r1, r2, Y, nx, R, I, p8, N, E2, V1, rfl, hq, hT, hnx, hrg, him, hV1⟩⟩)) ((m_bargain0 len fa hd dd v sn bn a2 wr M tc wd cc kc G hG sN n m htc hcc hkc hK hin hsN hn1 hn6 hm30).imp (fun r w' h => by obtain ⟨h1, f, rfl⟩ := h; exact ⟨h1, ⟨hd, a2, wr, (va_up M 20 f), rfl, (by exact hG), (by exact hM0), (by exact hM9), ⟨t, by exact hM10⟩, (by exact hP), (by exact hmi), (by exact hmv), (by exact hmb)⟩⟩))
      · exact z_mk tc wd cc kc G len fa T u dd D jk J js v sn V bn B ⟨⟨⟨htc, hcc, hkc, hwd, h0c, h0k⟩, hK, hL⟩, hln, ⟨⟨hI, hu⟩, hdd, hD, hJ⟩, hgV, hgB⟩ (by omega) (by omega) ((c10_bargain1 tc wd cc kc G len a na wt q T1 tb wb cb kb H u hx s5 r1 r2 Y nx dd R I p8 N E sn V1 bn B v sN n m htc hcc hkc hin hsN hn1 hn6 hm30).imp (fun r w' h => by obtain ⟨h1, E2, rfl⟩ := h; exact ⟨h1.trans (congrArg some (z_bg (E 0) hsN n (nI m) G hkc (G 5))), ⟨a, na, wt, q, T1, tb, wb, cb, kb, H, hx, s5, r1, r2, Y, nx, R, I, p8, N, E2, V1, rfl, hq, hT, hnx, hrg, him, hV1⟩⟩)) ((m_bargain1 len fa hd dd v sn bn a2 wr M tc wd cc kc G hG sN n m htc hcc hkc hK hin hsN hn1 hn6 hm30).imp (fun r w' h => by obtain ⟨h1, f, rfl⟩ := h; exact ⟨h1, ⟨hd, a2, wr, (va_up M 20 f), rfl, (by exact hG), (by exact hM0), (by exact hM9), ⟨t, by exact hM10⟩, (by exact hP), (by exact hmi), (by exact hmv), (by exact hmb)⟩⟩))
      · exact z_mk tc wd cc kc G len fa T u dd D jk J js v sn V bn B ⟨⟨⟨htc, hcc, hkc, hwd, h0c, h0k⟩, hK, hL⟩, hln, ⟨⟨hI, hu⟩, hdd, hD, hJ⟩, hgV, hgB⟩ (by omega) (by omega) ((c10_bargain2 tc wd cc kc G len a na wt q T1 tb wb cb kb H u hx s5 r1 r2 Y nx dd R I p8 N E sn V1 bn B v sN n m htc hcc hkc hin hsN hn1 hn6 hm30).imp (fun r w' h => by obtain ⟨h1, E2, rfl⟩ := h; exact ⟨h1.trans (congrArg some (z_out0 (E 0) hsN n (nI m) G hkc)), ⟨a, na, wt, q, T1, tb, wb, cb, kb, H, hx, s5, r1, r2, Y, nx, R, I, p8, N, E2, V1, rfl, hq, hT, hnx, hrg, him, hV1⟩⟩)) ((m_bargain2 len fa hd dd v sn bn a2 wr M tc wd cc kc G hG sN n m htc hcc hkc hK hin hsN hn1 hn6 hm30).imp (fun r w' h => by obtain ⟨h1, f, rfl⟩ := h; exact ⟨h1, ⟨hd, a2, wr, (va_up M 20 f), rfl, (by exact hG), (by exact hM0), (by exact hM9), ⟨t, by exact hM10⟩, (by exact hP), (by exact hmi), (by exact hmv), (by exact hmb)⟩⟩))
  · have hn : p_in x ((1 : Int32) <<< (nI kc &&& 31)) = false := by simpa using hin
    exact z_mk tc wd cc kc G len fa T u dd D jk J js v sn V bn B ⟨⟨⟨htc, hcc, hkc, hwd, h0c, h0k⟩, hK, hL⟩, hln, ⟨⟨hI, hu⟩, hdd, hD, hJ⟩, hgV, hgB⟩ (by omega) (by omega) ((c10_bargainU tc wd cc kc G len a na wt q T1 tb wb cb kb H u hx s5 r1 r2 Y nx dd R I p8 N E sn V1 bn B v x y z o hn).toP ⟨rfl, ⟨a, na, wt, q, T1, tb, wb, cb, kb, H, hx, s5, r1, r2, Y, nx, R, I, p8, N, E, V1, rfl, hq, hT, hnx, hrg, him, hV1⟩⟩) ((m_bargainU len fa hd dd v sn bn a2 wr M tc wd cc kc G hG x y z o htc hcc hkc hn).toP ⟨rfl, ⟨hd, a2, wr, M, rfl, hG, hM0, hM9, ⟨t, hM10⟩, hP, hmi, hmv, hmb⟩⟩)
