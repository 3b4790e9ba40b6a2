/-! plan: the call -/
theorem z_k0 {sN sz kc : Nat} (hs : sN < 2 ^ kc) (ho : m_ones (nI sN) 9 = nI sz) (h1 : 1 ≤ sz) (h3 : sz ≤ 3) : 0 < kc := by
  rcases Nat.eq_zero_or_pos kc with e | e
  · exfalso
    rw [e] at hs
    rw [show sN = 0 by omega, show m_ones (nI 0) 9 = nI 0 by decide +kernel] at ho
    exact absurd (z_ne (by omega) (by omega) ho) (by omega)
  · exact e
theorem z_pa1 {sz : Nat} {x : Int32 × (Nat → Int32)} {s : p_S} (h : z_RR sz x s) : m_pa x sz (-1) = if 40 < s.1 then -1 else nI s.1 := by
  unfold m_pa
  rw [if_pos (Or.inl rfl), h.1]
theorem z_pa2 {sz : Nat} {x : Int32 × (Nat → Int32)} {s : p_S} (h : z_RR sz x s) (hs : 40 < s.1) (i : Int32) : m_pa x sz i = -1 := by
  have h1 := h.1
  rw [if_pos hs] at h1
  unfold m_pa
  rw [if_pos (Or.inr h1), h1]
theorem z_pa3 {sz : Nat} {x : Int32 × (Nat → Int32)} {s : p_S} (h : z_RR sz x s) (hs : s.1 ≤ 40) {n : Nat} (hn : n < sz) (h3 : sz ≤ 3) (hm : m_in (nI n) 0 (nI sz - 1) = true) : m_pa x sz (nI n) = s.2 n := by
  have h1 := h.1
  rw [if_neg (by omega)] at h1
  unfold m_pa
  rw [if_neg (fun z => z.elim (p_nm1 (by omega)) (fun z => p_nm1 (by omega) (h1.symm.trans z))), if_pos hm, nI_clamp (by omega)]
  exact h.2 hs n hn
theorem z_pa4 {sz : Nat} {x : Int32 × (Nat → Int32)} {s : p_S} (h : z_RR sz x s) (hs : s.1 ≤ 40) {i : Int32} (hi : ¬ i = -1) (hm : ¬ m_in i 0 (nI sz - 1) = true) : m_pa x sz i = -1 := by
  have h1 := h.1
  rw [if_neg (by omega)] at h1
  unfold m_pa
  rw [if_neg (fun z => z.elim hi (fun z => p_nm1 (by omega) (h1.symm.trans z))), if_neg hm]
theorem z_bc3 {x : Nat} (hx : x < 64) (h : ¬ (p_bc (nI x) < 1 ∨ 3 < p_bc (nI x))) : ∃ sz, 1 ≤ sz ∧ sz ≤ 3 ∧ p_bc (nI x) = nI sz ∧ m_ones (nI x) 9 = nI sz := by
  obtain ⟨j, h1, h2, h3⟩ := z_rn z_l1 (show (3 : Int32) = nI 3 by decide +kernel) (by omega) (by omega) h
  exact ⟨j, h1, h2, h3, (z_bc9 x hx).symm.trans h3⟩
theorem z_nin {i : Int32} {sz : Nat} (h3 : sz ≤ 3) (h1 : 1 ≤ sz) (h : ¬ m_in i 0 (nI sz - 1) = true) : i < 0 ∨ nI sz ≤ i := by
  rw [m_in_p (by omega)] at h
  unfold p_in at h
  rw [Bool.and_eq_true, Bool.not_eq_true', Bool.not_eq_true', decide_eq_false_iff_not, decide_eq_false_iff_not] at h
  by_cases e : i < 0
  · exact Or.inl e
  · right
    exact Classical.byContradiction (fun z => h ⟨e, z⟩)
theorem z_plan (x y i : Int32) : z_S mX10_plan mX11_plan [.ref 0, .int x, .int y, .int i] := by
  intro w1 w2 h
  obtain ⟨tc, wd, cc, kc, G, len, fa, T, u, dd, D, jk, J, js, v, sn, V, bn, B, hg, hX, hM⟩ := h
  have hX0 := hX
  have hM00 := hM
  obtain ⟨hgA, hln, hgS, hgV, hgB⟩ := hg
  obtain ⟨⟨htc, hcc, hkc, hwd, h0c, h0k⟩, hK, hL⟩ := hgA
  obtain ⟨⟨hI, hu⟩, hdd, hD, hJ⟩ := hgS
  obtain ⟨a, na, wt, q, T1, tb, wb, cb, kb, H, hx, s5, r1, r2, Y, nx, R, I, p8, N, E, V1, e1, hq, hT, hnx, hrg, him, hV1⟩ := hX
  obtain ⟨hd, a2, wr, M, e2, hG, hM0, hM9, ⟨t, hM10⟩, hP, hmi, hmv, hmb⟩ := hM
  rw [e1, e2]
  by_cases hin : p_in x ((1 : Int32) <<< (nI kc &&& 31)) = true
  · obtain ⟨sN, hs2, hsN, rfl⟩ := z_set hkc hin
    by_cases ho : p_bc (nI sN) < 1 ∨ 3 < p_bc (nI sN) ∨ y < 1 ∨ 12 < y
    · have ho2 : y < 1 ∨ 12 < y ∨ m_ones (nI sN) 9 < 1 ∨ 3 < m_ones (nI sN) 9 := by
        rw [← z_bc9 sN hsN]
        rcases ho with z | z | z | z
        · exact Or.inr (Or.inr (Or.inl z))
        · exact Or.inr (Or.inr (Or.inr z))
        · exact Or.inl z
        · exact Or.inr (Or.inl z)
      exact z_mk tc wd cc kc G len fa T u dd D jk J js v sn V bn B ⟨⟨⟨htc, hcc, hkc, hwd, h0c, h0k⟩, hK, hL⟩, hln, ⟨⟨hI, hu⟩, hdd, hD, hJ⟩, hgV, hgB⟩ (by omega) (by omega) ((c10_planO tc wd cc kc G len a na wt q T1 tb wb cb kb H u hx s5 r1 r2 Y nx dd R I p8 N E sn V1 bn B v (nI sN) y i hin ho).toP ⟨rfl, ⟨a, na, wt, q, T1, tb, wb, cb, kb, H, hx, s5, r1, r2, Y, nx, R, I, p8, N, E, V1, rfl, hq, hT, hnx, hrg, him, hV1⟩⟩) ((m_planO len fa hd dd v sn bn a2 wr M tc wd cc kc G hG (nI sN) y i htc hcc hkc hin ho2).toP ⟨rfl, ⟨hd, a2, wr, M, rfl, hG, hM0, hM9, ⟨t, hM10⟩, hP, hmi, hmv, hmb⟩⟩)
    · obtain ⟨sz, hs1, hs3, hbc, hon⟩ := z_bc3 hsN (fun z => ho (z.elim Or.inl (fun z => Or.inr (Or.inl z))))
      obtain ⟨m, hm1, hm12, rfl⟩ := z_rn (k := y) z_l1 (show (12 : Int32) = nI 12 by decide +kernel) (by omega) (by omega) (fun z => ho (Or.inr (Or.inr z)))
      have hk0 := z_k0 hs2 hon hs1 hs3
      have hRR := z_sch (tc := tc) hcc hkc hk0 hwd hK hL hs2 hon hs1 hs3 hm1 hI hu.2 (M 19) N
      by_cases hi1 : i = -1
      · subst hi1
        exact z_mk tc wd cc kc G len fa T u dd D jk J js v sn V bn B ⟨⟨⟨htc, hcc, hkc, hwd, h0c, h0k⟩, hK, hL⟩, hln, ⟨⟨hI, hu⟩, hdd, hD, hJ⟩, hgV, hgB⟩ (by omega) (by omega) ((c10_planS tc wd cc kc G len a na wt q T1 tb wb cb kb H u hx s5 r1 r2 Y nx dd R I p8 N E sn V1 bn B v (nI sN) sz m  htc hcc hkc (by omega) hwd (fun k hk => by obtain ⟨t0, x1, x2, x3⟩ := hK k hk; exact ⟨t0, x2, x3, x1⟩) hin hbc hs1 hs3 hm1 hm12 ).imp (fun r w' h => by obtain ⟨h1, p82, N2, rfl⟩ := h; exact ⟨h1, ⟨a, na, wt, q, T1, tb, wb, cb, kb, H, hx, s5, r1, r2, Y, nx, R, I, p82, N2, E, V1, rfl, hq, hT, hnx, hrg, him, hV1⟩⟩)) ((m_plan len fa hd dd v sn bn a2 wr M tc wd cc kc G hG u hM9 t hM10 sN sz m (-1) htc hcc hkc (by omega) h0c h0k hI hin hon hs1 hs3 hm1 hm12 hk0).imp (fun r w' h => by obtain ⟨h1, f2, w2, t2, b2, rfl⟩ := h; exact ⟨h1.trans (congrArg some (z_pa1 hRR)), ⟨hd, a2, wr, (va_up (va_up (va_up (va_up M 17 f2) 18 w2) 10 (en t2)) 19 b2), rfl, (by exact hG), (by exact hM0), (by exact hM9), ⟨t2, rfl⟩, (by exact hP), (by exact hmi), (by exact hmv), (by exact hmb)⟩⟩))
      · by_cases h40 : 40 < (p_sch G tc wd cc kc (nI sN) sz m u.1 N).1
        · exact z_mk tc wd cc kc G len fa T u dd D jk J js v sn V bn B ⟨⟨⟨htc, hcc, hkc, hwd, h0c, h0k⟩, hK, hL⟩, hln, ⟨⟨hI, hu⟩, hdd, hD, hJ⟩, hgV, hgB⟩ (by omega) (by omega) ((c10_planPO tc wd cc kc G len a na wt q T1 tb wb cb kb H u hx s5 r1 r2 Y nx dd R I p8 N E sn V1 bn B v (nI sN) sz m i htc hcc hkc (by omega) hwd (fun k hk => by obtain ⟨t0, x1, x2, x3⟩ := hK k hk; exact ⟨t0, x2, x3, x1⟩) hin hbc hs1 hs3 hm1 hm12 hi1 (Or.inl h40)).imp (fun r w' h => by obtain ⟨h1, p82, N2, rfl⟩ := h; exact ⟨h1, ⟨a, na, wt, q, T1, tb, wb, cb, kb, H, hx, s5, r1, r2, Y, nx, R, I, p82, N2, E, V1, rfl, hq, hT, hnx, hrg, him, hV1⟩⟩)) ((m_plan len fa hd dd v sn bn a2 wr M tc wd cc kc G hG u hM9 t hM10 sN sz m i htc hcc hkc (by omega) h0c h0k hI hin hon hs1 hs3 hm1 hm12 hk0).imp (fun r w' h => by obtain ⟨h1, f2, w2, t2, b2, rfl⟩ := h; exact ⟨h1.trans (congrArg some (z_pa2 hRR h40 i)), ⟨hd, a2, wr, (va_up (va_up (va_up (va_up M 17 f2) 18 w2) 10 (en t2)) 19 b2), rfl, (by exact hG), (by exact hM0), (by exact hM9), ⟨t2, rfl⟩, (by exact hP), (by exact hmi), (by exact hmv), (by exact hmb)⟩⟩))
        · by_cases hmi2 : m_in i 0 (nI sz - 1) = true
          · obtain ⟨n, hn, rfl⟩ := m_in_nat hmi2 hs3
            exact z_mk tc wd cc kc G len fa T u dd D jk J js v sn V bn B ⟨⟨⟨htc, hcc, hkc, hwd, h0c, h0k⟩, hK, hL⟩, hln, ⟨⟨hI, hu⟩, hdd, hD, hJ⟩, hgV, hgB⟩ (by omega) (by omega) ((c10_planPI tc wd cc kc G len a na wt q T1 tb wb cb kb H u hx s5 r1 r2 Y nx dd R I p8 N E sn V1 bn B v (nI sN) sz m n htc hcc hkc (by omega) hwd (fun k hk => by obtain ⟨t0, x1, x2, x3⟩ := hK k hk; exact ⟨t0, x2, x3, x1⟩) hin hbc hs1 hs3 hm1 hm12 (by omega) hn).imp (fun r w' h => by obtain ⟨h1, p82, N2, rfl⟩ := h; exact ⟨h1, ⟨a, na, wt, q, T1, tb, wb, cb, kb, H, hx, s5, r1, r2, Y, nx, R, I, p82, N2, E, V1, rfl, hq, hT, hnx, hrg, him, hV1⟩⟩)) ((m_plan len fa hd dd v sn bn a2 wr M tc wd cc kc G hG u hM9 t hM10 sN sz m (nI n) htc hcc hkc (by omega) h0c h0k hI hin hon hs1 hs3 hm1 hm12 hk0).imp (fun r w' h => by obtain ⟨h1, f2, w2, t2, b2, rfl⟩ := h; exact ⟨h1.trans (congrArg some (z_pa3 hRR (by omega) hn hs3 hmi2)), ⟨hd, a2, wr, (va_up (va_up (va_up (va_up M 17 f2) 18 w2) 10 (en t2)) 19 b2), rfl, (by exact hG), (by exact hM0), (by exact hM9), ⟨t2, rfl⟩, (by exact hP), (by exact hmi), (by exact hmv), (by exact hmb)⟩⟩))
          · exact z_mk tc wd cc kc G len fa T u dd D jk J js v sn V bn B ⟨⟨⟨htc, hcc, hkc, hwd, h0c, h0k⟩, hK, hL⟩, hln, ⟨⟨hI, hu⟩, hdd, hD, hJ⟩, hgV, hgB⟩ (by omega) (by omega) ((c10_planPO tc wd cc kc G len a na wt q T1 tb wb cb kb H u hx s5 r1 r2 Y nx dd R I p8 N E sn V1 bn B v (nI sN) sz m i htc hcc hkc (by omega) hwd (fun k hk => by obtain ⟨t0, x1, x2, x3⟩ := hK k hk; exact ⟨t0, x2, x3, x1⟩) hin hbc hs1 hs3 hm1 hm12 hi1 (Or.inr (z_nin hs3 hs1 hmi2))).imp (fun r w' h => by obtain ⟨h1, p82, N2, rfl⟩ := h; exact ⟨h1, ⟨a, na, wt, q, T1, tb, wb, cb, kb, H, hx, s5, r1, r2, Y, nx, R, I, p82, N2, E, V1, rfl, hq, hT, hnx, hrg, him, hV1⟩⟩)) ((m_plan len fa hd dd v sn bn a2 wr M tc wd cc kc G hG u hM9 t hM10 sN sz m i htc hcc hkc (by omega) h0c h0k hI hin hon hs1 hs3 hm1 hm12 hk0).imp (fun r w' h => by obtain ⟨h1, f2, w2, t2, b2, rfl⟩ := h; exact ⟨h1.trans (congrArg some (z_pa4 hRR (by omega) hi1 hmi2)), ⟨hd, a2, wr, (va_up (va_up (va_up (va_up M 17 f2) 18 w2) 10 (en t2)) 19 b2), rfl, (by exact hG), (by exact hM0), (by exact hM9), ⟨t2, rfl⟩, (by exact hP), (by exact hmi), (by exact hmv), (by exact hmb)⟩⟩))
  · have hn : p_in x ((1 : Int32) <<< (nI kc &&& 31)) = false := by simpa using hin
    exact z_mk tc wd cc kc G len fa T u dd D jk J js v sn V bn B ⟨⟨⟨htc, hcc, hkc, hwd, h0c, h0k⟩, hK, hL⟩, hln, ⟨⟨hI, hu⟩, hdd, hD, hJ⟩, hgV, hgB⟩ (by omega) (by omega) ((c10_planU tc wd cc kc G len a na wt q T1 tb wb cb kb H u hx s5 r1 r2 Y nx dd R I p8 N E sn V1 bn B v x y i hn).toP ⟨rfl, ⟨a, na, wt, q, T1, tb, wb, cb, kb, H, hx, s5, r1, r2, Y, nx, R, I, p8, N, E, V1, rfl, hq, hT, hnx, hrg, him, hV1⟩⟩) ((m_planU len fa hd dd v sn bn a2 wr M tc wd cc kc G hG x y i htc hcc hkc hn).toP ⟨rfl, ⟨hd, a2, wr, M, rfl, hG, hM0, hM9, ⟨t, hM10⟩, hP, hmi, hmv, hmb⟩⟩)
