/-! agreed, lookAt -/
theorem z_gV_1 {sn : Nat} {V V1 : Nat → Nat → Int32} (h : z_gV sn V) (e : ∀ i, i < 3 → V1 i = V i) : z_gV sn V1 := by
  unfold z_gV at h ⊢
  rw [e 0 (by omega), e 1 (by omega), e 2 (by omega)]
  exact h
theorem z_so_1 {V V1 : Nat → Nat → Int32} (e : ∀ i, i < 3 → V1 i = V i) (G : Nat → Nat → Int32) (tc wd cc kc b n : Nat) : m_so V1 G tc wd cc kc b n = m_so V G tc wd cc kc b n := by
  unfold m_so
  rw [e 0 (by omega), e 1 (by omega), e 2 (by omega)]
theorem z_bs_1 {sn : Nat} {V V1 : Nat → Nat → Int32} (h : z_gV sn V) (e : ∀ i, i < 3 → V1 i = V i) (G : Nat → Nat → Int32) (tc wd cc kc : Nat) : p_fit V1 sn G tc wd cc kc = (fun b => m_so V G tc wd cc kc b sn) := by
  funext b
  rw [z_fit (z_gV_1 h e), z_so_1 e]
theorem z_x3 {x : Int32} (h : ¬ (x < 0 ∨ 2 < x)) : x = 0 ∨ x = 1 ∨ x = 2 := by
  obtain ⟨n, _, hn, rfl⟩ := z_rn z_l0 (show (2 : Int32) = nI 2 by decide +kernel) (by omega) (by omega) h
  rcases (show n = 0 ∨ n = 1 ∨ n = 2 by omega) with rfl | rfl | rfl
  · exact Or.inl (by decide +kernel)
  · exact Or.inr (Or.inl (by decide +kernel))
  · exact Or.inr (Or.inr (by decide +kernel))
theorem z_bs12 (P : Nat → Bool) (tc : Nat) : ∃ y : Nat, y < 4096 ∧ p_bs P (if tc = 0 then 0 else 12) = nI y := by
  by_cases e : tc = 0
  · rw [if_pos e]; obtain ⟨y, hy, h⟩ := z_bs P (n := 0) (by omega); exact ⟨y, by omega, h⟩
  · rw [if_neg e]; obtain ⟨y, hy, h⟩ := z_bs P (n := 12) (by omega); exact ⟨y, by omega, h⟩
theorem z_ag0 (P : Nat → Bool) (tc : Nat) : p_bc (p_bs P (if tc = 0 then 0 else 12)) = m_ones (p_bs P (if tc = 0 then 0 else 12)) 12 := by
  obtain ⟨y, hy, h⟩ := z_bs12 P tc
  rw [h]; exact z_bc hy
theorem z_ag1 (P : Nat → Bool) (tc : Nat) : (if p_bs P (if tc = 0 then 0 else 12) = 0 then -1 else p_ntz (p_bs P (if tc = 0 then 0 else 12))) = m_fb (p_bs P (if tc = 0 then 0 else 12)) 12 := by
  obtain ⟨y, hy, h⟩ := z_bs12 P tc
  rw [h]; exact z_tz hy
theorem z_hV1 {sn : Nat} {V V1 : Nat → Nat → Int32} (h : z_gV sn V) (e : ∀ i, i < 3 → V1 i = V i) : ∀ i, i < sn → ∃ x : Nat, x ≤ 60 ∧ V1 1 i = nI x := fun i hi => by
  obtain ⟨k, h, z, a1, a2, a3, a4, a5⟩ := h.2 i hi
  exact ⟨h, a2, by rw [e 1 (by omega)]; exact a4⟩
theorem z_hVm {sn : Nat} {V M : Nat → Nat → Int32} (h : z_gV sn V) (hmv : z_mv M sn V) : ∀ i, i < sn → ∃ (k h : Nat) (z : Bool), k < 6 ∧ h ≤ 60 ∧ M 15 (3 * i) = nI k ∧ M 15 ((3 * i) + 1) = nI h ∧ M 15 ((3 * i) + 2) = rr_b z ∧ V 0 i = nI k ∧ V 1 i = nI h ∧ V 2 i = rr_b z := fun i hi => by
  obtain ⟨k, h, z, a1, a2, a3, a4, a5⟩ := h.2 i hi
  obtain ⟨b1, b2, b3⟩ := hmv i hi
  exact ⟨k, h, z, a1, a2, b1.trans a3, b2.trans a4, b3.trans a5, a3, a4, a5⟩
theorem z_agreed (x : Int32) : z_S mX10_agreed mX11_agreed [.ref 0, .int x] := by
  intro w1 w2 h
  obtain ⟨tc, wd, cc, kc, G, len, fa, T, u, dd, D, jk, J, js, v, sn, V, bn, B, hg, hX, hM⟩ := h
  have hX0 := hX
  have hM00 := hM
  obtain ⟨hgA, hln, hgS, hgV, hgB⟩ := hg
  obtain ⟨⟨htc, hcc, hkc, hwd, h0c, h0k⟩, hK, hL⟩ := hgA
  obtain ⟨⟨hI, hu⟩, hdd, hD, hJ⟩ := hgS
  obtain ⟨a, na, wt, q, T1, tb, wb, cb, kb, H, hx, s5, r1, r2, Y, nx, R, I, p8, N, E, V1, e1, hq, hT, hnx, hrg, him, hV1⟩ := hX
  obtain ⟨hd, a2, wr, M, e2, hG, hM0, hM9, ⟨t, hM10⟩, hP, hmi, hmv, hmb⟩ := hM
  rw [e1, e2]
  by_cases hxx : x < 0 ∨ 2 < x
  · exact z_mk tc wd cc kc G len fa T u dd D jk J js v sn V bn B ⟨⟨⟨htc, hcc, hkc, hwd, h0c, h0k⟩, hK, hL⟩, hln, ⟨⟨hI, hu⟩, hdd, hD, hJ⟩, hgV, hgB⟩ (by omega) (by omega) ((c10_agreedO tc wd cc kc G len a na wt q T1 tb wb cb kb H u hx s5 r1 r2 Y nx dd R I p8 N E sn V1 bn B v x hxx).toP ⟨rfl, ⟨a, na, wt, q, T1, tb, wb, cb, kb, H, hx, s5, r1, r2, Y, nx, R, I, p8, N, E, V1, rfl, hq, hT, hnx, hrg, him, hV1⟩⟩) ((m_agreedO len fa hd dd v sn bn a2 wr M tc wd cc kc G hG x hxx).toP ⟨rfl, ⟨hd, a2, wr, M, rfl, hG, hM0, hM9, ⟨t, hM10⟩, hP, hmi, hmv, hmb⟩⟩)
  · rcases z_x3 hxx with rfl | rfl | rfl
    · exact z_mk tc wd cc kc G len fa T u dd D jk J js v sn V bn B ⟨⟨⟨htc, hcc, hkc, hwd, h0c, h0k⟩, hK, hL⟩, hln, ⟨⟨hI, hu⟩, hdd, hD, hJ⟩, hgV, hgB⟩ (by omega) (by omega) ((c10_agreed0 tc wd cc kc G len a na wt q T1 tb wb cb kb H u hx s5 r1 r2 Y nx dd R I p8 N E sn V1 bn B v htc hcc hkc hgV.1 (z_hV1 hgV hV1)).imp (fun r w' h => by obtain ⟨h1, hx2, s52, r12, r22, Y2, rfl⟩ := h; exact ⟨h1.trans (by rw [z_bs_1 hgV hV1, z_ag0]), ⟨a, na, wt, q, T1, tb, wb, cb, kb, H, hx2, s52, r12, r22, Y2, nx, R, I, p8, N, E, V1, rfl, hq, hT, hnx, hrg, him, hV1⟩⟩)) ((m_agreed0 len fa hd dd v sn bn a2 wr M tc wd cc kc G hG t hM10 V htc hcc hkc h0c h0k hK hgV.1 (z_hVm hgV hmv)).imp (fun r w' h => by obtain ⟨h1, t2, rfl⟩ := h; exact ⟨h1, ⟨hd, a2, wr, (va_up M 10 (en t2)), rfl, (by exact hG), (by exact hM0), (by exact hM9), ⟨t2, rfl⟩, (by exact hP), (by exact hmi), (by exact hmv), (by exact hmb)⟩⟩))
    · exact z_mk tc wd cc kc G len fa T u dd D jk J js v sn V bn B ⟨⟨⟨htc, hcc, hkc, hwd, h0c, h0k⟩, hK, hL⟩, hln, ⟨⟨hI, hu⟩, hdd, hD, hJ⟩, hgV, hgB⟩ (by omega) (by omega) ((c10_agreed1 tc wd cc kc G len a na wt q T1 tb wb cb kb H u hx s5 r1 r2 Y nx dd R I p8 N E sn V1 bn B v htc hcc hkc hgV.1 (z_hV1 hgV hV1)).imp (fun r w' h => by obtain ⟨h1, hx2, s52, r12, r22, Y2, rfl⟩ := h; exact ⟨h1.trans (by rw [z_bs_1 hgV hV1, z_ag1]), ⟨a, na, wt, q, T1, tb, wb, cb, kb, H, hx2, s52, r12, r22, Y2, nx, R, I, p8, N, E, V1, rfl, hq, hT, hnx, hrg, him, hV1⟩⟩)) ((m_agreed1 len fa hd dd v sn bn a2 wr M tc wd cc kc G hG t hM10 V htc hcc hkc h0c h0k hK hgV.1 (z_hVm hgV hmv)).imp (fun r w' h => by obtain ⟨h1, t2, rfl⟩ := h; exact ⟨h1, ⟨hd, a2, wr, (va_up M 10 (en t2)), rfl, (by exact hG), (by exact hM0), (by exact hM9), ⟨t2, rfl⟩, (by exact hP), (by exact hmi), (by exact hmv), (by exact hmb)⟩⟩))
    · exact z_mk tc wd cc kc G len fa T u dd D jk J js v sn V bn B ⟨⟨⟨htc, hcc, hkc, hwd, h0c, h0k⟩, hK, hL⟩, hln, ⟨⟨hI, hu⟩, hdd, hD, hJ⟩, hgV, hgB⟩ (by omega) (by omega) ((c10_agreed2 tc wd cc kc G len a na wt q T1 tb wb cb kb H u hx s5 r1 r2 Y nx dd R I p8 N E sn V1 bn B v htc hcc hkc hgV.1 (z_hV1 hgV hV1)).imp (fun r w' h => by obtain ⟨h1, hx2, s52, r12, r22, Y2, rfl⟩ := h; exact ⟨h1.trans (by rw [z_bs_1 hgV hV1]), ⟨a, na, wt, q, T1, tb, wb, cb, kb, H, hx2, s52, r12, r22, Y2, nx, R, I, p8, N, E, V1, rfl, hq, hT, hnx, hrg, him, hV1⟩⟩)) ((m_agreed2 len fa hd dd v sn bn a2 wr M tc wd cc kc G hG t hM10 V htc hcc hkc h0c h0k hK hgV.1 (z_hVm hgV hmv)).imp (fun r w' h => by obtain ⟨h1, t2, rfl⟩ := h; exact ⟨h1, ⟨hd, a2, wr, (va_up M 10 (en t2)), rfl, (by exact hG), (by exact hM0), (by exact hM9), ⟨t2, rfl⟩, (by exact hP), (by exact hmi), (by exact hmv), (by exact hmb)⟩⟩))
theorem z_lookAt (x : Int32) : z_S mX10_lookAt mX11_lookAt [.ref 0, .int x] := by
  intro w1 w2 h
  obtain ⟨tc, wd, cc, kc, G, len, fa, T, u, dd, D, jk, J, js, v, sn, V, bn, B, hg, hX, hM⟩ := h
  have hX0 := hX
  have hM00 := hM
  obtain ⟨hgA, hln, hgS, hgV, hgB⟩ := hg
  obtain ⟨⟨htc, hcc, hkc, hwd, h0c, h0k⟩, hK, hL⟩ := hgA
  obtain ⟨⟨hI, hu⟩, hdd, hD, hJ⟩ := hgS
  obtain ⟨a, na, wt, q, T1, tb, wb, cb, kb, H, hx, s5, r1, r2, Y, nx, R, I, p8, N, E, V1, e1, hq, hT, hnx, hrg, him, hV1⟩ := hX
  obtain ⟨hd, a2, wr, M, e2, hG, hM0, hM9, ⟨t, hM10⟩, hP, hmi, hmv, hmb⟩ := hM
  rw [e1, e2]
  by_cases hxx : x < 0 ∨ 60 < x
  · exact z_mk tc wd cc kc G len fa T u dd D jk J js v sn V bn B ⟨⟨⟨htc, hcc, hkc, hwd, h0c, h0k⟩, hK, hL⟩, hln, ⟨⟨hI, hu⟩, hdd, hD, hJ⟩, hgV, hgB⟩ (by omega) (by omega) ((c10_lookAtO tc wd cc kc G len a na wt q T1 tb wb cb kb H u hx s5 r1 r2 Y nx dd R I p8 N E sn V1 bn B v x hxx).toP ⟨rfl, ⟨a, na, wt, q, T1, tb, wb, cb, kb, H, hx, s5, r1, r2, Y, nx, R, I, p8, N, E, V1, rfl, hq, hT, hnx, hrg, him, hV1⟩⟩) ((m_lookAtO len fa hd dd v sn bn a2 wr M tc wd cc kc G hG x hxx).toP ⟨rfl, ⟨hd, a2, wr, M, rfl, hG, hM0, hM9, ⟨t, hM10⟩, hP, hmi, hmv, hmb⟩⟩)
  · obtain ⟨n, _, hn, rfl⟩ := z_rn z_l0 (show (60 : Int32) = nI 60 by decide +kernel) (by omega) (by omega) hxx
    exact z_mk tc wd cc kc G len fa T u dd D jk J js v sn V bn B ⟨⟨⟨htc, hcc, hkc, hwd, h0c, h0k⟩, hK, hL⟩, hln, ⟨⟨hI, hu⟩, hdd, hD, hJ⟩, hgV, hgB⟩ (by omega) (by omega) ((c10_lookAt tc wd cc kc G len a na wt q T1 tb wb cb kb H u hx s5 r1 r2 Y nx dd R I p8 N E sn V1 bn B v n htc hcc hkc hgV.1 (z_hV1 hgV hV1) hn).imp (fun r w' h => by obtain ⟨h1, hx2, s52, r12, r22, Y2, V2, hV2, rfl⟩ := h; exact ⟨h1.trans (by rw [z_bs_1 hgV hV1, z_look _ _ _ _ hkc, z_ag0]), ⟨a, na, wt, q, T1, tb, wb, cb, kb, H, hx2, s52, r12, r22, Y2, nx, R, I, p8, N, E, V2, rfl, hq, hT, hnx, hrg, him, (fun i hi => (hV2 i hi).trans (hV1 i hi))⟩⟩)) ((m_lookAt len fa hd dd v sn bn a2 wr M tc wd cc kc G hG t hM10 V n htc hcc hkc h0c h0k hK hgV.1 (z_hVm hgV hmv) hn).imp (fun r w' h => by obtain ⟨h1, t2, rfl⟩ := h; exact ⟨h1, ⟨hd, a2, wr, (va_up M 10 (en t2)), rfl, (by exact hG), (by exact hM0), (by exact hM9), ⟨t2, rfl⟩, (by exact hP), (by exact hmi), (by exact hmv), (by exact hmb)⟩⟩))
