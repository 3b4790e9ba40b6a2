/-! deeds and images -/
theorem z_ref {x : Int32} {tc h : Nat} (hh : h < 100000) (e : p_ref x tc h = 0) : 0 < tc ∧ h ≤ 9000 ∧ ∃ n : Nat, 1 ≤ n ∧ n ≤ 30 ∧ x = nI n := by
  unfold p_ref at e
  by_cases a : x < 1 ∨ 30 < x
  · rw [if_pos a] at e; exact absurd e (by decide)
  · rw [if_neg a] at e
    by_cases b : tc = 0
    · rw [if_pos b] at e; exact absurd e (by decide)
    · rw [if_neg b] at e
      by_cases c : 9000 < h
      · rw [if_pos c] at e; exact absurd e (by decide)
      · obtain ⟨n, h1, h2, h3⟩ := z_rn z_l1 z_l30 (by omega) (by omega) a
        exact ⟨by omega, by omega, n, h1, h2, h3⟩
theorem z_write (k c : Int32) : z_S mX10_write mX11_write [.ref 0, .int k, .int c] := by
  intro w1 w2 h
  obtain ⟨tc, wd, cc, kc, G, len, fa, T, u, dd, D, jk, J, js, v, sn, V, bn, B, hg, hX, hM⟩ := h
  have hX0 := hX
  have hM00 := hM
  obtain ⟨hgA, hln, hgS, hgV, hgB⟩ := hg
  obtain ⟨⟨htc, hcc, hkc, hwd, h0c, h0k⟩, hK, hL⟩ := hgA
  obtain ⟨⟨hI, hu⟩, hdd, hD, hJ⟩ := hgS
  obtain ⟨a, na, wt, q, T1, tb, wb, cb, kb, H, hx, s5, r1, r2, Y, nx, R, I, p8, N, E, V1, e1, hq, hT, hnx, hrg, him, hV1⟩ := hX
  obtain ⟨hd, a2, wr, M, e2, hG, hM0, hM9, ⟨t, hM10⟩, hP, hmi, hmv, hmb⟩ := hM
  rw [e1, e2]
  by_cases hin_k : p_in k (nI kc) = true
  · obtain ⟨j_k, hk, rfl⟩ := z_in (by omega) hin_k
    by_cases hin_c : p_in c (nI cc) = true
    · obtain ⟨j_c, hc, rfl⟩ := z_in (by omega) hin_c
      by_cases hm : p_may u.2.2.2.2 G u.2.1 tc kc u.1 j_k j_c = true
      · exact z_mk tc wd cc kc G len fa T (p_wr u j_k j_c) (min (dd + 1) 30) (z_nD D dd u) jk J js v sn V bn B ⟨⟨⟨htc, hcc, hkc, hwd, h0c, h0k⟩, hK, hL⟩, hln, ⟨⟨hI.wr hk hkc hc hcc, hu.1, z_T_wr u (by omega) _⟩, Nat.min_le_right _ _, z_nD_all (P := fun q => m_I G cc kc q ∧ (q.1 ≤ 9050 ∧ z_T q.2.1)) hD hdd ⟨hI, hu⟩, hJ⟩, hgV, hgB⟩ (by omega) (by omega) ((c10_write tc wd cc kc G len a na wt q T1 tb wb cb kb H u hx s5 r1 r2 Y nx dd R I p8 N E sn V1 bn B v j_k j_c htc hcc hkc (by omega) hnx hdd hk hc hm).toP ⟨rfl, ⟨a, na, wt, q, T1, tb, wb, cb, kb, H, hx, s5, r1, r2, Y, ((nx + 1) % 30), (va_up R 0 (p_svQ (R 0) nx u)), I, p8, N, E, V1, rfl, hq, hT, (Nat.mod_lt _ (by omega)), (by exact z_rg_add hrg hnx hdd u), him, hV1⟩⟩) ((m_write len fa hd dd v sn bn a2 wr M tc wd cc kc G hG u hM9 j_k j_c htc hcc hkc (by omega) h0c h0k hI hdd hk hc hm).toP ⟨rfl, ⟨hd, a2, wr, (va_up (va_up M 11 (m_nt (M 11) (en u) dd)) 9 (en (p_wr u j_k j_c))), (by rw [m_nd_min hdd]), (by exact hG), (by exact hM0), rfl, ⟨t, by exact hM10⟩, (by exact m_P_add hP hdd u), (by exact hmi), (by exact hmv), (by exact hmb)⟩⟩)
      · have hm : p_may u.2.2.2.2 G u.2.1 tc kc u.1 j_k j_c = false := by simpa using hm
        exact z_mk tc wd cc kc G len fa T u dd D jk J js v sn V bn B ⟨⟨⟨htc, hcc, hkc, hwd, h0c, h0k⟩, hK, hL⟩, hln, ⟨⟨hI, hu⟩, hdd, hD, hJ⟩, hgV, hgB⟩ (by omega) (by omega) ((c10_writeN tc wd cc kc G len a na wt q T1 tb wb cb kb H u hx s5 r1 r2 Y nx dd R I p8 N E sn V1 bn B v j_k j_c htc hcc hkc (by omega) hk hc hm).toP ⟨rfl, ⟨a, na, wt, q, T1, tb, wb, cb, kb, H, hx, s5, r1, r2, Y, nx, R, I, p8, N, E, V1, rfl, hq, hT, hnx, hrg, him, hV1⟩⟩) ((m_writeN len fa hd dd v sn bn a2 wr M tc wd cc kc G hG u hM9 j_k j_c htc hcc hkc (by omega) h0c h0k hI hk hc hm).toP ⟨rfl, ⟨hd, a2, wr, M, rfl, hG, hM0, hM9, ⟨t, hM10⟩, hP, hmi, hmv, hmb⟩⟩)
    · have hn : p_in c (nI cc) = false := by simpa using hin_c
      exact z_mk tc wd cc kc G len fa T u dd D jk J js v sn V bn B ⟨⟨⟨htc, hcc, hkc, hwd, h0c, h0k⟩, hK, hL⟩, hln, ⟨⟨hI, hu⟩, hdd, hD, hJ⟩, hgV, hgB⟩ (by omega) (by omega) ((c10_writeU tc wd cc kc G len a na wt q T1 tb wb cb kb H u hx s5 r1 r2 Y nx dd R I p8 N E sn V1 bn B v (nI j_k) c (Or.inr hn)).toP ⟨rfl, ⟨a, na, wt, q, T1, tb, wb, cb, kb, H, hx, s5, r1, r2, Y, nx, R, I, p8, N, E, V1, rfl, hq, hT, hnx, hrg, him, hV1⟩⟩) ((m_writeU len fa hd dd v sn bn a2 wr M tc wd cc kc G hG (nI j_k) c htc hcc hkc (Or.inr hn)).toP ⟨rfl, ⟨hd, a2, wr, M, rfl, hG, hM0, hM9, ⟨t, hM10⟩, hP, hmi, hmv, hmb⟩⟩)
  · have hn : p_in k (nI kc) = false := by simpa using hin_k
    exact z_mk tc wd cc kc G len fa T u dd D jk J js v sn V bn B ⟨⟨⟨htc, hcc, hkc, hwd, h0c, h0k⟩, hK, hL⟩, hln, ⟨⟨hI, hu⟩, hdd, hD, hJ⟩, hgV, hgB⟩ (by omega) (by omega) ((c10_writeU tc wd cc kc G len a na wt q T1 tb wb cb kb H u hx s5 r1 r2 Y nx dd R I p8 N E sn V1 bn B v k c (Or.inl hn)).toP ⟨rfl, ⟨a, na, wt, q, T1, tb, wb, cb, kb, H, hx, s5, r1, r2, Y, nx, R, I, p8, N, E, V1, rfl, hq, hT, hnx, hrg, him, hV1⟩⟩) ((m_writeU len fa hd dd v sn bn a2 wr M tc wd cc kc G hG k c htc hcc hkc (Or.inl hn)).toP ⟨rfl, ⟨hd, a2, wr, M, rfl, hG, hM0, hM9, ⟨t, hM10⟩, hP, hmi, hmv, hmb⟩⟩)
theorem z_rub (k : Int32) : z_S mX10_rub mX11_rub [.ref 0, .int k] := by
  intro w1 w2 h
  obtain ⟨tc, wd, cc, kc, G, len, fa, T, u, dd, D, jk, J, js, v, sn, V, bn, B, hg, hX, hM⟩ := h
  have hX0 := hX
  have hM00 := hM
  obtain ⟨hgA, hln, hgS, hgV, hgB⟩ := hg
  obtain ⟨⟨htc, hcc, hkc, hwd, h0c, h0k⟩, hK, hL⟩ := hgA
  obtain ⟨⟨hI, hu⟩, hdd, hD, hJ⟩ := hgS
  obtain ⟨a, na, wt, q, T1, tb, wb, cb, kb, H, hx, s5, r1, r2, Y, nx, R, I, p8, N, E, V1, e1, hq, hT, hnx, hrg, him, hV1⟩ := hX
  obtain ⟨hd, a2, wr, M, e2, hG, hM0, hM9, ⟨t, hM10⟩, hP, hmi, hmv, hmb⟩ := hM
  rw [e1, e2]
  by_cases hin_k : p_in k (nI kc) = true
  · obtain ⟨j_k, hk, rfl⟩ := z_in (by omega) hin_k
    by_cases hm : u.2.2.2.2 0 j_k = -1
    · exact z_mk tc wd cc kc G len fa T u dd D jk J js v sn V bn B ⟨⟨⟨htc, hcc, hkc, hwd, h0c, h0k⟩, hK, hL⟩, hln, ⟨⟨hI, hu⟩, hdd, hD, hJ⟩, hgV, hgB⟩ (by omega) (by omega) ((c10_rubN tc wd cc kc G len a na wt q T1 tb wb cb kb H u hx s5 r1 r2 Y nx dd R I p8 N E sn V1 bn B v j_k htc hcc hkc hk hm).toP ⟨rfl, ⟨a, na, wt, q, T1, tb, wb, cb, kb, H, hx, s5, r1, r2, Y, nx, R, I, p8, N, E, V1, rfl, hq, hT, hnx, hrg, him, hV1⟩⟩) ((m_rubN len fa hd dd v sn bn a2 wr M tc wd cc kc G hG u hM9 j_k htc hcc hkc hk hm).toP ⟨rfl, ⟨hd, a2, wr, M, rfl, hG, hM0, hM9, ⟨t, hM10⟩, hP, hmi, hmv, hmb⟩⟩)
    · exact z_mk tc wd cc kc G len fa T (p_rb u j_k) (min (dd + 1) 30) (z_nD D dd u) jk J js v sn V bn B ⟨⟨⟨htc, hcc, hkc, hwd, h0c, h0k⟩, hK, hL⟩, hln, ⟨⟨hI.rb j_k, hu.1, z_T_rb hu.2 _⟩, Nat.min_le_right _ _, z_nD_all (P := fun q => m_I G cc kc q ∧ (q.1 ≤ 9050 ∧ z_T q.2.1)) hD hdd ⟨hI, hu⟩, hJ⟩, hgV, hgB⟩ (by omega) (by omega) ((c10_rub tc wd cc kc G len a na wt q T1 tb wb cb kb H u hx s5 r1 r2 Y nx dd R I p8 N E sn V1 bn B v j_k htc hcc hkc hnx hdd hk hm).toP ⟨rfl, ⟨a, na, wt, q, T1, tb, wb, cb, kb, H, hx, s5, r1, r2, Y, ((nx + 1) % 30), (va_up R 0 (p_svQ (R 0) nx u)), I, p8, N, E, V1, rfl, hq, hT, (Nat.mod_lt _ (by omega)), (by exact z_rg_add hrg hnx hdd u), him, hV1⟩⟩) ((m_rub len fa hd dd v sn bn a2 wr M tc wd cc kc G hG u hM9 j_k htc hcc hkc hdd hk hm).toP ⟨rfl, ⟨hd, a2, wr, (va_up (va_up M 11 (m_nt (M 11) (en u) dd)) 9 (en (p_rb u j_k))), (by rw [m_nd_min hdd]), (by exact hG), (by exact hM0), rfl, ⟨t, by exact hM10⟩, (by exact m_P_add hP hdd u), (by exact hmi), (by exact hmv), (by exact hmb)⟩⟩)
  · have hn : p_in k (nI kc) = false := by simpa using hin_k
    exact z_mk tc wd cc kc G len fa T u dd D jk J js v sn V bn B ⟨⟨⟨htc, hcc, hkc, hwd, h0c, h0k⟩, hK, hL⟩, hln, ⟨⟨hI, hu⟩, hdd, hD, hJ⟩, hgV, hgB⟩ (by omega) (by omega) ((c10_rubU tc wd cc kc G len a na wt q T1 tb wb cb kb H u hx s5 r1 r2 Y nx dd R I p8 N E sn V1 bn B v k hn).toP ⟨rfl, ⟨a, na, wt, q, T1, tb, wb, cb, kb, H, hx, s5, r1, r2, Y, nx, R, I, p8, N, E, V1, rfl, hq, hT, hnx, hrg, him, hV1⟩⟩) ((m_rubU len fa hd dd v sn bn a2 wr M tc wd cc kc G hG k htc hcc hkc hn).toP ⟨rfl, ⟨hd, a2, wr, M, rfl, hG, hM0, hM9, ⟨t, hM10⟩, hP, hmi, hmv, hmb⟩⟩)
theorem z_storm  : z_S mX10_storm mX11_storm [.ref 0] := by
  intro w1 w2 h
  obtain ⟨tc, wd, cc, kc, G, len, fa, T, u, dd, D, jk, J, js, v, sn, V, bn, B, hg, hX, hM⟩ := h
  have hX0 := hX
  have hM00 := hM
  obtain ⟨hgA, hln, hgS, hgV, hgB⟩ := hg
  obtain ⟨⟨htc, hcc, hkc, hwd, h0c, h0k⟩, hK, hL⟩ := hgA
  obtain ⟨⟨hI, hu⟩, hdd, hD, hJ⟩ := hgS
  obtain ⟨a, na, wt, q, T1, tb, wb, cb, kb, H, hx, s5, r1, r2, Y, nx, R, I, p8, N, E, V1, e1, hq, hT, hnx, hrg, him, hV1⟩ := hX
  obtain ⟨hd, a2, wr, M, e2, hG, hM0, hM9, ⟨t, hM10⟩, hP, hmi, hmv, hmb⟩ := hM
  rw [e1, e2]
  by_cases hb : tc = 0
  · exact z_mk tc wd cc kc G len fa T u dd D jk J js v sn V bn B ⟨⟨⟨htc, hcc, hkc, hwd, h0c, h0k⟩, hK, hL⟩, hln, ⟨⟨hI, hu⟩, hdd, hD, hJ⟩, hgV, hgB⟩ (by omega) (by omega) ((c10_stormN tc wd cc kc G len a na wt q T1 tb wb cb kb H u hx s5 r1 r2 Y nx dd R I p8 N E sn V1 bn B v hb).toP ⟨rfl, ⟨a, na, wt, q, T1, tb, wb, cb, kb, H, hx, s5, r1, r2, Y, nx, R, I, p8, N, E, V1, rfl, hq, hT, hnx, hrg, him, hV1⟩⟩) ((m_stormN len fa hd dd v sn bn a2 wr M tc wd cc kc G hG htc hcc hkc hb).toP ⟨rfl, ⟨hd, a2, wr, M, rfl, hG, hM0, hM9, ⟨t, hM10⟩, hP, hmi, hmv, hmb⟩⟩)
  · exact z_mk tc wd cc kc G len fa T (p_sm u kc) (min (dd + 1) 30) (z_nD D dd u) jk J js v sn V bn B ⟨⟨⟨htc, hcc, hkc, hwd, h0c, h0k⟩, hK, hL⟩, hln, ⟨⟨hI.sm hcc hkc, hu.1, z_T_sm hu.2 kc⟩, Nat.min_le_right _ _, z_nD_all (P := fun q => m_I G cc kc q ∧ (q.1 ≤ 9050 ∧ z_T q.2.1)) hD hdd ⟨hI, hu⟩, hJ⟩, hgV, hgB⟩ (by omega) (by omega) ((c10_storm tc wd cc kc G len a na wt q T1 tb wb cb kb H u hx s5 r1 r2 Y nx dd R I p8 N E sn V1 bn B v htc hcc hkc hnx hdd (by omega)).toP ⟨rfl, ⟨a, na, wt, q, T1, tb, wb, cb, kb, H, hx, s5, r1, r2, Y, ((nx + 1) % 30), (va_up R 0 (p_svQ (R 0) nx u)), I, p8, N, E, V1, rfl, hq, hT, (Nat.mod_lt _ (by omega)), (by exact z_rg_add hrg hnx hdd u), him, hV1⟩⟩) ((m_storm len fa hd dd v sn bn a2 wr M tc wd cc kc G hG u hM9 htc hcc hkc hI hdd (by omega)).toP ⟨rfl, ⟨hd, a2, wr, (va_up (va_up M 11 (m_nt (M 11) (en u) dd)) 9 (en (p_sm u kc))), (by rw [m_nd_min hdd]), (by exact hG), (by exact hM0), rfl, ⟨t, by exact hM10⟩, (by exact m_P_add hP hdd u), (by exact hmi), (by exact hmv), (by exact hmb)⟩⟩)
theorem z_hour (x : Int32) : z_S mX10_hour mX11_hour [.ref 0, .int x] := by
  intro w1 w2 h
  obtain ⟨tc, wd, cc, kc, G, len, fa, T, u, dd, D, jk, J, js, v, sn, V, bn, B, hg, hX, hM⟩ := h
  have hX0 := hX
  have hM00 := hM
  obtain ⟨hgA, hln, hgS, hgV, hgB⟩ := hg
  obtain ⟨⟨htc, hcc, hkc, hwd, h0c, h0k⟩, hK, hL⟩ := hgA
  obtain ⟨⟨hI, hu⟩, hdd, hD, hJ⟩ := hgS
  obtain ⟨a, na, wt, q, T1, tb, wb, cb, kb, H, hx, s5, r1, r2, Y, nx, R, I, p8, N, E, V1, e1, hq, hT, hnx, hrg, him, hV1⟩ := hX
  obtain ⟨hd, a2, wr, M, e2, hG, hM0, hM9, ⟨t, hM10⟩, hP, hmi, hmv, hmb⟩ := hM
  rw [e1, e2]
  by_cases hr : p_ref x tc u.1 = 0
  · obtain ⟨ht, hu9, n, hn1, hn, rfl⟩ := z_ref (by omega) hr
    exact z_mk tc wd cc kc G len fa T (p_it G tc wd kc u n) (min (dd + n) 30) (z_itD D dd (p_it G tc wd kc u) n) jk J js v sn V bn B ⟨⟨⟨htc, hcc, hkc, hwd, h0c, h0k⟩, hK, hL⟩, hln, ⟨⟨hI.it tc wd hkc n, by rw [p_it_h]; omega, z_T_it hu.2 G tc wd kc n⟩, Nat.min_le_right _ _, z_itD_all (P := fun q => m_I G cc kc q ∧ (q.1 ≤ 9050 ∧ z_T q.2.1)) hD hdd (fun i hi => ⟨hI.it tc wd hkc i, by rw [p_it_h]; omega, z_T_it hu.2 G tc wd kc i⟩), hJ⟩, hgV, hgB⟩ (by omega) (by omega) ((c10_hour tc wd cc kc G len a na wt q T1 tb wb cb kb H u hx s5 r1 r2 Y nx dd R I p8 N E sn V1 bn B v n htc hcc hkc hnx hdd hn1 hn ht hu9 (hI.pok hkc)).toP ⟨rfl, ⟨a, na, wt, q, T1, tb, wb, cb, kb, H, hx, s5, r1, r2, Y, ((nx + n) % 30), (va_up R 0 (p_ph (R 0) nx (fun i => p_it G tc wd kc u i) n)), I, p8, N, E, V1, rfl, hq, hT, (Nat.mod_lt _ (by omega)), (by exact z_rg_it hrg hnx hdd (p_it G tc wd kc u) n), him, hV1⟩⟩) ((m_hour len fa hd dd v sn bn a2 wr M tc wd cc kc G hG u hM9 n htc hcc hkc h0c h0k hI hdd hu9 hr hn).toP ⟨rfl, ⟨hd, a2, wr, (va_up (va_up M 11 (m_np (M 11) dd (p_it G tc wd kc u) n).1) 9 (en (p_it G tc wd kc u n))), (by rw [(m_P_it hP hdd (p_it G tc wd kc u) n).2]), (by exact hG), (by exact hM0), rfl, ⟨t, by exact hM10⟩, (by exact (m_P_it hP hdd (p_it G tc wd kc u) n).1), (by exact hmi), (by exact hmv), (by exact hmb)⟩⟩)
  · exact z_mk tc wd cc kc G len fa T u dd D jk J js v sn V bn B ⟨⟨⟨htc, hcc, hkc, hwd, h0c, h0k⟩, hK, hL⟩, hln, ⟨⟨hI, hu⟩, hdd, hD, hJ⟩, hgV, hgB⟩ (by omega) (by omega) ((c10_hourR tc wd cc kc G len a na wt q T1 tb wb cb kb H u hx s5 r1 r2 Y nx dd R I p8 N E sn V1 bn B v x htc hcc hkc (by omega) hr).toP ⟨rfl, ⟨a, na, wt, q, T1, tb, wb, cb, kb, H, hx, s5, r1, r2, Y, nx, R, I, p8, N, E, V1, rfl, hq, hT, hnx, hrg, him, hV1⟩⟩) ((m_hourR len fa hd dd v sn bn a2 wr M tc wd cc kc G hG u hM9 x htc hcc hkc (by omega) hr).toP ⟨rfl, ⟨hd, a2, wr, M, rfl, hG, hM0, hM9, ⟨t, hM10⟩, hP, hmi, hmv, hmb⟩⟩)
theorem z_drift (x : Int32) : z_S mX10_drift mX11_drift [.ref 0, .int x] := by
  intro w1 w2 h
  obtain ⟨tc, wd, cc, kc, G, len, fa, T, u, dd, D, jk, J, js, v, sn, V, bn, B, hg, hX, hM⟩ := h
  have hX0 := hX
  have hM00 := hM
  obtain ⟨hgA, hln, hgS, hgV, hgB⟩ := hg
  obtain ⟨⟨htc, hcc, hkc, hwd, h0c, h0k⟩, hK, hL⟩ := hgA
  obtain ⟨⟨hI, hu⟩, hdd, hD, hJ⟩ := hgS
  obtain ⟨a, na, wt, q, T1, tb, wb, cb, kb, H, hx, s5, r1, r2, Y, nx, R, I, p8, N, E, V1, e1, hq, hT, hnx, hrg, him, hV1⟩ := hX
  obtain ⟨hd, a2, wr, M, e2, hG, hM0, hM9, ⟨t, hM10⟩, hP, hmi, hmv, hmb⟩ := hM
  rw [e1, e2]
  by_cases hr : p_ref x tc u.1 = 0
  · obtain ⟨ht, hu9, n, hn1, hn, rfl⟩ := z_ref (by omega) hr
    exact z_mk tc wd cc kc G len fa T ((p_df G tc wd cc kc (u, v) n).1) (min (dd + n) 30) (z_itD D dd (fun i => (p_df G tc wd cc kc (u, v) i).1) n) jk J js (p_df G tc wd cc kc (u, v) n).2 sn V bn B ⟨⟨⟨htc, hcc, hkc, hwd, h0c, h0k⟩, hK, hL⟩, hln, ⟨⟨m_I.df (x := (u, v)) hI hcc hkc n, by rw [p_df_h]; show u.1 + n ≤ 9050; omega, z_T_df (x := (u, v)) hu.2 G tc wd cc hkc n⟩, Nat.min_le_right _ _, z_itD_all (P := fun q => m_I G cc kc q ∧ (q.1 ≤ 9050 ∧ z_T q.2.1)) hD hdd (fun i hi => ⟨m_I.df (x := (u, v)) hI hcc hkc i, by rw [p_df_h]; show u.1 + i ≤ 9050; omega, z_T_df (x := (u, v)) hu.2 G tc wd cc hkc i⟩), hJ⟩, hgV, hgB⟩ (by omega) (by omega) ((c10_drift tc wd cc kc G len a na wt q T1 tb wb cb kb H u hx s5 r1 r2 Y nx dd R I p8 N E sn V1 bn B v n htc hcc hkc hnx hdd hn1 hn ht hu9 (hI.pok hkc)).toP ⟨rfl, ⟨a, na, wt, q, T1, tb, wb, cb, kb, H, hx, s5, r1, r2, Y, ((nx + n) % 30), (va_up R 0 (p_ph (R 0) nx (fun i => (p_df G tc wd cc kc (u, v) i).1) n)), I, p8, N, E, V1, rfl, hq, hT, (Nat.mod_lt _ (by omega)), (by exact z_rg_it hrg hnx hdd (fun i => (p_df G tc wd cc kc (u, v) i).1) n), him, hV1⟩⟩) ((m_drift len fa hd dd v sn bn a2 wr M tc wd cc kc G hG u hM9 n htc hcc hkc h0c h0k hI hdd hu9 hr hn).toP ⟨rfl, ⟨hd, a2, wr, (va_up (va_up M 11 (m_np (M 11) dd (fun i => (p_df G tc wd cc kc (u, v) i).1) n).1) 9 (en ((p_df G tc wd cc kc (u, v) n).1))), (by rw [(m_P_it hP hdd (fun i => (p_df G tc wd cc kc (u, v) i).1) n).2]), (by exact hG), (by exact hM0), rfl, ⟨t, by exact hM10⟩, (by exact (m_P_it hP hdd (fun i => (p_df G tc wd cc kc (u, v) i).1) n).1), (by exact hmi), (by exact hmv), (by exact hmb)⟩⟩)
  · exact z_mk tc wd cc kc G len fa T u dd D jk J js v sn V bn B ⟨⟨⟨htc, hcc, hkc, hwd, h0c, h0k⟩, hK, hL⟩, hln, ⟨⟨hI, hu⟩, hdd, hD, hJ⟩, hgV, hgB⟩ (by omega) (by omega) ((c10_driftR tc wd cc kc G len a na wt q T1 tb wb cb kb H u hx s5 r1 r2 Y nx dd R I p8 N E sn V1 bn B v x htc hcc hkc (by omega) hr).toP ⟨rfl, ⟨a, na, wt, q, T1, tb, wb, cb, kb, H, hx, s5, r1, r2, Y, nx, R, I, p8, N, E, V1, rfl, hq, hT, hnx, hrg, him, hV1⟩⟩) ((m_driftR len fa hd dd v sn bn a2 wr M tc wd cc kc G hG u hM9 x htc hcc hkc (by omega) hr).toP ⟨rfl, ⟨hd, a2, wr, M, rfl, hG, hM0, hM9, ⟨t, hM10⟩, hP, hmi, hmv, hmb⟩⟩)
theorem z_undo (x : Int32) : z_S mX10_undo mX11_undo [.ref 0, .int x] := by
  intro w1 w2 h
  obtain ⟨tc, wd, cc, kc, G, len, fa, T, u, dd, D, jk, J, js, v, sn, V, bn, B, hg, hX, hM⟩ := h
  have hX0 := hX
  have hM00 := hM
  obtain ⟨hgA, hln, hgS, hgV, hgB⟩ := hg
  obtain ⟨⟨htc, hcc, hkc, hwd, h0c, h0k⟩, hK, hL⟩ := hgA
  obtain ⟨⟨hI, hu⟩, hdd, hD, hJ⟩ := hgS
  obtain ⟨a, na, wt, q, T1, tb, wb, cb, kb, H, hx, s5, r1, r2, Y, nx, R, I, p8, N, E, V1, e1, hq, hT, hnx, hrg, him, hV1⟩ := hX
  obtain ⟨hd, a2, wr, M, e2, hG, hM0, hM9, ⟨t, hM10⟩, hP, hmi, hmv, hmb⟩ := hM
  rw [e1, e2]
  by_cases hxx : x < 1 ∨ 30 < x
  · exact z_mk tc wd cc kc G len fa T u dd D jk J js v sn V bn B ⟨⟨⟨htc, hcc, hkc, hwd, h0c, h0k⟩, hK, hL⟩, hln, ⟨⟨hI, hu⟩, hdd, hD, hJ⟩, hgV, hgB⟩ (by omega) (by omega) ((c10_undoO tc wd cc kc G len a na wt q T1 tb wb cb kb H u hx s5 r1 r2 Y nx dd R I p8 N E sn V1 bn B v x hxx).toP ⟨rfl, ⟨a, na, wt, q, T1, tb, wb, cb, kb, H, hx, s5, r1, r2, Y, nx, R, I, p8, N, E, V1, rfl, hq, hT, hnx, hrg, him, hV1⟩⟩) ((m_undoO len fa hd dd v sn bn a2 wr M tc wd cc kc G hG x hxx).toP ⟨rfl, ⟨hd, a2, wr, M, rfl, hG, hM0, hM9, ⟨t, hM10⟩, hP, hmi, hmv, hmb⟩⟩)
  · obtain ⟨n, hn1, hn, rfl⟩ := z_rn z_l1 z_l30 (by omega) (by omega) hxx
    by_cases hl : n ≤ dd
    · have hw := hrg (dd - n) (by omega)
      rw [show (nx + 30 - dd + (dd - n)) % 30 = ((nx + 30) - n) % 30 by omega] at hw
      have hag := z_ld_ag (S := u.2.2.2.2) hw
      exact z_mk tc wd cc kc G len fa T (z_ld u.2.2.2.2 (R 0) ((((nx + 30) - n) % 30) * 22) (D (dd - n))) (dd - n) D jk J js v sn V bn B ⟨⟨⟨htc, hcc, hkc, hwd, h0c, h0k⟩, hK, hL⟩, hln, ⟨⟨(hD (dd - n) (by omega)).1.ag hag, (hD (dd - n) (by omega)).2⟩, by omega, fun j hj => hD j (by omega), hJ⟩, hgV, hgB⟩ (by omega) (by omega) ((c10_undo tc wd cc kc G len a na wt q T1 tb wb cb kb H u hx s5 r1 r2 Y nx dd R I p8 N E sn V1 bn B v n hnx hdd hn1 hl).toP ⟨congrArg some hw.1, ⟨a, na, wt, q, T1, tb, wb, cb, kb, H, hx, s5, r1, r2, Y, (((nx + 30) - n) % 30), R, I, p8, N, E, V1, (by rw [hw.1, hw.2.1, hw.2.2.1, hw.2.2.2.1]; rfl), hq, hT, (Nat.mod_lt _ (by omega)), (fun j hj => by have h2 := hrg j (by omega); rw [show (nx + 30 - dd + j) % 30 = (((nx + 30) - n) % 30 + 30 - (dd - n) + j) % 30 by omega] at h2; exact h2), him, hV1⟩⟩) ((m_undo len fa hd dd v sn bn a2 wr M tc wd cc kc G hG u hM9 n D hdd hn1 hn hl hP).toP ⟨rfl, ⟨hd, a2, wr, (va_up M 9 (en (D (dd - n)))), rfl, (by exact hG), (by exact hM0), (en_agq hag), ⟨t, by exact hM10⟩, (fun j hj => hP j (by omega)), (by exact hmi), (by exact hmv), (by exact hmb)⟩⟩)
    · exact z_mk tc wd cc kc G len fa T u dd D jk J js v sn V bn B ⟨⟨⟨htc, hcc, hkc, hwd, h0c, h0k⟩, hK, hL⟩, hln, ⟨⟨hI, hu⟩, hdd, hD, hJ⟩, hgV, hgB⟩ (by omega) (by omega) ((c10_undoN tc wd cc kc G len a na wt q T1 tb wb cb kb H u hx s5 r1 r2 Y nx dd R I p8 N E sn V1 bn B v n hn1 hn hdd (by omega)).toP ⟨rfl, ⟨a, na, wt, q, T1, tb, wb, cb, kb, H, hx, s5, r1, r2, Y, nx, R, I, p8, N, E, V1, rfl, hq, hT, hnx, hrg, him, hV1⟩⟩) ((m_undoN len fa hd dd v sn bn a2 wr M tc wd cc kc G hG n hdd hn1 hn (by omega)).toP ⟨rfl, ⟨hd, a2, wr, M, rfl, hG, hM0, hM9, ⟨t, hM10⟩, hP, hmi, hmv, hmb⟩⟩)
