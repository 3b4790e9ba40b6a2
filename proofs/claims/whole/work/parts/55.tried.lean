/-! what is tried: lasts, washed, crossing -/
theorem z_cin_c {f g : Nat → Int32} {c : Int32} (n : Nat) : ∀ k, (∀ j, k ≤ j → j < k + n → f j = g j) → p_cin f c k n = p_cin g c k n := by
  induction n with
  | zero => intro k _; rfl
  | succ n ih =>
    intro k h
    show (if f k = c then _ else _) = (if g k = c then _ else _)
    rw [h k (by omega) (by omega), ih (k + 1) (fun j h1 h2 => h j (by omega) (by omega))]
theorem z_may_c {q r : p_Q} (h1 : q.1 = r.1) (h2 : ∀ k, k < 6 → q.2.2.2.2 0 k = r.2.2.2.2 0 k) (G : Nat → Nat → Int32) (tc c : Nat) {k : Nat} (hk : k < 6) : m_may q G tc k c = m_may r G tc k c := by
  unfold m_may
  rw [h1, h2 k hk, z_cin_c (f := q.2.2.2.2 0) (g := r.2.2.2.2 0) 6 0 (fun j _ hj => h2 j (by omega))]
theorem z_fre_I {G : Nat → Nat → Int32} {cc kc : Nat} {q : p_Q} (h : m_I G cc kc q) : m_I G cc kc (p_fre q) := ⟨⟨h.1.1, fun j hj hs => absurd (show nI j = -1 from hs.symm) (p_nm1 (by omega))⟩, h.2⟩
theorem z_wr_ag {q r : p_Q} (h1 : q.1 = r.1) (h3 : q.2.2.1 = r.2.2.1) (h4 : q.2.2.2.1 = r.2.2.2.1) (h5 : p_ag q.2.2.2.2 r.2.2.2.2) (k c : Nat) : p_agq (p_wr q k c) (p_wr r k c) := by
  refine ⟨h1, rfl, h3, h4, fun i hi j hj => ?_⟩
  show p_wrS q.2.2.2.2 k c i j = p_wrS r.2.2.2.2 k c i j
  obtain ⟨a0, a1, a2⟩ := p_wrS_at q.2.2.2.2 k c j
  obtain ⟨b0, b1, b2⟩ := p_wrS_at r.2.2.2.2 k c j
  rcases (show i = 0 ∨ i = 1 ∨ i = 2 by omega) with rfl | rfl | rfl
  · rw [a0, b0, h5 0 (by omega) j hj]
  · rw [a1, b1, h5 1 (by omega) j hj]
  · rw [a2, b2, h5 2 (by omega) j hj]
theorem z_may_fre {G : Nat → Nat → Int32} {cc kc : Nat} {u : p_Q} (h : m_I G cc kc u) (hkc : kc ≤ 6) (Y : Nat → Nat → Int32) (tc : Nat) {k c : Nat} (hk : k < 6) (hc : c < 100000) : p_may (p_fre (p_cq Y u)).2.2.2.2 G (p_fre (p_cq Y u)).2.1 tc kc (p_fre (p_cq Y u)).1 k c = m_may u G tc k c := by
  have ag := p_cq_ag Y u
  have h2 : m_I G cc kc (p_fre (p_cq Y u)) := z_fre_I (h.ag ⟨ag.1.symm, ag.2.1.symm, ag.2.2.1.symm, ag.2.2.2.1.symm, ag.2.2.2.2.symm⟩)
  rw [p_may_m h2 hkc tc k hc, show decide ((p_fre (p_cq Y u)).2.1 = -1) = true from decide_eq_true rfl, Bool.true_and]
  exact z_may_c ag.1 (fun j hj => ag.2.2.2.2 0 (by omega) j hj) G tc c hk
theorem z_lasts_eq {G : Nat → Nat → Int32} {kc : Nat} (hkc : kc ≤ 6) (tc wd : Nat) (Y : Nat → Nat → Int32) (u : p_Q) (k c : Nat) : (fun i => !decide (p_bit (p_fs (p_it G tc wd kc (p_wr (p_fre (p_cq Y u)) k c) (i + 1)).2.2.2.2 G kc) (nI k) = 0)) = (fun i => !decide (p_bit (p_fs (p_it G tc wd kc (p_wr u k c) (i + 1)).2.2.2.2 G kc) (nI k) = 0)) := by
  have ag := p_cq_ag Y u
  funext i
  have e := (z_wr_ag (q := p_fre (p_cq Y u)) (r := u) ag.1 ag.2.2.1 ag.2.2.2.1 ag.2.2.2.2 k c).it G tc wd hkc (i + 1)
  rw [e.2.2.2.2.fs G hkc]
theorem z_washed_eq {G : Nat → Nat → Int32} {kc : Nat} (hkc : kc ≤ 6) (tc wd : Nat) (Y : Nat → Nat → Int32) (u : p_Q) {k : Nat} (hk : k < 6) : (fun i => decide ((p_it G tc wd kc (p_cq Y u) i).2.2.2.2 0 k = -1)) = (fun i => decide ((p_it G tc wd kc u i).2.2.2.2 0 k = -1)) := by
  funext i
  have e := (p_cq_ag Y u).it G tc wd hkc i
  rw [e.2.2.2.2 0 (by omega) k hk]
theorem z_cross_eq {G : Nat → Nat → Int32} {kc : Nat} (hkc : kc ≤ 6) (tc wd cc : Nat) (Y : Nat → Nat → Int32) (u : p_Q) (k : Nat) : (fun i => decide (p_wets G tc (p_it G tc wd kc (p_cq Y u) i).1 cc = 0) && !decide (p_bit (p_fs (p_it G tc wd kc (p_cq Y u) i).2.2.2.2 G kc) (nI k) = 0)) = (fun i => decide (p_wets G tc (p_it G tc wd kc u i).1 cc = 0) && !decide (p_bit (p_fs (p_it G tc wd kc u i).2.2.2.2 G kc) (nI k) = 0)) := by
  funext i
  have e := (p_cq_ag Y u).it G tc wd hkc i
  rw [e.2.2.2.2.fs G hkc, e.1]
theorem z_washed (k : Int32) : z_S mX10_washed mX11_washed [.ref 0, .int k] := by
  intro w1 w2 h
  obtain ⟨tc, wd, cc, kc, G, len, fa, T, u, dd, D, jk, J, js, v, sn, V, bn, B, hg, hX, hM⟩ := h
  have hX0 := hX
  have hM00 := hM
  obtain ⟨hgA, hln, hgS, hgV, hgB⟩ := hg
  obtain ⟨⟨htc, hcc, hkc, hwd, h0c, h0k⟩, hK, hL⟩ := hgA
  obtain ⟨⟨hI, hu⟩, hdd, hD, hJ⟩ := hgS
  obtain ⟨a, na, wt, q, T1, tb, wb, cb, kb, H, hx, s5, r1, r2, Y, nx, R, I, p8, N, E, V1, e1, hq, hT, hnx, hrg, him, hV1⟩ := hX
  obtain ⟨hd, a2, wr, M, e2, hG, hM0, hM9, ⟨t, hM10⟩, hP, hmi, hmv, hmb⟩ := hM
  rw [e1, e2]
  by_cases hin_k : p_in k (nI kc) = true
  · obtain ⟨j_k, hk, rfl⟩ := z_in (by omega) hin_k
    exact z_mk tc wd cc kc G len fa T u dd D jk J js v sn V bn B ⟨⟨⟨htc, hcc, hkc, hwd, h0c, h0k⟩, hK, hL⟩, hln, ⟨⟨hI, hu⟩, hdd, hD, hJ⟩, hgV, hgB⟩ (by omega) (by omega) ((c10_washed tc wd cc kc G len a na wt q T1 tb wb cb kb H u hx s5 r1 r2 Y nx dd R I p8 N E sn V1 bn B v j_k htc hcc hkc (by omega) (hI.pok hkc) hk).imp (fun r w' h => by obtain ⟨h1, hx2, s52, r12, r22, Y2, rfl⟩ := h; exact ⟨h1.trans (by rw [z_washed_eq hkc tc wd Y u (show j_k < 6 by omega)]), ⟨a, na, wt, q, T1, tb, wb, cb, kb, H, hx2, s52, r12, r22, Y2, nx, R, I, p8, N, E, V1, rfl, hq, hT, hnx, hrg, him, hV1⟩⟩)) ((m_washed len fa hd dd v sn bn a2 wr M tc wd cc kc G hG u hM9 t hM10 j_k htc hcc hkc (by omega) h0c h0k hI hk).imp (fun r w' h => by obtain ⟨h1, t2, rfl⟩ := h; exact ⟨h1, ⟨hd, a2, wr, (va_up M 10 (en t2)), rfl, (by exact hG), (by exact hM0), (by exact hM9), ⟨t2, rfl⟩, (by exact hP), (by exact hmi), (by exact hmv), (by exact hmb)⟩⟩))
  · have hn : p_in k (nI kc) = false := by simpa using hin_k
    exact z_mk tc wd cc kc G len fa T u dd D jk J js v sn V bn B ⟨⟨⟨htc, hcc, hkc, hwd, h0c, h0k⟩, hK, hL⟩, hln, ⟨⟨hI, hu⟩, hdd, hD, hJ⟩, hgV, hgB⟩ (by omega) (by omega) ((c10_washedU tc wd cc kc G len a na wt q T1 tb wb cb kb H u hx s5 r1 r2 Y nx dd R I p8 N E sn V1 bn B v k hn).toP ⟨rfl, ⟨a, na, wt, q, T1, tb, wb, cb, kb, H, hx, s5, r1, r2, Y, nx, R, I, p8, N, E, V1, rfl, hq, hT, hnx, hrg, him, hV1⟩⟩) ((m_washedU len fa hd dd v sn bn a2 wr M tc wd cc kc G hG k htc hcc hkc hn).toP ⟨rfl, ⟨hd, a2, wr, M, rfl, hG, hM0, hM9, ⟨t, hM10⟩, hP, hmi, hmv, hmb⟩⟩)
theorem z_crossing (k : Int32) : z_S mX10_crossing mX11_crossing [.ref 0, .int k] := by
  intro w1 w2 h
  obtain ⟨tc, wd, cc, kc, G, len, fa, T, u, dd, D, jk, J, js, v, sn, V, bn, B, hg, hX, hM⟩ := h
  have hX0 := hX
  have hM00 := hM
  obtain ⟨hgA, hln, hgS, hgV, hgB⟩ := hg
  obtain ⟨⟨htc, hcc, hkc, hwd, h0c, h0k⟩, hK, hL⟩ := hgA
  obtain ⟨⟨hI, hu⟩, hdd, hD, hJ⟩ := hgS
  obtain ⟨a, na, wt, q, T1, tb, wb, cb, kb, H, hx, s5, r1, r2, Y, nx, R, I, p8, N, E, V1, e1, hq, hT, hnx, hrg, him, hV1⟩ := hX
  obtain ⟨hd, a2, wr, M, e2, hG, hM0, hM9, ⟨t, hM10⟩, hP, hmi, hmv, hmb⟩ := hM
  rw [e1, e2]
  by_cases hin_k : p_in k (nI kc) = true
  · obtain ⟨j_k, hk, rfl⟩ := z_in (by omega) hin_k
    exact z_mk tc wd cc kc G len fa T u dd D jk J js v sn V bn B ⟨⟨⟨htc, hcc, hkc, hwd, h0c, h0k⟩, hK, hL⟩, hln, ⟨⟨hI, hu⟩, hdd, hD, hJ⟩, hgV, hgB⟩ (by omega) (by omega) ((c10_crossing tc wd cc kc G len a na wt q T1 tb wb cb kb H u hx s5 r1 r2 Y nx dd R I p8 N E sn V1 bn B v j_k htc hcc hkc (by omega) (hI.pok hkc) hk).imp (fun r w' h => by obtain ⟨h1, hx2, s52, r12, r22, Y2, rfl⟩ := h; exact ⟨h1.trans (by rw [z_cross_eq hkc tc wd cc Y u j_k]), ⟨a, na, wt, q, T1, tb, wb, cb, kb, H, hx2, s52, r12, r22, Y2, nx, R, I, p8, N, E, V1, rfl, hq, hT, hnx, hrg, him, hV1⟩⟩)) ((m_crossing len fa hd dd v sn bn a2 wr M tc wd cc kc G hG u hM9 t hM10 j_k htc hcc hkc (by omega) h0c h0k hI hk).imp (fun r w' h => by obtain ⟨h1, t2, rfl⟩ := h; exact ⟨h1, ⟨hd, a2, wr, (va_up M 10 (en t2)), rfl, (by exact hG), (by exact hM0), (by exact hM9), ⟨t2, rfl⟩, (by exact hP), (by exact hmi), (by exact hmv), (by exact hmb)⟩⟩))
  · have hn : p_in k (nI kc) = false := by simpa using hin_k
    exact z_mk tc wd cc kc G len fa T u dd D jk J js v sn V bn B ⟨⟨⟨htc, hcc, hkc, hwd, h0c, h0k⟩, hK, hL⟩, hln, ⟨⟨hI, hu⟩, hdd, hD, hJ⟩, hgV, hgB⟩ (by omega) (by omega) ((c10_crossingU tc wd cc kc G len a na wt q T1 tb wb cb kb H u hx s5 r1 r2 Y nx dd R I p8 N E sn V1 bn B v k hn).toP ⟨rfl, ⟨a, na, wt, q, T1, tb, wb, cb, kb, H, hx, s5, r1, r2, Y, nx, R, I, p8, N, E, V1, rfl, hq, hT, hnx, hrg, him, hV1⟩⟩) ((m_crossingU len fa hd dd v sn bn a2 wr M tc wd cc kc G hG k htc hcc hkc hn).toP ⟨rfl, ⟨hd, a2, wr, M, rfl, hG, hM0, hM9, ⟨t, hM10⟩, hP, hmi, hmv, hmb⟩⟩)
theorem z_lasts (k c : Int32) : z_S mX10_lasts mX11_lasts [.ref 0, .int k, .int c] := by
  intro w1 w2 h
  obtain ⟨tc, wd, cc, kc, G, len, fa, T, u, dd, D, jk, J, js, v, sn, V, bn, B, hg, hX, hM⟩ := h
  have hX0 := hX
  have hM00 := hM
  obtain ⟨hgA, hln, hgS, hgV, hgB⟩ := hg
  obtain ⟨⟨htc, hcc, hkc, hwd, h0c, h0k⟩, hK, hL⟩ := hgA
  obtain ⟨⟨hI, hu⟩, hdd, hD, hJ⟩ := hgS
  obtain ⟨a, na, wt, q, T1, tb, wb, cb, kb, H, hx, s5, r1, r2, Y, nx, R, I, p8, N, E, V1, e1, hq, hT, hnx, hrg, him, hV1⟩ := hX
  obtain ⟨hd, a2, wr, M, e2, hG, hM0, hM9, ⟨t, hM10⟩, hP, hmi, hmv, hmb⟩ := hM
  rw [e1, e2]
  by_cases hin_k : p_in k (nI kc) = true
  · obtain ⟨j_k, hk, rfl⟩ := z_in (by omega) hin_k
    by_cases hin_c : p_in c (nI cc) = true
    · obtain ⟨j_c, hc, rfl⟩ := z_in (by omega) hin_c
      have hmm := z_may_fre hI hkc Y tc (k := j_k) (c := j_c) (by omega) (by omega)
      by_cases hm : m_may u G tc j_k j_c = true
      · exact z_mk tc wd cc kc G len fa T u dd D jk J js v sn V bn B ⟨⟨⟨htc, hcc, hkc, hwd, h0c, h0k⟩, hK, hL⟩, hln, ⟨⟨hI, hu⟩, hdd, hD, hJ⟩, hgV, hgB⟩ (by omega) (by omega) ((c10_lasts tc wd cc kc G len a na wt q T1 tb wb cb kb H u hx s5 r1 r2 Y nx dd R I p8 N E sn V1 bn B v j_k j_c htc hcc hkc (by omega) (hI.pok hkc) hk hc (hmm.trans hm)).imp (fun r w' h => by obtain ⟨h1, hx2, s52, r12, r22, Y2, rfl⟩ := h; exact ⟨h1.trans (by rw [z_lasts_eq hkc tc wd Y u j_k j_c]), ⟨a, na, wt, q, T1, tb, wb, cb, kb, H, hx2, s52, r12, r22, Y2, nx, R, I, p8, N, E, V1, rfl, hq, hT, hnx, hrg, him, hV1⟩⟩)) ((m_lasts len fa hd dd v sn bn a2 wr M tc wd cc kc G hG u hM9 t hM10 j_k j_c htc hcc hkc (by omega) h0c h0k hI hk hc hm).imp (fun r w' h => by obtain ⟨h1, t2, rfl⟩ := h; exact ⟨h1, ⟨hd, a2, wr, (va_up M 10 (en t2)), rfl, (by exact hG), (by exact hM0), (by exact hM9), ⟨t2, rfl⟩, (by exact hP), (by exact hmi), (by exact hmv), (by exact hmb)⟩⟩))
      · have hm : m_may u G tc j_k j_c = false := by simpa using hm
        exact z_mk tc wd cc kc G len fa T u dd D jk J js v sn V bn B ⟨⟨⟨htc, hcc, hkc, hwd, h0c, h0k⟩, hK, hL⟩, hln, ⟨⟨hI, hu⟩, hdd, hD, hJ⟩, hgV, hgB⟩ (by omega) (by omega) ((c10_lastsN tc wd cc kc G len a na wt q T1 tb wb cb kb H u hx s5 r1 r2 Y nx dd R I p8 N E sn V1 bn B v j_k j_c htc hcc hkc (by omega) hk hc (hmm.trans hm)).imp (fun r w' h => by obtain ⟨h1, hx2, s52, r12, r22, Y2, rfl⟩ := h; exact ⟨h1, ⟨a, na, wt, q, T1, tb, wb, cb, kb, H, hx2, s52, r12, r22, Y2, nx, R, I, p8, N, E, V1, rfl, hq, hT, hnx, hrg, him, hV1⟩⟩)) ((m_lastsN len fa hd dd v sn bn a2 wr M tc wd cc kc G hG u hM9 j_k j_c htc hcc hkc (by omega) h0c h0k hI hk hc hm).toP ⟨rfl, ⟨hd, a2, wr, M, rfl, hG, hM0, hM9, ⟨t, hM10⟩, hP, hmi, hmv, hmb⟩⟩)
    · have hn : p_in c (nI cc) = false := by simpa using hin_c
      exact z_mk tc wd cc kc G len fa T u dd D jk J js v sn V bn B ⟨⟨⟨htc, hcc, hkc, hwd, h0c, h0k⟩, hK, hL⟩, hln, ⟨⟨hI, hu⟩, hdd, hD, hJ⟩, hgV, hgB⟩ (by omega) (by omega) ((c10_lastsU tc wd cc kc G len a na wt q T1 tb wb cb kb H u hx s5 r1 r2 Y nx dd R I p8 N E sn V1 bn B v (nI j_k) c (Or.inr hn)).toP ⟨rfl, ⟨a, na, wt, q, T1, tb, wb, cb, kb, H, hx, s5, r1, r2, Y, nx, R, I, p8, N, E, V1, rfl, hq, hT, hnx, hrg, him, hV1⟩⟩) ((m_lastsU len fa hd dd v sn bn a2 wr M tc wd cc kc G hG (nI j_k) c htc hcc hkc (Or.inr hn)).toP ⟨rfl, ⟨hd, a2, wr, M, rfl, hG, hM0, hM9, ⟨t, hM10⟩, hP, hmi, hmv, hmb⟩⟩)
  · have hn : p_in k (nI kc) = false := by simpa using hin_k
    exact z_mk tc wd cc kc G len fa T u dd D jk J js v sn V bn B ⟨⟨⟨htc, hcc, hkc, hwd, h0c, h0k⟩, hK, hL⟩, hln, ⟨⟨hI, hu⟩, hdd, hD, hJ⟩, hgV, hgB⟩ (by omega) (by omega) ((c10_lastsU tc wd cc kc G len a na wt q T1 tb wb cb kb H u hx s5 r1 r2 Y nx dd R I p8 N E sn V1 bn B v k c (Or.inl hn)).toP ⟨rfl, ⟨a, na, wt, q, T1, tb, wb, cb, kb, H, hx, s5, r1, r2, Y, nx, R, I, p8, N, E, V1, rfl, hq, hT, hnx, hrg, him, hV1⟩⟩) ((m_lastsU len fa hd dd v sn bn a2 wr M tc wd cc kc G hG k c htc hcc hkc (Or.inl hn)).toP ⟨rfl, ⟨hd, a2, wr, M, rfl, hG, hM0, hM9, ⟨t, hM10⟩, hP, hmi, hmv, hmb⟩⟩)
