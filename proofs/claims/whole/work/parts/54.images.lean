/-! images; what is tried -/
theorem z_im_keep {I : Nat → Nat → Int32} {jk : Nat → Bool} {J : Nat → p_Q} {js : Nat → Int32} (h : z_im I jk J js) {i : Nat} (hi : i < 2) (u : p_Q) (v : Int32) : z_im (va_up (va_up (va_up I 0 (p_sav (I 0) (i * 22) (nI u.1) u.2.1 u.2.2.1 u.2.2.2.1 u.2.2.2.2)) 1 (upd (I 1) i v)) 2 (upd (I 2) i 1)) (fun j => if j = i then true else jk j) (fun j => if j = i then u else J j) (fun j => if j = i then v else js j) := by
  intro j hj
  show upd (I 2) i 1 j = rr_b (if j = i then true else jk j) ∧ ((if j = i then true else jk j) = true → z_rw (p_sav (I 0) (i * 22) (nI u.1) u.2.1 u.2.2.1 u.2.2.2.1 u.2.2.2.2) (j * 22) (if j = i then u else J j) ∧ upd (I 1) i v j = (if j = i then v else js j))
  by_cases e : j = i
  · rw [if_pos e, if_pos e, if_pos e, e, pk_us, pk_us]
    exact ⟨rfl, fun _ => ⟨z_sv_in _ _ _, rfl⟩⟩
  · rw [if_neg e, if_neg e, if_neg e, pk_un e, pk_un e]
    obtain ⟨h1, h2⟩ := h j hj
    exact ⟨h1, fun z => ⟨z_rw_c (fun x hx => z_sv_out (by omega)) (h2 z).1, (h2 z).2⟩⟩
theorem z_mi_keep {M : Nat → Nat → Int32} {jk : Nat → Bool} {J : Nat → p_Q} {js : Nat → Int32} (h : z_mi M jk J js) {i : Nat} (hi : i < 2) {u : p_Q} (h9 : M 9 = en u) (v : Int32) : z_mi (va_up (va_up (va_up M 12 (va_cpy (M 9) (M 12) 0 (22 * i) 22)) 13 (upd (M 13) i v)) 14 (upd (M 14) i 1)) (fun j => if j = i then true else jk j) (fun j => if j = i then u else J j) (fun j => if j = i then v else js j) := by
  intro j hj
  show upd (M 14) i 1 j = rr_b (if j = i then true else jk j) ∧ ((if j = i then true else jk j) = true → (∀ x, x < 22 → va_cpy (M 9) (M 12) 0 (22 * i) 22 ((22 * j) + x) = en (if j = i then u else J j) x) ∧ upd (M 13) i v j = (if j = i then v else js j))
  by_cases e : j = i
  · rw [if_pos e, if_pos e, if_pos e, e, pk_us, pk_us]
    refine ⟨rfl, fun _ => ⟨fun x hx => ?_, rfl⟩⟩
    rw [pk_cpy_in (by omega) (by omega), h9, show 0 + (22 * i + x - 22 * i) = x by omega]
  · rw [if_neg e, if_neg e, if_neg e, pk_un e, pk_un e]
    obtain ⟨h1, h2⟩ := h j hj
    refine ⟨h1, fun z => ⟨fun x hx => ?_, (h2 z).2⟩⟩
    rw [pk_cpy_out (by omega)]
    exact (h2 z).1 x hx
theorem z_gJ_keep {P : p_Q → Prop} {jk : Nat → Bool} {J : Nat → p_Q} (h : ∀ i, i < 2 → jk i = true → P (J i)) {i : Nat} {u : p_Q} (hu : P u) : ∀ j, j < 2 → (if j = i then true else jk j) = true → P (if j = i then u else J j) := by
  intro j hj
  by_cases e : j = i
  · rw [if_pos e, if_pos e]; exact fun _ => hu
  · rw [if_neg e, if_neg e]; exact h j hj
theorem z_i2 {x : Int32} (h : ¬ (x < 0 ∨ 2 ≤ x)) : ∃ i : Nat, i < 2 ∧ x = nI i := by
  simp only [Int32.lt_iff_toInt_lt, Int32.le_iff_toInt_le] at h
  rw [show (0 : Int32).toInt = 0 from by decide, show (2 : Int32).toInt = 2 from by decide] at h
  refine ⟨x.toInt.toNat, by omega, Int32.toInt_inj.mp ?_⟩
  rw [nI_toInt (by omega)]
  omega
theorem z_keep (x : Int32) : z_S mX10_keep mX11_keep [.ref 0, .int x] := by
  intro w1 w2 h
  obtain ⟨tc, wd, cc, kc, G, len, fa, T, u, dd, D, jk, J, js, v, sn, V, bn, B, hg, hX, hM⟩ := h
  have hX0 := hX
  have hM00 := hM
  obtain ⟨hgA, hln, hgS, hgV, hgB⟩ := hg
  obtain ⟨⟨htc, hcc, hkc, hwd, h0c, h0k⟩, hK, hL⟩ := hgA
  obtain ⟨⟨hI, hu⟩, hdd, hD, hJ⟩ := hgS
  obtain ⟨a, na, wt, q, T1, tb, wb, cb, kb, H, hx, s5, r1, r2, Y, nx, R, I, p8, N, E, V1, e1, hq, hT, hnx, hrg, him, hV1⟩ := hX
  obtain ⟨hd, a2, wr, M, e2, hG, hM0, hM9, ⟨t, hM10⟩, hP, hmi, hmv, hmb⟩ := hM
  rw [e1, e2]
  by_cases hxx : x < 0 ∨ 2 ≤ x
  · exact z_mk tc wd cc kc G len fa T u dd D jk J js v sn V bn B ⟨⟨⟨htc, hcc, hkc, hwd, h0c, h0k⟩, hK, hL⟩, hln, ⟨⟨hI, hu⟩, hdd, hD, hJ⟩, hgV, hgB⟩ (by omega) (by omega) ((c10_keepU tc wd cc kc G len a na wt q T1 tb wb cb kb H u hx s5 r1 r2 Y nx dd R I p8 N E sn V1 bn B v x hxx).toP ⟨rfl, ⟨a, na, wt, q, T1, tb, wb, cb, kb, H, hx, s5, r1, r2, Y, nx, R, I, p8, N, E, V1, rfl, hq, hT, hnx, hrg, him, hV1⟩⟩) ((m_keepU len fa hd dd v sn bn a2 wr M tc wd cc kc G hG x hxx).toP ⟨rfl, ⟨hd, a2, wr, M, rfl, hG, hM0, hM9, ⟨t, hM10⟩, hP, hmi, hmv, hmb⟩⟩)
  · obtain ⟨i, hi, rfl⟩ := z_i2 hxx
    exact z_mk tc wd cc kc G len fa T u 0 D (fun j => if j = i then true else jk j) (fun j => if j = i then u else J j) (fun j => if j = i then v else js j) v sn V bn B ⟨⟨⟨htc, hcc, hkc, hwd, h0c, h0k⟩, hK, hL⟩, hln, ⟨⟨hI, hu⟩, by omega, (fun j hj => absurd hj (Nat.not_lt_zero j)), z_gJ_keep (P := fun q => m_I G cc kc q ∧ (q.1 ≤ 9050 ∧ z_T q.2.1)) hJ ⟨hI, hu⟩⟩, hgV, hgB⟩ (by omega) (by omega) ((c10_keep tc wd cc kc G len a na wt q T1 tb wb cb kb H u hx s5 r1 r2 Y nx dd R I p8 N E sn V1 bn B v i hi).toP ⟨rfl, ⟨a, na, wt, q, T1, tb, wb, cb, kb, H, hx, s5, r1, r2, Y, 0, R, (va_up (va_up (va_up I 0 (p_sav (I 0) (i * 22) (nI u.1) u.2.1 u.2.2.1 u.2.2.2.1 u.2.2.2.2)) 1 (upd (I 1) i v)) 2 (upd (I 2) i 1)), p8, N, E, V1, rfl, hq, hT, (by omega), (fun j hj => absurd hj (Nat.not_lt_zero j)), (z_im_keep him hi u v), hV1⟩⟩) ((m_keep len fa hd dd v sn bn a2 wr M tc wd cc kc G hG i hi).toP ⟨rfl, ⟨hd, a2, wr, (va_up (va_up (va_up M 12 (va_cpy (M 9) (M 12) 0 (22 * i) 22)) 13 (upd (M 13) i v)) 14 (upd (M 14) i 1)), rfl, (by exact hG), (by exact hM0), (by exact hM9), ⟨t, by exact hM10⟩, (fun j hj => absurd hj (Nat.not_lt_zero j)), (z_mi_keep hmi hi hM9 v), (by exact hmv), (by exact hmb)⟩⟩)
theorem z_goBack (x : Int32) : z_S mX10_goBack mX11_goBack [.ref 0, .int x] := by
  intro w1 w2 h
  obtain ⟨tc, wd, cc, kc, G, len, fa, T, u, dd, D, jk, J, js, v, sn, V, bn, B, hg, hX, hM⟩ := h
  have hX0 := hX
  have hM00 := hM
  obtain ⟨hgA, hln, hgS, hgV, hgB⟩ := hg
  obtain ⟨⟨htc, hcc, hkc, hwd, h0c, h0k⟩, hK, hL⟩ := hgA
  obtain ⟨⟨hI, hu⟩, hdd, hD, hJ⟩ := hgS
  obtain ⟨a, na, wt, q, T1, tb, wb, cb, kb, H, hx, s5, r1, r2, Y, nx, R, I, p8, N, E, V1, e1, hq, hT, hnx, hrg, him, hV1⟩ := hX
  obtain ⟨hd, a2, wr, M, e2, hG, hM0, hM9, ⟨t, hM10⟩, hP, hmi, hmv, hmb⟩ := hM
  rw [e1, e2]
  by_cases hxx : x < 0 ∨ 2 ≤ x
  · exact z_mk tc wd cc kc G len fa T u dd D jk J js v sn V bn B ⟨⟨⟨htc, hcc, hkc, hwd, h0c, h0k⟩, hK, hL⟩, hln, ⟨⟨hI, hu⟩, hdd, hD, hJ⟩, hgV, hgB⟩ (by omega) (by omega) ((c10_goBackU tc wd cc kc G len a na wt q T1 tb wb cb kb H u hx s5 r1 r2 Y nx dd R I p8 N E sn V1 bn B v x hxx).toP ⟨rfl, ⟨a, na, wt, q, T1, tb, wb, cb, kb, H, hx, s5, r1, r2, Y, nx, R, I, p8, N, E, V1, rfl, hq, hT, hnx, hrg, him, hV1⟩⟩) ((m_goBackU len fa hd dd v sn bn a2 wr M tc wd cc kc G hG x hxx).toP ⟨rfl, ⟨hd, a2, wr, M, rfl, hG, hM0, hM9, ⟨t, hM10⟩, hP, hmi, hmv, hmb⟩⟩)
  · obtain ⟨i, hi, rfl⟩ := z_i2 hxx
    obtain ⟨hi1, hi2⟩ := him i hi
    obtain ⟨hm1, hm2⟩ := hmi i hi
    by_cases hj : jk i = true
    · have hw := hi2 hj
      have hag := z_ld_ag (S := u.2.2.2.2) hw.1
      exact z_mk tc wd cc kc G len fa T (z_ld u.2.2.2.2 (I 0) (i * 22) (J i)) 0 D jk J js (js i) sn V bn B ⟨⟨⟨htc, hcc, hkc, hwd, h0c, h0k⟩, hK, hL⟩, hln, ⟨⟨(hJ i hi hj).1.ag hag, (hJ i hi hj).2⟩, by omega, (fun j hj => absurd hj (Nat.not_lt_zero j)), hJ⟩, hgV, hgB⟩ (by omega) (by omega) ((c10_goBack tc wd cc kc G len a na wt q T1 tb wb cb kb H u hx s5 r1 r2 Y nx dd R I p8 N E sn V1 bn B v i hi (by rw [hi1, hj]; decide)).toP ⟨rfl, ⟨a, na, wt, q, T1, tb, wb, cb, kb, H, hx, s5, r1, r2, Y, 0, R, I, p8, N, E, V1, (by rw [hw.1.1, hw.1.2.1, hw.1.2.2.1, hw.1.2.2.2.1, hw.2]; rfl), hq, hT, (by omega), (fun j hj => absurd hj (Nat.not_lt_zero j)), him, hV1⟩⟩) ((m_goBack len fa hd dd v sn bn a2 wr M tc wd cc kc G hG u hM9 i (J i) hi (by rw [hm1, hj]; decide) (hm2 hj).1).toP ⟨rfl, ⟨hd, a2, wr, (va_up M 9 (en (J i))), (by rw [(hm2 hj).2]), (by exact hG), (by exact hM0), (en_agq hag), ⟨t, by exact hM10⟩, (fun j hj => absurd hj (Nat.not_lt_zero j)), (by exact hmi), (by exact hmv), (by exact hmb)⟩⟩)
    · have hj : jk i = false := by simpa using hj
      exact z_mk tc wd cc kc G len fa T u dd D jk J js v sn V bn B ⟨⟨⟨htc, hcc, hkc, hwd, h0c, h0k⟩, hK, hL⟩, hln, ⟨⟨hI, hu⟩, hdd, hD, hJ⟩, hgV, hgB⟩ (by omega) (by omega) ((c10_goBackN tc wd cc kc G len a na wt q T1 tb wb cb kb H u hx s5 r1 r2 Y nx dd R I p8 N E sn V1 bn B v i hi (by rw [hi1, hj]; rfl)).toP ⟨rfl, ⟨a, na, wt, q, T1, tb, wb, cb, kb, H, hx, s5, r1, r2, Y, nx, R, I, p8, N, E, V1, rfl, hq, hT, hnx, hrg, him, hV1⟩⟩) ((m_goBackN len fa hd dd v sn bn a2 wr M tc wd cc kc G hG i hi (by rw [hm1, hj]; rfl)).toP ⟨rfl, ⟨hd, a2, wr, M, rfl, hG, hM0, hM9, ⟨t, hM10⟩, hP, hmi, hmv, hmb⟩⟩)
