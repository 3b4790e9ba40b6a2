/-! what each call does to the relation: feed, tear, seed, storms, judge, see, note -/
theorem z_rn {k lo hi : Int32} {n m : Nat} (hlo : lo = nI m) (hhi : hi = nI n) (hn : n < 100000) (hm : m < 100000) (h : ¬ (k < lo ∨ hi < k)) : ∃ j : Nat, m ≤ j ∧ j ≤ n ∧ k = nI j := by
  rw [hlo, hhi] at h
  exact z_rng hn hm h
theorem z_l255 : (255 : Int32) = nI 255 := by decide +kernel
theorem z_l60 : (60 : Int32) = nI 60 := by decide +kernel
theorem z_l100 : (100 : Int32) = nI 100 := by decide +kernel
theorem z_l30 : (30 : Int32) = nI 30 := by decide +kernel
theorem z_l0 : (0 : Int32) = nI 0 := by decide +kernel
theorem z_l1 : (1 : Int32) = nI 1 := by decide +kernel
theorem z_feed (x : Int32) : z_S mX10_feed mX11_feed [.ref 0, .int x] := by
  intro w1 w2 h
  obtain ⟨tc, wd, cc, kc, G, len, fa, T, u, dd, D, jk, J, js, v, sn, V, bn, B, hg, hX, hM⟩ := h
  have hX0 := hX
  have hM00 := hM
  obtain ⟨hgA, hln, hgS, hgV, hgB⟩ := hg
  obtain ⟨⟨htc, hcc, hkc, hwd, h0c, h0k⟩, hK, hL⟩ := hgA
  obtain ⟨⟨hI, hu⟩, hdd, hD, hJ⟩ := hgS
  obtain ⟨a, na, wt, q, T1, tb, wb, cb, kb, H, hx, s5, r1, r2, Y, nx, R, I, p8, N, E, V1, e1, hq, hT, hnx, hrg, him, hV1⟩ := hX
  obtain ⟨hd, a2, wr, M, e2, hG, hM0, hM9, ⟨t, hM10⟩, hP, hmi, hmv, hmb⟩ := hM
  rw [e1, e2]
  by_cases hxx : x < 0 ∨ 255 < x
  · exact z_mk tc wd cc kc G len fa T u dd D jk J js v sn V bn B ⟨⟨⟨htc, hcc, hkc, hwd, h0c, h0k⟩, hK, hL⟩, hln, ⟨⟨hI, hu⟩, hdd, hD, hJ⟩, hgV, hgB⟩ (by omega) (by omega) ((c10_feedO tc wd cc kc G len a na wt q T1 tb wb cb kb H u hx s5 r1 r2 Y nx dd R I p8 N E sn V1 bn B v x hxx).toP ⟨rfl, ⟨a, na, wt, q, T1, tb, wb, cb, kb, H, hx, s5, r1, r2, Y, nx, R, I, p8, N, E, V1, rfl, hq, hT, hnx, hrg, him, hV1⟩⟩) ((m_feedO len fa hd dd v sn bn a2 wr M x hxx).toP ⟨rfl, ⟨hd, a2, wr, M, rfl, hG, hM0, hM9, ⟨t, hM10⟩, hP, hmi, hmv, hmb⟩⟩)
  · obtain ⟨n, _, hn, rfl⟩ := z_rn z_l0 z_l255 (by omega) (by omega) hxx
    by_cases hl : len = 240
    · exact z_mk tc wd cc kc G len fa T u dd D jk J js v sn V bn B ⟨⟨⟨htc, hcc, hkc, hwd, h0c, h0k⟩, hK, hL⟩, hln, ⟨⟨hI, hu⟩, hdd, hD, hJ⟩, hgV, hgB⟩ (by omega) (by omega) ((c10_feedF tc wd cc kc G len a na wt q T1 tb wb cb kb H u hx s5 r1 r2 Y nx dd R I p8 N E sn V1 bn B v n hn hl).toP ⟨rfl, ⟨a, na, wt, q, T1, tb, wb, cb, kb, H, hx, s5, r1, r2, Y, nx, R, I, p8, N, E, V1, rfl, hq, hT, hnx, hrg, him, hV1⟩⟩) ((m_feedF len fa hd dd v sn bn a2 wr M n hn hl).toP ⟨rfl, ⟨hd, a2, wr, M, rfl, hG, hM0, hM9, ⟨t, hM10⟩, hP, hmi, hmv, hmb⟩⟩)
    · exact z_mk tc wd cc kc G (len + 1) fa (upd T len (nI n)) u dd D jk J js v sn V bn B ⟨⟨⟨htc, hcc, hkc, hwd, h0c, h0k⟩, hK, hL⟩, (by omega), ⟨⟨hI, hu⟩, hdd, hD, hJ⟩, hgV, hgB⟩ (by omega) (by omega) ((c10_feed tc wd cc kc G len a na wt q T1 tb wb cb kb H u hx s5 r1 r2 Y nx dd R I p8 N E sn V1 bn B v n hn (by omega)).toP ⟨rfl, ⟨a, na, wt, q, (va_up T1 0 (upd (T1 0) len (nI n))), tb, wb, cb, kb, H, hx, s5, r1, r2, Y, nx, R, I, p8, N, E, V1, rfl, hq, (by show upd (T1 0) len (nI n) = upd T len (nI n); rw [hT]), hnx, hrg, him, hV1⟩⟩) ((m_feed len fa hd dd v sn bn a2 wr M n hn (by omega)).toP ⟨rfl, ⟨hd, a2, wr, (va_up M 0 (upd (M 0) len (nI n))), rfl, (by exact hG), (by show upd (M 0) len (nI n) = upd T len (nI n); rw [hM0]), (by exact hM9), ⟨t, by exact hM10⟩, (by exact hP), (by exact hmi), (by exact hmv), (by exact hmb)⟩⟩)
theorem z_tear  : z_S mX10_tear mX11_tear [.ref 0] := by
  intro w1 w2 h
  obtain ⟨tc, wd, cc, kc, G, len, fa, T, u, dd, D, jk, J, js, v, sn, V, bn, B, hg, hX, hM⟩ := h
  have hX0 := hX
  have hM00 := hM
  obtain ⟨hgA, hln, hgS, hgV, hgB⟩ := hg
  obtain ⟨⟨htc, hcc, hkc, hwd, h0c, h0k⟩, hK, hL⟩ := hgA
  obtain ⟨⟨hI, hu⟩, hdd, hD, hJ⟩ := hgS
  obtain ⟨a, na, wt, q, T1, tb, wb, cb, kb, H, hx, s5, r1, r2, Y, nx, R, I, p8, N, E, V1, e1, hq, hT, hnx, hrg, him, hV1⟩ := hX
  obtain ⟨hd, a2, wr, M, e2, hG, hM0, hM9, ⟨t, hM10⟩, hP, hmi, hmv, hmb⟩ := hM
  rw [e1, e2]
  exact z_mk tc wd cc kc G len fa T u dd D jk J js v 0 V 0 B ⟨⟨⟨htc, hcc, hkc, hwd, h0c, h0k⟩, hK, hL⟩, hln, ⟨⟨hI, hu⟩, hdd, hD, hJ⟩, ⟨by omega, fun i h => absurd h (Nat.not_lt_zero i)⟩, ⟨by omega, fun i h => absurd h (Nat.not_lt_zero i)⟩⟩ (by omega) (by omega) ((c10_tear tc wd cc kc G len a na wt q T1 tb wb cb kb H u hx s5 r1 r2 Y nx dd R I p8 N E sn V1 bn B v ).toP ⟨rfl, ⟨a, na, wt, q, T1, tb, wb, cb, kb, H, hx, s5, r1, r2, Y, nx, R, I, p8, N, E, V1, rfl, hq, hT, hnx, hrg, him, hV1⟩⟩) ((m_tear len fa hd dd v sn bn a2 wr M ).toP ⟨rfl, ⟨hd, a2, wr, M, rfl, hG, hM0, hM9, ⟨t, hM10⟩, hP, hmi, fun i h => absurd h (Nat.not_lt_zero i), fun i h => absurd h (Nat.not_lt_zero i)⟩⟩)
theorem z_seed (x : Int32) : z_S mX10_seed mX11_seed [.ref 0, .int x] := by
  intro w1 w2 h
  obtain ⟨tc, wd, cc, kc, G, len, fa, T, u, dd, D, jk, J, js, v, sn, V, bn, B, hg, hX, hM⟩ := h
  have hX0 := hX
  have hM00 := hM
  obtain ⟨hgA, hln, hgS, hgV, hgB⟩ := hg
  obtain ⟨⟨htc, hcc, hkc, hwd, h0c, h0k⟩, hK, hL⟩ := hgA
  obtain ⟨⟨hI, hu⟩, hdd, hD, hJ⟩ := hgS
  obtain ⟨a, na, wt, q, T1, tb, wb, cb, kb, H, hx, s5, r1, r2, Y, nx, R, I, p8, N, E, V1, e1, hq, hT, hnx, hrg, him, hV1⟩ := hX
  obtain ⟨hd, a2, wr, M, e2, hG, hM0, hM9, ⟨t, hM10⟩, hP, hmi, hmv, hmb⟩ := hM
  rw [e1, e2]
  by_cases hb : x < 0
  · exact z_mk tc wd cc kc G len fa T u dd D jk J js v sn V bn B ⟨⟨⟨htc, hcc, hkc, hwd, h0c, h0k⟩, hK, hL⟩, hln, ⟨⟨hI, hu⟩, hdd, hD, hJ⟩, hgV, hgB⟩ (by omega) (by omega) ((c10_seedO tc wd cc kc G len a na wt q T1 tb wb cb kb H u hx s5 r1 r2 Y nx dd R I p8 N E sn V1 bn B v x hb).toP ⟨rfl, ⟨a, na, wt, q, T1, tb, wb, cb, kb, H, hx, s5, r1, r2, Y, nx, R, I, p8, N, E, V1, rfl, hq, hT, hnx, hrg, him, hV1⟩⟩) ((m_seedO len fa hd dd v sn bn a2 wr M x hb).toP ⟨rfl, ⟨hd, a2, wr, M, rfl, hG, hM0, hM9, ⟨t, hM10⟩, hP, hmi, hmv, hmb⟩⟩)
  · exact z_mk tc wd cc kc G len fa T u dd D jk J js x sn V bn B ⟨⟨⟨htc, hcc, hkc, hwd, h0c, h0k⟩, hK, hL⟩, hln, ⟨⟨hI, hu⟩, hdd, hD, hJ⟩, hgV, hgB⟩ (by omega) (by omega) ((c10_seed tc wd cc kc G len a na wt q T1 tb wb cb kb H u hx s5 r1 r2 Y nx dd R I p8 N E sn V1 bn B v x hb).toP ⟨rfl, ⟨a, na, wt, q, T1, tb, wb, cb, kb, H, hx, s5, r1, r2, Y, nx, R, I, p8, N, E, V1, rfl, hq, hT, hnx, hrg, him, hV1⟩⟩) ((m_seed len fa hd dd v sn bn a2 wr M x hb).toP ⟨rfl, ⟨hd, a2, wr, M, rfl, hG, hM0, hM9, ⟨t, hM10⟩, hP, hmi, hmv, hmb⟩⟩)
theorem z_storms (x y : Int32) : z_S mX10_storms mX11_storms [.ref 0, .int x, .int y] := by
  intro w1 w2 h
  obtain ⟨tc, wd, cc, kc, G, len, fa, T, u, dd, D, jk, J, js, v, sn, V, bn, B, hg, hX, hM⟩ := h
  have hX0 := hX
  have hM00 := hM
  obtain ⟨hgA, hln, hgS, hgV, hgB⟩ := hg
  obtain ⟨⟨htc, hcc, hkc, hwd, h0c, h0k⟩, hK, hL⟩ := hgA
  obtain ⟨⟨hI, hu⟩, hdd, hD, hJ⟩ := hgS
  obtain ⟨a, na, wt, q, T1, tb, wb, cb, kb, H, hx, s5, r1, r2, Y, nx, R, I, p8, N, E, V1, e1, hq, hT, hnx, hrg, him, hV1⟩ := hX
  obtain ⟨hd, a2, wr, M, e2, hG, hM0, hM9, ⟨t, hM10⟩, hP, hmi, hmv, hmb⟩ := hM
  rw [e1, e2]
  by_cases hxx : x < 0 ∨ 60 < x ∨ y < 0 ∨ 100 < y
  · exact z_mk tc wd cc kc G len fa T u dd D jk J js v sn V bn B ⟨⟨⟨htc, hcc, hkc, hwd, h0c, h0k⟩, hK, hL⟩, hln, ⟨⟨hI, hu⟩, hdd, hD, hJ⟩, hgV, hgB⟩ (by omega) (by omega) ((c10_stormsO tc wd cc kc G len a na wt q T1 tb wb cb kb H u hx s5 r1 r2 Y nx dd R I p8 N E sn V1 bn B v x y hxx).toP ⟨rfl, ⟨a, na, wt, q, T1, tb, wb, cb, kb, H, hx, s5, r1, r2, Y, nx, R, I, p8, N, E, V1, rfl, hq, hT, hnx, hrg, him, hV1⟩⟩) ((m_stormsO len fa hd dd v sn bn a2 wr M tc wd cc kc G hG x y hxx).toP ⟨rfl, ⟨hd, a2, wr, M, rfl, hG, hM0, hM9, ⟨t, hM10⟩, hP, hmi, hmv, hmb⟩⟩)
  · obtain ⟨n, _, hn, rfl⟩ := z_rn (k := x) z_l0 z_l60 (by omega) (by omega) (fun z => hxx (z.elim Or.inl (fun z => Or.inr (Or.inl z))))
    obtain ⟨m, _, hm, rfl⟩ := z_rn (k := y) z_l0 z_l100 (by omega) (by omega) (fun z => hxx (Or.inr (Or.inr z)))
    exact z_mk tc wd cc kc G len fa T u dd D jk J js v sn V bn B ⟨⟨⟨htc, hcc, hkc, hwd, h0c, h0k⟩, hK, hL⟩, hln, ⟨⟨hI, hu⟩, hdd, hD, hJ⟩, hgV, hgB⟩ (by omega) (by omega) ((c10_storms tc wd cc kc G len a na wt q T1 tb wb cb kb H u hx s5 r1 r2 Y nx dd R I p8 N E sn V1 bn B v n m hn hm).toP ⟨rfl, ⟨a, na, wt, q, T1, tb, wb, cb, kb, H, hx, s5, r1, r2, Y, nx, R, I, p8, N, E, V1, rfl, hq, hT, hnx, hrg, him, hV1⟩⟩) ((m_storms len fa hd dd v sn bn a2 wr M tc wd cc kc G hG n m hn hm).toP ⟨rfl, ⟨hd, a2, wr, M, rfl, hG, hM0, hM9, ⟨t, hM10⟩, hP, hmi, hmv, hmb⟩⟩)
theorem z_judge  : z_S mX10_judge mX11_judge [.ref 0] := by
  intro w1 w2 h
  obtain ⟨tc, wd, cc, kc, G, len, fa, T, u, dd, D, jk, J, js, v, sn, V, bn, B, hg, hX, hM⟩ := h
  have hX0 := hX
  have hM00 := hM
  obtain ⟨hgA, hln, hgS, hgV, hgB⟩ := hg
  obtain ⟨⟨htc, hcc, hkc, hwd, h0c, h0k⟩, hK, hL⟩ := hgA
  obtain ⟨⟨hI, hu⟩, hdd, hD, hJ⟩ := hgS
  obtain ⟨a, na, wt, q, T1, tb, wb, cb, kb, H, hx, s5, r1, r2, Y, nx, R, I, p8, N, E, V1, e1, hq, hT, hnx, hrg, him, hV1⟩ := hX
  obtain ⟨hd, a2, wr, M, e2, hG, hM0, hM9, ⟨t, hM10⟩, hP, hmi, hmv, hmb⟩ := hM
  rw [e1, e2]
  exact z_mk tc wd cc kc G len fa T u dd D jk J js v sn V bn B ⟨⟨⟨htc, hcc, hkc, hwd, h0c, h0k⟩, hK, hL⟩, hln, ⟨⟨hI, hu⟩, hdd, hD, hJ⟩, hgV, hgB⟩ (by omega) (by omega) ((c10_judge tc wd cc kc G len a na wt q T1 tb wb cb kb H u hx s5 r1 r2 Y nx dd R I p8 N E sn V1 bn B v hgB.1 hgB.2).toP ⟨rfl, ⟨a, na, wt, q, T1, tb, wb, cb, kb, H, hx, s5, r1, r2, Y, nx, R, I, p8, N, E, V1, rfl, hq, hT, hnx, hrg, him, hV1⟩⟩) ((m_judge len fa hd dd v sn bn a2 wr M tc wd cc kc G hG u hM9 B hgB.1 (fun i hi => by obtain ⟨k, h1, h2⟩ := hgB.2 i hi; exact ⟨k, h1, h2, (hmb i hi).1.trans h2, (hmb i hi).2⟩)).toP ⟨rfl, ⟨hd, a2, wr, M, rfl, hG, hM0, hM9, ⟨t, hM10⟩, hP, hmi, hmv, hmb⟩⟩)
theorem z_V3 {V1 V : Nat → Nat → Int32} (h : ∀ i, i < 3 → V1 i = V i) {n : Nat} {x y z : Int32} : ∀ i, i < 3 → va_up (va_up (va_up V1 0 (upd (V1 0) n x)) 1 (upd (V1 1) n y)) 2 (upd (V1 2) n z) i = va_up (va_up (va_up V 0 (upd (V 0) n x)) 1 (upd (V 1) n y)) 2 (upd (V 2) n z) i := by
  intro i hi
  rcases (show i = 0 ∨ i = 1 ∨ i = 2 by omega) with rfl | rfl | rfl
  · show upd (V1 0) n x = upd (V 0) n x
    rw [h 0 (by omega)]
  · show upd (V1 1) n y = upd (V 1) n y
    rw [h 1 (by omega)]
  · show upd (V1 2) n z = upd (V 2) n z
    rw [h 2 (by omega)]
theorem z_mv3 {M : Nat → Nat → Int32} {sn : Nat} {V : Nat → Nat → Int32} (h : z_mv M sn V) {x y z : Int32} : z_mv (va_up M 15 (upd (upd (upd (M 15) (3 * sn) x) ((3 * sn) + 1) y) ((3 * sn) + 2) z)) (sn + 1) (va_up (va_up (va_up V 0 (upd (V 0) sn x)) 1 (upd (V 1) sn y)) 2 (upd (V 2) sn z)) := by
  intro i hi
  show upd (upd (upd (M 15) (3 * sn) x) ((3 * sn) + 1) y) ((3 * sn) + 2) z (3 * i) = upd (V 0) sn x i ∧ upd (upd (upd (M 15) (3 * sn) x) ((3 * sn) + 1) y) ((3 * sn) + 2) z (3 * i + 1) = upd (V 1) sn y i ∧ upd (upd (upd (M 15) (3 * sn) x) ((3 * sn) + 1) y) ((3 * sn) + 2) z (3 * i + 2) = upd (V 2) sn z i
  by_cases e : i = sn
  · rw [e]
    refine ⟨?_, ?_, ?_⟩
    · rw [pk_un (by omega), pk_un (by omega), pk_us, pk_us]
    · rw [pk_un (by omega), pk_us, pk_us]
    · rw [pk_us, pk_us]
  · obtain ⟨h1, h2, h3⟩ := h i (by omega)
    refine ⟨?_, ?_, ?_⟩
    · rw [pk_un (by omega), pk_un (by omega), pk_un (by omega), pk_un e]; exact h1
    · rw [pk_un (by omega), pk_un (by omega), pk_un (by omega), pk_un e]; exact h2
    · rw [pk_un (by omega), pk_un (by omega), pk_un (by omega), pk_un e]; exact h3
theorem z_gV3 {sn : Nat} {V : Nat → Nat → Int32} (h : z_gV sn V) (hs : ¬ sn = 8) {k n : Nat} {z : Bool} (hk : k < 6) (hn : n ≤ 60) : z_gV (sn + 1) (va_up (va_up (va_up V 0 (upd (V 0) sn (nI k))) 1 (upd (V 1) sn (nI n))) 2 (upd (V 2) sn (rr_b z))) := by
  refine ⟨by have := h.1; omega, fun i hi => ?_⟩
  show ∃ (k' h' : Nat) (z' : Bool), k' < 6 ∧ h' ≤ 60 ∧ upd (V 0) sn (nI k) i = nI k' ∧ upd (V 1) sn (nI n) i = nI h' ∧ upd (V 2) sn (rr_b z) i = rr_b z'
  by_cases e : i = sn
  · rw [e]
    exact ⟨k, n, z, hk, hn, pk_us, pk_us, pk_us⟩
  · rw [pk_un e, pk_un e, pk_un e]
    exact h.2 i (by omega)
theorem z_mb2 {M : Nat → Nat → Int32} {bn : Nat} {B : Nat → Nat → Int32} (h : z_mb M bn B) {x y : Int32} : z_mb (va_up M 16 (upd (upd (M 16) (2 * bn) x) ((2 * bn) + 1) y)) (bn + 1) (va_up (va_up B 0 (upd (B 0) bn x)) 1 (upd (B 1) bn y)) := by
  intro i hi
  show upd (upd (M 16) (2 * bn) x) ((2 * bn) + 1) y (2 * i) = upd (B 0) bn x i ∧ upd (upd (M 16) (2 * bn) x) ((2 * bn) + 1) y (2 * i + 1) = upd (B 1) bn y i
  by_cases e : i = bn
  · rw [e]
    refine ⟨?_, ?_⟩
    · rw [pk_un (by omega), pk_us, pk_us]
    · rw [pk_us, pk_us]
  · obtain ⟨h1, h2⟩ := h i (by omega)
    refine ⟨?_, ?_⟩
    · rw [pk_un (by omega), pk_un (by omega), pk_un e]; exact h1
    · rw [pk_un (by omega), pk_un (by omega), pk_un e]; exact h2
theorem z_gB2 {bn : Nat} {B : Nat → Nat → Int32} (h : z_gB bn B) (hb : ¬ bn = 20) {k : Nat} (hk : k < 6) (y : Int32) : z_gB (bn + 1) (va_up (va_up B 0 (upd (B 0) bn (nI k))) 1 (upd (B 1) bn y)) := by
  refine ⟨by have := h.1; omega, fun i hi => ?_⟩
  show ∃ k', k' < 6 ∧ upd (B 0) bn (nI k) i = nI k'
  by_cases e : i = bn
  · rw [e]
    exact ⟨k, hk, pk_us⟩
  · rw [pk_un e]
    exact h.2 i (by omega)
theorem z_see (k h0 : Int32) (z : Bool) : z_S mX10_see mX11_see [.ref 0, .int k, .int h0, .int (rr_b z)] := by
  intro w1 w2 h
  obtain ⟨tc, wd, cc, kc, G, len, fa, T, u, dd, D, jk, J, js, v, sn, V, bn, B, hg, hX, hM⟩ := h
  have hX0 := hX
  have hM00 := hM
  obtain ⟨hgA, hln, hgS, hgV, hgB⟩ := hg
  obtain ⟨⟨htc, hcc, hkc, hwd, h0c, h0k⟩, hK, hL⟩ := hgA
  obtain ⟨⟨hI, hu⟩, hdd, hD, hJ⟩ := hgS
  obtain ⟨a, na, wt, q, T1, tb, wb, cb, kb, H, hx, s5, r1, r2, Y, nx, R, I, p8, N, E, V1, e1, hq, hT, hnx, hrg, him, hV1⟩ := hX
  obtain ⟨hd, a2, wr, M, e2, hG, hM0, hM9, ⟨t, hM10⟩, hP, hmi, hmv, hmb⟩ := hM
  rw [e1, e2]
  by_cases hin_k : p_in k (nI kc) = true
  · obtain ⟨j_k, hk, rfl⟩ := z_in (by omega) hin_k
    by_cases hh : h0 < 0 ∨ 60 < h0
    · exact z_mk tc wd cc kc G len fa T u dd D jk J js v sn V bn B ⟨⟨⟨htc, hcc, hkc, hwd, h0c, h0k⟩, hK, hL⟩, hln, ⟨⟨hI, hu⟩, hdd, hD, hJ⟩, hgV, hgB⟩ (by omega) (by omega) ((c10_seeO tc wd cc kc G len a na wt q T1 tb wb cb kb H u hx s5 r1 r2 Y nx dd R I p8 N E sn V1 bn B v j_k h0 z htc hcc hkc hk hh).toP ⟨rfl, ⟨a, na, wt, q, T1, tb, wb, cb, kb, H, hx, s5, r1, r2, Y, nx, R, I, p8, N, E, V1, rfl, hq, hT, hnx, hrg, him, hV1⟩⟩) ((m_seeO len fa hd dd v sn bn a2 wr M tc wd cc kc G hG j_k h0 z htc hcc hkc hk hh).toP ⟨rfl, ⟨hd, a2, wr, M, rfl, hG, hM0, hM9, ⟨t, hM10⟩, hP, hmi, hmv, hmb⟩⟩)
    · obtain ⟨n, _, hn, rfl⟩ := z_rn (k := h0) z_l0 z_l60 (by omega) (by omega) hh
      by_cases hs : sn = 8
      · exact z_mk tc wd cc kc G len fa T u dd D jk J js v sn V bn B ⟨⟨⟨htc, hcc, hkc, hwd, h0c, h0k⟩, hK, hL⟩, hln, ⟨⟨hI, hu⟩, hdd, hD, hJ⟩, hgV, hgB⟩ (by omega) (by omega) ((c10_seeF tc wd cc kc G len a na wt q T1 tb wb cb kb H u hx s5 r1 r2 Y nx dd R I p8 N E sn V1 bn B v j_k n z htc hcc hkc hk hn hs).toP ⟨rfl, ⟨a, na, wt, q, T1, tb, wb, cb, kb, H, hx, s5, r1, r2, Y, nx, R, I, p8, N, E, V1, rfl, hq, hT, hnx, hrg, him, hV1⟩⟩) ((m_seeF len fa hd dd v sn bn a2 wr M tc wd cc kc G hG j_k n z htc hcc hkc hk hn hs).toP ⟨rfl, ⟨hd, a2, wr, M, rfl, hG, hM0, hM9, ⟨t, hM10⟩, hP, hmi, hmv, hmb⟩⟩)
      · exact z_mk tc wd cc kc G len fa T u dd D jk J js v (sn + 1) (va_up (va_up (va_up V 0 (upd (V 0) sn (nI j_k))) 1 (upd (V 1) sn (nI n))) 2 (upd (V 2) sn (rr_b z))) bn B ⟨⟨⟨htc, hcc, hkc, hwd, h0c, h0k⟩, hK, hL⟩, hln, ⟨⟨hI, hu⟩, hdd, hD, hJ⟩, z_gV3 hgV (by omega) (by omega) hn, hgB⟩ (by omega) (by omega) ((c10_see tc wd cc kc G len a na wt q T1 tb wb cb kb H u hx s5 r1 r2 Y nx dd R I p8 N E sn V1 bn B v j_k n z htc hcc hkc hk hn (by have := hgV.1; omega)).toP ⟨rfl, ⟨a, na, wt, q, T1, tb, wb, cb, kb, H, hx, s5, r1, r2, Y, nx, R, I, p8, N, E, (va_up (va_up (va_up V1 0 (upd (V1 0) sn (nI j_k))) 1 (upd (V1 1) sn (nI n))) 2 (upd (V1 2) sn (rr_b z))), rfl, hq, hT, hnx, hrg, him, z_V3 hV1⟩⟩) ((m_see len fa hd dd v sn bn a2 wr M tc wd cc kc G hG j_k n z htc hcc hkc hk hn (by have := hgV.1; omega)).toP ⟨rfl, ⟨hd, a2, wr, (va_up M 15 (upd (upd (upd (M 15) (3 * sn) (nI j_k)) ((3 * sn) + 1) (nI n)) ((3 * sn) + 2) (rr_b z))), rfl, (by exact hG), hM0, hM9, ⟨t, hM10⟩, hP, hmi, z_mv3 hmv, hmb⟩⟩)
  · have hn : p_in k (nI kc) = false := by simpa using hin_k
    exact z_mk tc wd cc kc G len fa T u dd D jk J js v sn V bn B ⟨⟨⟨htc, hcc, hkc, hwd, h0c, h0k⟩, hK, hL⟩, hln, ⟨⟨hI, hu⟩, hdd, hD, hJ⟩, hgV, hgB⟩ (by omega) (by omega) ((c10_seeU tc wd cc kc G len a na wt q T1 tb wb cb kb H u hx s5 r1 r2 Y nx dd R I p8 N E sn V1 bn B v k h0 z hn).toP ⟨rfl, ⟨a, na, wt, q, T1, tb, wb, cb, kb, H, hx, s5, r1, r2, Y, nx, R, I, p8, N, E, V1, rfl, hq, hT, hnx, hrg, him, hV1⟩⟩) ((m_seeU len fa hd dd v sn bn a2 wr M tc wd cc kc G hG k h0 z htc hcc hkc hn).toP ⟨rfl, ⟨hd, a2, wr, M, rfl, hG, hM0, hM9, ⟨t, hM10⟩, hP, hmi, hmv, hmb⟩⟩)
theorem z_note (k c : Int32) : z_S mX10_note mX11_note [.ref 0, .int k, .int c] := by
  intro w1 w2 h
  obtain ⟨tc, wd, cc, kc, G, len, fa, T, u, dd, D, jk, J, js, v, sn, V, bn, B, hg, hX, hM⟩ := h
  have hX0 := hX
  have hM00 := hM
  obtain ⟨hgA, hln, hgS, hgV, hgB⟩ := hg
  obtain ⟨⟨htc, hcc, hkc, hwd, h0c, h0k⟩, hK, hL⟩ := hgA
  obtain ⟨⟨hI, hu⟩, hdd, hD, hJ⟩ := hgS
  obtain ⟨a, na, wt, q, T1, tb, wb, cb, kb, H, hx, s5, r1, r2, Y, nx, R, I, p8, N, E, V1, e1, hq, hT, hnx, hrg, him, hV1⟩ := hX
  obtain ⟨hd, a2, wr, M, e2, hG, hM0, hM9, ⟨t, hM10⟩, hP, hmi, hmv, hmb⟩ := hM
  rw [e1, e2]
  by_cases hin_k : p_in k (nI kc) = true
  · obtain ⟨j_k, hk, rfl⟩ := z_in (by omega) hin_k
    by_cases hc : c = -1 ∨ p_in c (nI cc) = true
    · by_cases hs : bn = 20
      · exact z_mk tc wd cc kc G len fa T u dd D jk J js v sn V bn B ⟨⟨⟨htc, hcc, hkc, hwd, h0c, h0k⟩, hK, hL⟩, hln, ⟨⟨hI, hu⟩, hdd, hD, hJ⟩, hgV, hgB⟩ (by omega) (by omega) ((c10_noteF tc wd cc kc G len a na wt q T1 tb wb cb kb H u hx s5 r1 r2 Y nx dd R I p8 N E sn V1 bn B v j_k c htc hcc hkc hk hc hs).toP ⟨rfl, ⟨a, na, wt, q, T1, tb, wb, cb, kb, H, hx, s5, r1, r2, Y, nx, R, I, p8, N, E, V1, rfl, hq, hT, hnx, hrg, him, hV1⟩⟩) ((m_noteF len fa hd dd v sn bn a2 wr M tc wd cc kc G hG j_k c htc hcc hkc hk hc hs).toP ⟨rfl, ⟨hd, a2, wr, M, rfl, hG, hM0, hM9, ⟨t, hM10⟩, hP, hmi, hmv, hmb⟩⟩)
      · exact z_mk tc wd cc kc G len fa T u dd D jk J js v sn V (bn + 1) (va_up (va_up B 0 (upd (B 0) bn (nI j_k))) 1 (upd (B 1) bn c)) ⟨⟨⟨htc, hcc, hkc, hwd, h0c, h0k⟩, hK, hL⟩, hln, ⟨⟨hI, hu⟩, hdd, hD, hJ⟩, hgV, z_gB2 hgB hs (by omega) c⟩ (by omega) (by omega) ((c10_note tc wd cc kc G len a na wt q T1 tb wb cb kb H u hx s5 r1 r2 Y nx dd R I p8 N E sn V1 bn B v j_k c htc hcc hkc hk hc (by have := hgB.1; omega)).toP ⟨rfl, ⟨a, na, wt, q, T1, tb, wb, cb, kb, H, hx, s5, r1, r2, Y, nx, R, I, p8, N, E, V1, rfl, hq, hT, hnx, hrg, him, hV1⟩⟩) ((m_note len fa hd dd v sn bn a2 wr M tc wd cc kc G hG j_k c htc hcc hkc hk hc (by have := hgB.1; omega)).toP ⟨rfl, ⟨hd, a2, wr, (va_up M 16 (upd (upd (M 16) (2 * bn) (nI j_k)) ((2 * bn) + 1) c)), rfl, (by exact hG), hM0, hM9, ⟨t, hM10⟩, hP, hmi, hmv, z_mb2 hmb⟩⟩)
    · have hc2 : ¬ c = -1 ∧ p_in c (nI cc) = false := ⟨fun z => hc (Or.inl z), by simpa using fun z => hc (Or.inr z)⟩
      exact z_mk tc wd cc kc G len fa T u dd D jk J js v sn V bn B ⟨⟨⟨htc, hcc, hkc, hwd, h0c, h0k⟩, hK, hL⟩, hln, ⟨⟨hI, hu⟩, hdd, hD, hJ⟩, hgV, hgB⟩ (by omega) (by omega) ((c10_noteU tc wd cc kc G len a na wt q T1 tb wb cb kb H u hx s5 r1 r2 Y nx dd R I p8 N E sn V1 bn B v (nI j_k) c (Or.inr hc2)).toP ⟨rfl, ⟨a, na, wt, q, T1, tb, wb, cb, kb, H, hx, s5, r1, r2, Y, nx, R, I, p8, N, E, V1, rfl, hq, hT, hnx, hrg, him, hV1⟩⟩) ((m_noteU len fa hd dd v sn bn a2 wr M tc wd cc kc G hG (nI j_k) c htc hcc hkc (Or.inr hc2)).toP ⟨rfl, ⟨hd, a2, wr, M, rfl, hG, hM0, hM9, ⟨t, hM10⟩, hP, hmi, hmv, hmb⟩⟩)
  · have hn : p_in k (nI kc) = false := by simpa using hin_k
    exact z_mk tc wd cc kc G len fa T u dd D jk J js v sn V bn B ⟨⟨⟨htc, hcc, hkc, hwd, h0c, h0k⟩, hK, hL⟩, hln, ⟨⟨hI, hu⟩, hdd, hD, hJ⟩, hgV, hgB⟩ (by omega) (by omega) ((c10_noteU tc wd cc kc G len a na wt q T1 tb wb cb kb H u hx s5 r1 r2 Y nx dd R I p8 N E sn V1 bn B v k c (Or.inl hn)).toP ⟨rfl, ⟨a, na, wt, q, T1, tb, wb, cb, kb, H, hx, s5, r1, r2, Y, nx, R, I, p8, N, E, V1, rfl, hq, hT, hnx, hrg, him, hV1⟩⟩) ((m_noteU len fa hd dd v sn bn a2 wr M tc wd cc kc G hG k c htc hcc hkc (Or.inl hn)).toP ⟨rfl, ⟨hd, a2, wr, M, rfl, hG, hM0, hM9, ⟨t, hM10⟩, hP, hmi, hmv, hmb⟩⟩)
