/-! both sides' relation, over one state told apart from both -/
/-- a row of the class's deeds or images at a is the state q -/
def z_rw (f : Nat → Int32) (a : Nat) (q : p_Q) : Prop := f a = nI q.1 ∧ f (a + 1) = q.2.1 ∧ f (a + 2) = q.2.2.1 ∧ f (a + 3) = q.2.2.2.1 ∧ ∀ k, k < 6 → f (a + 4 + k) = q.2.2.2.2 0 k ∧ f (a + 10 + k) = q.2.2.2.2 1 k ∧ f (a + 16 + k) = q.2.2.2.2 2 k
/-- the ring: the j-th of the dd deeds that are kept -/
def z_rg (f : Nat → Int32) (nx dd : Nat) (D : Nat → p_Q) : Prop := ∀ j, j < dd → z_rw f (((nx + 30 - dd + j) % 30) * 22) (D j)
def z_im (I : Nat → Nat → Int32) (jk : Nat → Bool) (J : Nat → p_Q) (js : Nat → Int32) : Prop := ∀ i, i < 2 → I 2 i = rr_b (jk i) ∧ (jk i = true → z_rw (I 0) (i * 22) (J i) ∧ I 1 i = js i)
def z_mi (M : Nat → Nat → Int32) (jk : Nat → Bool) (J : Nat → p_Q) (js : Nat → Int32) : Prop := ∀ i, i < 2 → M 14 i = rr_b (jk i) ∧ (jk i = true → (∀ j, j < 22 → M 12 ((22 * i) + j) = en (J i) j) ∧ M 13 i = js i)
def z_mv (M : Nat → Nat → Int32) (sn : Nat) (V : Nat → Nat → Int32) : Prop := ∀ i, i < sn → M 15 (3 * i) = V 0 i ∧ M 15 ((3 * i) + 1) = V 1 i ∧ M 15 ((3 * i) + 2) = V 2 i
def z_mb (M : Nat → Nat → Int32) (bn : Nat) (B : Nat → Nat → Int32) : Prop := ∀ i, i < bn → M 16 (2 * i) = B 0 i ∧ M 16 ((2 * i) + 1) = B 1 i
def z_gA (tc wd cc kc : Nat) (G : Nat → Nat → Int32) : Prop := (tc ≤ 12 ∧ cc ≤ 9 ∧ kc ≤ 6 ∧ wd ≤ 30 ∧ (0 < cc → 0 < tc) ∧ (0 < kc → 0 < tc)) ∧ (∀ j, j < kc → ∃ t : Nat, G 2 j = nI t ∧ 1 ≤ t ∧ t ≤ 6) ∧ (∀ j, j < kc → G 3 j = -1 ∨ ∃ l, l < j ∧ G 3 j = nI l)
def z_gS (cc kc : Nat) (G : Nat → Nat → Int32) (u : p_Q) (dd : Nat) (D : Nat → p_Q) (jk : Nat → Bool) (J : Nat → p_Q) : Prop := (m_I G cc kc u ∧ (u.1 ≤ 9050 ∧ z_T u.2.1)) ∧ dd ≤ 30 ∧ (∀ j, j < dd → m_I G cc kc (D j) ∧ ((D j).1 ≤ 9050 ∧ z_T (D j).2.1)) ∧ (∀ i, i < 2 → jk i = true → m_I G cc kc (J i) ∧ ((J i).1 ≤ 9050 ∧ z_T (J i).2.1))
def z_gV (sn : Nat) (V : Nat → Nat → Int32) : Prop := sn ≤ 8 ∧ ∀ i, i < sn → ∃ (k h : Nat) (z : Bool), k < 6 ∧ h ≤ 60 ∧ V 0 i = nI k ∧ V 1 i = nI h ∧ V 2 i = rr_b z
def z_gB (bn : Nat) (B : Nat → Nat → Int32) : Prop := bn ≤ 20 ∧ ∀ i, i < bn → ∃ k : Nat, k < 6 ∧ B 0 i = nI k
def z_g (tc wd cc kc : Nat) (G : Nat → Nat → Int32) (len : Nat) (fa : Int32) (T : Nat → Int32) (u : p_Q) (dd : Nat) (D : Nat → p_Q) (jk : Nat → Bool) (J : Nat → p_Q) (js : Nat → Int32) (v : Int32) (sn : Nat) (V : Nat → Nat → Int32) (bn : Nat) (B : Nat → Nat → Int32) : Prop := z_gA tc wd cc kc G ∧ len ≤ 240 ∧ z_gS cc kc G u dd D jk J ∧ z_gV sn V ∧ z_gB bn B
def z_X (tc wd cc kc : Nat) (G : Nat → Nat → Int32) (len : Nat) (fa : Int32) (T : Nat → Int32) (u : p_Q) (dd : Nat) (D : Nat → p_Q) (jk : Nat → Bool) (J : Nat → p_Q) (js : Nat → Int32) (v : Int32) (sn : Nat) (V : Nat → Nat → Int32) (bn : Nat) (B : Nat → Nat → Int32) (w : rr_A) : Prop := ∃ (a na : Nat) (wt : Bool) (q : Int32 × Int32) (T1 : Nat → Nat → Int32) (tb wb cb kb : Nat) (H : Nat → Nat → Int32) (hx : Nat) (s5 r1 r2 : Int32) (Y : Nat → Nat → Int32) (nx : Nat) (R I : Nat → Nat → Int32) (p8 : Nat → Int32) (N E V1 : Nat → Nat → Int32), w = W_X (gv tc wd cc kc) G (rv len a na wt q) T1 (gv tb wb cb kb) H (sv4 (nI u.1) u.2.1 u.2.2.1 u.2.2.2.1) u.2.2.2.2 (sv4 (nI hx) s5 r1 r2) Y (pv nx dd) R I p8 N E (dv (nI sn)) V1 (dv (nI bn)) B (dv v) ∧ q.2 = fa ∧ T1 0 = T ∧ nx < 30 ∧ z_rg (R 0) nx dd D ∧ z_im I jk J js ∧ (∀ i, i < 3 → V1 i = V i)
def z_M (tc wd cc kc : Nat) (G : Nat → Nat → Int32) (len : Nat) (fa : Int32) (T : Nat → Int32) (u : p_Q) (dd : Nat) (D : Nat → p_Q) (jk : Nat → Bool) (J : Nat → p_Q) (js : Nat → Int32) (v : Int32) (sn : Nat) (V : Nat → Nat → Int32) (bn : Nat) (B : Nat → Nat → Int32) (w : rr_A) : Prop := ∃ (hd : Bool) (a : Nat) (wr : Int32) (M : Nat → Nat → Int32), w = W_M (mv len fa hd dd v sn bn a wr) M ∧ m_G M G tc wd cc kc ∧ M 0 = T ∧ M 9 = en u ∧ (∃ t : p_Q, M 10 = en t) ∧ m_P (M 11) D dd ∧ z_mi M jk J js ∧ z_mv M sn V ∧ z_mb M bn B
def z_R (w1 w2 : rr_A) : Prop := ∃ (tc wd cc kc : Nat) (G : Nat → Nat → Int32) (len : Nat) (fa : Int32) (T : Nat → Int32) (u : p_Q) (dd : Nat) (D : Nat → p_Q) (jk : Nat → Bool) (J : Nat → p_Q) (js : Nat → Int32) (v : Int32) (sn : Nat) (V : Nat → Nat → Int32) (bn : Nat) (B : Nat → Nat → Int32), z_g tc wd cc kc G len fa T u dd D jk J js v sn V bn B ∧ z_X tc wd cc kc G len fa T u dd D jk J js v sn V bn B w1 ∧ z_M tc wd cc kc G len fa T u dd D jk J js v sn V bn B w2
/-- a call of both: one answer, and the relation is kept -/
def z_S (m1 m2 : rr_M) (args : List Value) : Prop := ∀ w1 w2, z_R w1 w2 → ∃ (d1 d2 : Nat) (x : Int32) (Q1 Q2 : rr_A → Prop), d1 < 9 ∧ d2 < 9 ∧ rr_CP m1 d1 args w1 0 0 (fun r w => r = some x ∧ Q1 w) ∧ rr_CP m2 d2 args w2 0 0 (fun r w => r = some x ∧ Q2 w) ∧ (∀ w1 w2, Q1 w1 → Q2 w2 → z_R w1 w2) ∧ (∀ w, Q1 w → ∃ (tc wd cc kc : Nat) (G : Nat → Nat → Int32) (len : Nat) (fa : Int32) (T : Nat → Int32) (u : p_Q) (dd : Nat) (D : Nat → p_Q) (jk : Nat → Bool) (J : Nat → p_Q) (js : Nat → Int32) (v : Int32) (sn : Nat) (V : Nat → Nat → Int32) (bn : Nat) (B : Nat → Nat → Int32), z_X tc wd cc kc G len fa T u dd D jk J js v sn V bn B w) ∧ (∀ w, Q2 w → ∃ (tc wd cc kc : Nat) (G : Nat → Nat → Int32) (len : Nat) (fa : Int32) (T : Nat → Int32) (u : p_Q) (dd : Nat) (D : Nat → p_Q) (jk : Nat → Bool) (J : Nat → p_Q) (js : Nat → Int32) (v : Int32) (sn : Nat) (V : Nat → Nat → Int32) (bn : Nat) (B : Nat → Nat → Int32), z_M tc wd cc kc G len fa T u dd D jk J js v sn V bn B w)
theorem z_mk {m1 m2 : rr_M} {args : List Value} {w1 w2 : rr_A} {x : Int32} {d1 d2 : Nat} (tc wd cc kc : Nat) (G : Nat → Nat → Int32) (len : Nat) (fa : Int32) (T : Nat → Int32) (u : p_Q) (dd : Nat) (D : Nat → p_Q) (jk : Nat → Bool) (J : Nat → p_Q) (js : Nat → Int32) (v : Int32) (sn : Nat) (V : Nat → Nat → Int32) (bn : Nat) (B : Nat → Nat → Int32) (hg : z_g tc wd cc kc G len fa T u dd D jk J js v sn V bn B) (h1 : d1 < 9) (h2 : d2 < 9) (c1 : rr_CP m1 d1 args w1 0 0 (fun r w => r = some x ∧ z_X tc wd cc kc G len fa T u dd D jk J js v sn V bn B w)) (c2 : rr_CP m2 d2 args w2 0 0 (fun r w => r = some x ∧ z_M tc wd cc kc G len fa T u dd D jk J js v sn V bn B w)) : ∃ (d1 d2 : Nat) (x : Int32) (Q1 Q2 : rr_A → Prop), d1 < 9 ∧ d2 < 9 ∧ rr_CP m1 d1 args w1 0 0 (fun r w => r = some x ∧ Q1 w) ∧ rr_CP m2 d2 args w2 0 0 (fun r w => r = some x ∧ Q2 w) ∧ (∀ w1 w2, Q1 w1 → Q2 w2 → z_R w1 w2) ∧ (∀ w, Q1 w → ∃ (tc wd cc kc : Nat) (G : Nat → Nat → Int32) (len : Nat) (fa : Int32) (T : Nat → Int32) (u : p_Q) (dd : Nat) (D : Nat → p_Q) (jk : Nat → Bool) (J : Nat → p_Q) (js : Nat → Int32) (v : Int32) (sn : Nat) (V : Nat → Nat → Int32) (bn : Nat) (B : Nat → Nat → Int32), z_X tc wd cc kc G len fa T u dd D jk J js v sn V bn B w) ∧ (∀ w, Q2 w → ∃ (tc wd cc kc : Nat) (G : Nat → Nat → Int32) (len : Nat) (fa : Int32) (T : Nat → Int32) (u : p_Q) (dd : Nat) (D : Nat → p_Q) (jk : Nat → Bool) (J : Nat → p_Q) (js : Nat → Int32) (v : Int32) (sn : Nat) (V : Nat → Nat → Int32) (bn : Nat) (B : Nat → Nat → Int32), z_M tc wd cc kc G len fa T u dd D jk J js v sn V bn B w) :=
  ⟨d1, d2, x, z_X tc wd cc kc G len fa T u dd D jk J js v sn V bn B, z_M tc wd cc kc G len fa T u dd D jk J js v sn V bn B, h1, h2, c1, c2, fun _ _ a b => ⟨tc, wd, cc, kc, G, len, fa, T, u, dd, D, jk, J, js, v, sn, V, bn, B, hg, a, b⟩, fun _ a => ⟨tc, wd, cc, kc, G, len, fa, T, u, dd, D, jk, J, js, v, sn, V, bn, B, a⟩, fun _ a => ⟨tc, wd, cc, kc, G, len, fa, T, u, dd, D, jk, J, js, v, sn, V, bn, B, a⟩⟩
theorem z_fault  : z_S mX10_fault mX11_fault [.ref 0] := by
  intro w1 w2 h
  obtain ⟨tc, wd, cc, kc, G, len, fa, T, u, dd, D, jk, J, js, v, sn, V, bn, B, hg, hX, hM⟩ := h
  have hX0 := hX
  have hM00 := hM
  obtain ⟨hgA, hln, hgS, hgV, hgB⟩ := hg
  obtain ⟨⟨htc, hcc, hkc, hwd, h0c, h0k⟩, hK, hL⟩ := hgA
  obtain ⟨⟨hI, hu⟩, hdd, hD, hJ⟩ := hgS
  obtain ⟨a, na, wt, q, T1, tb, wb, cb, kb, H, hx, s5, r1, r2, Y, nx, R, I, p8, N, E, V1, e1, hq, hT, hnx, hrg, him, hV1⟩ := hX
  obtain ⟨hd, a2, wr, M, e2, hG, hM0, hM9, ⟨t, hM10⟩, hP, hmi, hmv, hmb⟩ := hM
  rw [e1, e2]
  exact z_mk tc wd cc kc G len fa T u dd D jk J js v sn V bn B ⟨⟨⟨htc, hcc, hkc, hwd, h0c, h0k⟩, hK, hL⟩, hln, ⟨⟨hI, hu⟩, hdd, hD, hJ⟩, hgV, hgB⟩ (by omega) (by omega) ((c10_fault tc wd cc kc G len a na wt q T1 tb wb cb kb H u hx s5 r1 r2 Y nx dd R I p8 N E sn V1 bn B v).toP ⟨congrArg some hq, ⟨a, na, wt, q, T1, tb, wb, cb, kb, H, hx, s5, r1, r2, Y, nx, R, I, p8, N, E, V1, rfl, hq, hT, hnx, hrg, him, hV1⟩⟩) ((m_fault len fa hd dd v sn bn a2 wr M ).toP ⟨rfl, ⟨hd, a2, wr, M, rfl, hG, hM0, hM9, ⟨t, hM10⟩, hP, hmi, hmv, hmb⟩⟩)
theorem z_told (x : Int32) : z_S mX10_told mX11_told [.ref 0, .int x] := by
  intro w1 w2 h
  obtain ⟨tc, wd, cc, kc, G, len, fa, T, u, dd, D, jk, J, js, v, sn, V, bn, B, hg, hX, hM⟩ := h
  have hX0 := hX
  have hM00 := hM
  obtain ⟨hgA, hln, hgS, hgV, hgB⟩ := hg
  obtain ⟨⟨htc, hcc, hkc, hwd, h0c, h0k⟩, hK, hL⟩ := hgA
  obtain ⟨⟨hI, hu⟩, hdd, hD, hJ⟩ := hgS
  obtain ⟨a, na, wt, q, T1, tb, wb, cb, kb, H, hx, s5, r1, r2, Y, nx, R, I, p8, N, E, V1, e1, hq, hT, hnx, hrg, him, hV1⟩ := hX
  obtain ⟨hd, a2, wr, M, e2, hG, hM0, hM9, ⟨t, hM10⟩, hP, hmi, hmv, hmb⟩ := hM
  rw [e1, e2]
  exact z_mk tc wd cc kc G len fa T u dd D jk J js v sn V bn B ⟨⟨⟨htc, hcc, hkc, hwd, h0c, h0k⟩, hK, hL⟩, hln, ⟨⟨hI, hu⟩, hdd, hD, hJ⟩, hgV, hgB⟩ (by omega) (by omega) ((c10_told tc wd cc kc G len a na wt q T1 tb wb cb kb H u hx s5 r1 r2 Y nx dd R I p8 N E sn V1 bn B v x htc hcc hkc (by omega)).toP ⟨rfl, ⟨a, na, wt, q, T1, tb, wb, cb, kb, H, hx, s5, r1, r2, Y, nx, R, I, p8, N, E, V1, rfl, hq, hT, hnx, hrg, him, hV1⟩⟩) ((m_told len fa hd dd v sn bn a2 wr M tc wd cc kc G hG u hM9 x htc hcc hkc (by omega) h0c h0k hI).toP ⟨rfl, ⟨hd, a2, wr, M, rfl, hG, hM0, hM9, ⟨t, hM10⟩, hP, hmi, hmv, hmb⟩⟩)
theorem z_in {k : Int32} {n : Nat} (hn : n < 100000) (h : p_in k (nI n) = true) : ∃ j : Nat, j < n ∧ k = nI j := by
  unfold p_in at h
  simp only [Bool.and_eq_true, Bool.not_eq_true', decide_eq_false_iff_not, Int32.lt_iff_toInt_lt, Int32.le_iff_toInt_le] at h
  obtain ⟨h1, h2⟩ := h
  rw [nI_toInt (by omega)] at h2
  rw [show (0 : Int32).toInt = 0 from by decide] at h1
  refine ⟨k.toInt.toNat, by omega, Int32.toInt_inj.mp ?_⟩
  rw [nI_toInt (by omega)]
  omega
theorem z_rng {k : Int32} {n m : Nat} (hn : n < 100000) (hm : m < 100000) (h : ¬ (k < nI m ∨ nI n < k)) : ∃ j : Nat, m ≤ j ∧ j ≤ n ∧ k = nI j := by
  simp only [Int32.lt_iff_toInt_lt] at h
  rw [nI_toInt (by omega), nI_toInt (by omega)] at h
  refine ⟨k.toInt.toNat, by omega, by omega, Int32.toInt_inj.mp ?_⟩
  rw [nI_toInt (by omega)]
  omega
theorem z_clause (k x : Int32) : z_S mX10_clause mX11_clause [.ref 0, .int k, .int x] := by
  intro w1 w2 h
  obtain ⟨tc, wd, cc, kc, G, len, fa, T, u, dd, D, jk, J, js, v, sn, V, bn, B, hg, hX, hM⟩ := h
  have hX0 := hX
  have hM00 := hM
  obtain ⟨hgA, hln, hgS, hgV, hgB⟩ := hg
  obtain ⟨⟨htc, hcc, hkc, hwd, h0c, h0k⟩, hK, hL⟩ := hgA
  obtain ⟨⟨hI, hu⟩, hdd, hD, hJ⟩ := hgS
  obtain ⟨a, na, wt, q, T1, tb, wb, cb, kb, H, hx, s5, r1, r2, Y, nx, R, I, p8, N, E, V1, e1, hq, hT, hnx, hrg, him, hV1⟩ := hX
  obtain ⟨hd, a2, wr, M, e2, hG, hM0, hM9, ⟨t, hM10⟩, hP, hmi, hmv, hmb⟩ := hM
  rw [e1, e2]
  by_cases hin_k : p_in k (nI kc) = true
  · obtain ⟨j_k, hk, rfl⟩ := z_in (by omega) hin_k
    by_cases hx7 : m_in x 0 6 = true
    · rcases m_x7 hx7 with rfl | rfl | rfl | rfl | rfl | rfl | rfl
      · exact z_mk tc wd cc kc G len fa T u dd D jk J js v sn V bn B ⟨⟨⟨htc, hcc, hkc, hwd, h0c, h0k⟩, hK, hL⟩, hln, ⟨⟨hI, hu⟩, hdd, hD, hJ⟩, hgV, hgB⟩ (by omega) (by omega) ((c10_clause tc wd cc kc G len a na wt q T1 tb wb cb kb H u hx s5 r1 r2 Y nx dd R I p8 N E sn V1 bn B v j_k 0 htc hcc hkc hk).toP ⟨rfl, ⟨a, na, wt, q, T1, tb, wb, cb, kb, H, hx, s5, r1, r2, Y, nx, R, I, p8, N, E, V1, rfl, hq, hT, hnx, hrg, him, hV1⟩⟩) ((m_clause0 len fa hd dd v sn bn a2 wr M tc wd cc kc G hG u hM9 j_k htc hcc hkc hk).toP ⟨rfl, ⟨hd, a2, wr, M, rfl, hG, hM0, hM9, ⟨t, hM10⟩, hP, hmi, hmv, hmb⟩⟩)
      · exact z_mk tc wd cc kc G len fa T u dd D jk J js v sn V bn B ⟨⟨⟨htc, hcc, hkc, hwd, h0c, h0k⟩, hK, hL⟩, hln, ⟨⟨hI, hu⟩, hdd, hD, hJ⟩, hgV, hgB⟩ (by omega) (by omega) ((c10_clause tc wd cc kc G len a na wt q T1 tb wb cb kb H u hx s5 r1 r2 Y nx dd R I p8 N E sn V1 bn B v j_k 1 htc hcc hkc hk).toP ⟨rfl, ⟨a, na, wt, q, T1, tb, wb, cb, kb, H, hx, s5, r1, r2, Y, nx, R, I, p8, N, E, V1, rfl, hq, hT, hnx, hrg, him, hV1⟩⟩) ((m_clause1 len fa hd dd v sn bn a2 wr M tc wd cc kc G hG u hM9 j_k htc hcc hkc hk).toP ⟨rfl, ⟨hd, a2, wr, M, rfl, hG, hM0, hM9, ⟨t, hM10⟩, hP, hmi, hmv, hmb⟩⟩)
      · exact z_mk tc wd cc kc G len fa T u dd D jk J js v sn V bn B ⟨⟨⟨htc, hcc, hkc, hwd, h0c, h0k⟩, hK, hL⟩, hln, ⟨⟨hI, hu⟩, hdd, hD, hJ⟩, hgV, hgB⟩ (by omega) (by omega) ((c10_clause tc wd cc kc G len a na wt q T1 tb wb cb kb H u hx s5 r1 r2 Y nx dd R I p8 N E sn V1 bn B v j_k 2 htc hcc hkc hk).toP ⟨rfl, ⟨a, na, wt, q, T1, tb, wb, cb, kb, H, hx, s5, r1, r2, Y, nx, R, I, p8, N, E, V1, rfl, hq, hT, hnx, hrg, him, hV1⟩⟩) ((m_clause2 len fa hd dd v sn bn a2 wr M tc wd cc kc G hG u hM9 j_k htc hcc hkc hk).toP ⟨rfl, ⟨hd, a2, wr, M, rfl, hG, hM0, hM9, ⟨t, hM10⟩, hP, hmi, hmv, hmb⟩⟩)
      · exact z_mk tc wd cc kc G len fa T u dd D jk J js v sn V bn B ⟨⟨⟨htc, hcc, hkc, hwd, h0c, h0k⟩, hK, hL⟩, hln, ⟨⟨hI, hu⟩, hdd, hD, hJ⟩, hgV, hgB⟩ (by omega) (by omega) ((c10_clause tc wd cc kc G len a na wt q T1 tb wb cb kb H u hx s5 r1 r2 Y nx dd R I p8 N E sn V1 bn B v j_k 3 htc hcc hkc hk).toP ⟨rfl, ⟨a, na, wt, q, T1, tb, wb, cb, kb, H, hx, s5, r1, r2, Y, nx, R, I, p8, N, E, V1, rfl, hq, hT, hnx, hrg, him, hV1⟩⟩) ((m_clause3 len fa hd dd v sn bn a2 wr M tc wd cc kc G hG u hM9 j_k htc hcc hkc hk).toP ⟨rfl, ⟨hd, a2, wr, M, rfl, hG, hM0, hM9, ⟨t, hM10⟩, hP, hmi, hmv, hmb⟩⟩)
      · exact z_mk tc wd cc kc G len fa T u dd D jk J js v sn V bn B ⟨⟨⟨htc, hcc, hkc, hwd, h0c, h0k⟩, hK, hL⟩, hln, ⟨⟨hI, hu⟩, hdd, hD, hJ⟩, hgV, hgB⟩ (by omega) (by omega) ((c10_clause tc wd cc kc G len a na wt q T1 tb wb cb kb H u hx s5 r1 r2 Y nx dd R I p8 N E sn V1 bn B v j_k 4 htc hcc hkc hk).toP ⟨rfl, ⟨a, na, wt, q, T1, tb, wb, cb, kb, H, hx, s5, r1, r2, Y, nx, R, I, p8, N, E, V1, rfl, hq, hT, hnx, hrg, him, hV1⟩⟩) ((m_clause4 len fa hd dd v sn bn a2 wr M tc wd cc kc G hG u hM9 j_k htc hcc hkc hk).toP ⟨rfl, ⟨hd, a2, wr, M, rfl, hG, hM0, hM9, ⟨t, hM10⟩, hP, hmi, hmv, hmb⟩⟩)
      · exact z_mk tc wd cc kc G len fa T u dd D jk J js v sn V bn B ⟨⟨⟨htc, hcc, hkc, hwd, h0c, h0k⟩, hK, hL⟩, hln, ⟨⟨hI, hu⟩, hdd, hD, hJ⟩, hgV, hgB⟩ (by omega) (by omega) ((c10_clause tc wd cc kc G len a na wt q T1 tb wb cb kb H u hx s5 r1 r2 Y nx dd R I p8 N E sn V1 bn B v j_k 5 htc hcc hkc hk).toP ⟨rfl, ⟨a, na, wt, q, T1, tb, wb, cb, kb, H, hx, s5, r1, r2, Y, nx, R, I, p8, N, E, V1, rfl, hq, hT, hnx, hrg, him, hV1⟩⟩) ((m_clause5 len fa hd dd v sn bn a2 wr M tc wd cc kc G hG u hM9 j_k htc hcc hkc hk).toP ⟨rfl, ⟨hd, a2, wr, M, rfl, hG, hM0, hM9, ⟨t, hM10⟩, hP, hmi, hmv, hmb⟩⟩)
      · exact z_mk tc wd cc kc G len fa T u dd D jk J js v sn V bn B ⟨⟨⟨htc, hcc, hkc, hwd, h0c, h0k⟩, hK, hL⟩, hln, ⟨⟨hI, hu⟩, hdd, hD, hJ⟩, hgV, hgB⟩ (by omega) (by omega) ((c10_clause tc wd cc kc G len a na wt q T1 tb wb cb kb H u hx s5 r1 r2 Y nx dd R I p8 N E sn V1 bn B v j_k 6 htc hcc hkc hk).toP ⟨rfl, ⟨a, na, wt, q, T1, tb, wb, cb, kb, H, hx, s5, r1, r2, Y, nx, R, I, p8, N, E, V1, rfl, hq, hT, hnx, hrg, him, hV1⟩⟩) ((m_clause6 len fa hd dd v sn bn a2 wr M tc wd cc kc G hG u hM9 j_k htc hcc hkc hk).toP ⟨rfl, ⟨hd, a2, wr, M, rfl, hG, hM0, hM9, ⟨t, hM10⟩, hP, hmi, hmv, hmb⟩⟩)
    · have hx8 : m_in x 0 6 = false := by simpa using hx7
      have hne : ∀ i : Int32, m_in i 0 6 = true → ¬ x = i := fun i hi e => hx7 (by rw [e]; exact hi)
      exact z_mk tc wd cc kc G len fa T u dd D jk J js v sn V bn B ⟨⟨⟨htc, hcc, hkc, hwd, h0c, h0k⟩, hK, hL⟩, hln, ⟨⟨hI, hu⟩, hdd, hD, hJ⟩, hgV, hgB⟩ (by omega) (by omega) ((c10_clause tc wd cc kc G len a na wt q T1 tb wb cb kb H u hx s5 r1 r2 Y nx dd R I p8 N E sn V1 bn B v j_k x htc hcc hkc hk).toP ⟨by rw [if_neg (hne 0 (by decide)), if_neg (hne 1 (by decide)), if_neg (hne 2 (by decide)), if_neg (hne 3 (by decide)), if_neg (hne 4 (by decide)), if_neg (hne 5 (by decide)), if_neg (hne 6 (by decide))], ⟨a, na, wt, q, T1, tb, wb, cb, kb, H, hx, s5, r1, r2, Y, nx, R, I, p8, N, E, V1, rfl, hq, hT, hnx, hrg, him, hV1⟩⟩) ((m_clauseO len fa hd dd v sn bn a2 wr M tc wd cc kc G hG j_k x htc hcc hkc hk hx8).toP ⟨rfl, ⟨hd, a2, wr, M, rfl, hG, hM0, hM9, ⟨t, hM10⟩, hP, hmi, hmv, hmb⟩⟩)
  · have hn : p_in k (nI kc) = false := by simpa using hin_k
    exact z_mk tc wd cc kc G len fa T u dd D jk J js v sn V bn B ⟨⟨⟨htc, hcc, hkc, hwd, h0c, h0k⟩, hK, hL⟩, hln, ⟨⟨hI, hu⟩, hdd, hD, hJ⟩, hgV, hgB⟩ (by omega) (by omega) ((c10_clauseU tc wd cc kc G len a na wt q T1 tb wb cb kb H u hx s5 r1 r2 Y nx dd R I p8 N E sn V1 bn B v k x hn).toP ⟨rfl, ⟨a, na, wt, q, T1, tb, wb, cb, kb, H, hx, s5, r1, r2, Y, nx, R, I, p8, N, E, V1, rfl, hq, hT, hnx, hrg, him, hV1⟩⟩) ((m_clauseU len fa hd dd v sn bn a2 wr M tc wd cc kc G hG k x htc hcc hkc hn).toP ⟨rfl, ⟨hd, a2, wr, M, rfl, hG, hM0, hM9, ⟨t, hM10⟩, hP, hmi, hmv, hmb⟩⟩)
theorem z_cell (c x : Int32) : z_S mX10_cell mX11_cell [.ref 0, .int c, .int x] := by
  intro w1 w2 h
  obtain ⟨tc, wd, cc, kc, G, len, fa, T, u, dd, D, jk, J, js, v, sn, V, bn, B, hg, hX, hM⟩ := h
  have hX0 := hX
  have hM00 := hM
  obtain ⟨hgA, hln, hgS, hgV, hgB⟩ := hg
  obtain ⟨⟨htc, hcc, hkc, hwd, h0c, h0k⟩, hK, hL⟩ := hgA
  obtain ⟨⟨hI, hu⟩, hdd, hD, hJ⟩ := hgS
  obtain ⟨a, na, wt, q, T1, tb, wb, cb, kb, H, hx, s5, r1, r2, Y, nx, R, I, p8, N, E, V1, e1, hq, hT, hnx, hrg, him, hV1⟩ := hX
  obtain ⟨hd, a2, wr, M, e2, hG, hM0, hM9, ⟨t, hM10⟩, hP, hmi, hmv, hmb⟩ := hM
  rw [e1, e2]
  by_cases hin_c : p_in c (nI cc) = true
  · obtain ⟨j_c, hk, rfl⟩ := z_in (by omega) hin_c
    exact z_mk tc wd cc kc G len fa T u dd D jk J js v sn V bn B ⟨⟨⟨htc, hcc, hkc, hwd, h0c, h0k⟩, hK, hL⟩, hln, ⟨⟨hI, hu⟩, hdd, hD, hJ⟩, hgV, hgB⟩ (by omega) (by omega) ((c10_cell tc wd cc kc G len a na wt q T1 tb wb cb kb H u hx s5 r1 r2 Y nx dd R I p8 N E sn V1 bn B v j_c x htc hcc hkc (by omega) hk).toP ⟨rfl, ⟨a, na, wt, q, T1, tb, wb, cb, kb, H, hx, s5, r1, r2, Y, nx, R, I, p8, N, E, V1, rfl, hq, hT, hnx, hrg, him, hV1⟩⟩) ((m_cell len fa hd dd v sn bn a2 wr M tc wd cc kc G hG u hM9 j_c x htc hcc hkc (by omega) h0c h0k hI hk).toP ⟨rfl, ⟨hd, a2, wr, M, rfl, hG, hM0, hM9, ⟨t, hM10⟩, hP, hmi, hmv, hmb⟩⟩)
  · have hn : p_in c (nI cc) = false := by simpa using hin_c
    exact z_mk tc wd cc kc G len fa T u dd D jk J js v sn V bn B ⟨⟨⟨htc, hcc, hkc, hwd, h0c, h0k⟩, hK, hL⟩, hln, ⟨⟨hI, hu⟩, hdd, hD, hJ⟩, hgV, hgB⟩ (by omega) (by omega) ((c10_cellU tc wd cc kc G len a na wt q T1 tb wb cb kb H u hx s5 r1 r2 Y nx dd R I p8 N E sn V1 bn B v c x hn).toP ⟨rfl, ⟨a, na, wt, q, T1, tb, wb, cb, kb, H, hx, s5, r1, r2, Y, nx, R, I, p8, N, E, V1, rfl, hq, hT, hnx, hrg, him, hV1⟩⟩) ((m_cellU len fa hd dd v sn bn a2 wr M tc wd cc kc G hG c x htc hcc hkc hn).toP ⟨rfl, ⟨hd, a2, wr, M, rfl, hG, hM0, hM9, ⟨t, hM10⟩, hP, hmi, hmv, hmb⟩⟩)
theorem z_leaners (k : Int32) : z_S mX10_leaners mX11_leaners [.ref 0, .int k] := by
  intro w1 w2 h
  obtain ⟨tc, wd, cc, kc, G, len, fa, T, u, dd, D, jk, J, js, v, sn, V, bn, B, hg, hX, hM⟩ := h
  have hX0 := hX
  have hM00 := hM
  obtain ⟨hgA, hln, hgS, hgV, hgB⟩ := hg
  obtain ⟨⟨htc, hcc, hkc, hwd, h0c, h0k⟩, hK, hL⟩ := hgA
  obtain ⟨⟨hI, hu⟩, hdd, hD, hJ⟩ := hgS
  obtain ⟨a, na, wt, q, T1, tb, wb, cb, kb, H, hx, s5, r1, r2, Y, nx, R, I, p8, N, E, V1, e1, hq, hT, hnx, hrg, him, hV1⟩ := hX
  obtain ⟨hd, a2, wr, M, e2, hG, hM0, hM9, ⟨t, hM10⟩, hP, hmi, hmv, hmb⟩ := hM
  rw [e1, e2]
  by_cases hin_k : p_in k (nI kc) = true
  · obtain ⟨j_k, hk, rfl⟩ := z_in (by omega) hin_k
    exact z_mk tc wd cc kc G len fa T u dd D jk J js v sn V bn B ⟨⟨⟨htc, hcc, hkc, hwd, h0c, h0k⟩, hK, hL⟩, hln, ⟨⟨hI, hu⟩, hdd, hD, hJ⟩, hgV, hgB⟩ (by omega) (by omega) ((c10_leaners tc wd cc kc G len a na wt q T1 tb wb cb kb H u hx s5 r1 r2 Y nx dd R I p8 N E sn V1 bn B v j_k htc hcc hkc hk).toP ⟨rfl, ⟨a, na, wt, q, T1, tb, wb, cb, kb, H, hx, s5, r1, r2, Y, nx, R, I, p8, N, E, V1, rfl, hq, hT, hnx, hrg, him, hV1⟩⟩) ((m_leaners len fa hd dd v sn bn a2 wr M tc wd cc kc G hG j_k htc hcc hkc hL hk).toP ⟨rfl, ⟨hd, a2, wr, M, rfl, hG, hM0, hM9, ⟨t, hM10⟩, hP, hmi, hmv, hmb⟩⟩)
  · have hn : p_in k (nI kc) = false := by simpa using hin_k
    exact z_mk tc wd cc kc G len fa T u dd D jk J js v sn V bn B ⟨⟨⟨htc, hcc, hkc, hwd, h0c, h0k⟩, hK, hL⟩, hln, ⟨⟨hI, hu⟩, hdd, hD, hJ⟩, hgV, hgB⟩ (by omega) (by omega) ((c10_leanersU tc wd cc kc G len a na wt q T1 tb wb cb kb H u hx s5 r1 r2 Y nx dd R I p8 N E sn V1 bn B v k hn).toP ⟨rfl, ⟨a, na, wt, q, T1, tb, wb, cb, kb, H, hx, s5, r1, r2, Y, nx, R, I, p8, N, E, V1, rfl, hq, hT, hnx, hrg, him, hV1⟩⟩) ((m_leanersU len fa hd dd v sn bn a2 wr M tc wd cc kc G hG k htc hcc hkc hn).toP ⟨rfl, ⟨hd, a2, wr, M, rfl, hG, hM0, hM9, ⟨t, hM10⟩, hP, hmi, hmv, hmb⟩⟩)
