/-! the model: planned -/
/-- what is written at the hour's begin, by the plan -/
def m_pw (G : Nat → Nat → Int32) (tc sz : Nat) (who whe : Nat → Nat) (X : p_Q × Nat × Nat) : p_Q × Nat := if X.2.1 < sz ∧ X.1.2.1 = -1 ∧ m_may X.1 G tc (who X.2.1) (whe X.2.1) = true then (p_wr X.1 (who X.2.1) (whe X.2.1), X.2.1 + 1) else (X.1, X.2.1)
/-- the plan's hours, i of them: the state, the next to be written, for how many hours it has been so -/
def m_ps (G : Nat → Nat → Int32) (tc wd kc : Nat) (set : Int32) (sz : Nat) (who whe : Nat → Nat) (q : p_Q) : Nat → p_Q × Nat × Nat
  | 0 => (q, 0, 0)
  | i + 1 => (p_pass G tc wd kc (m_pw G tc sz who whe (m_ps G tc wd kc set sz who whe q i)).1, (m_pw G tc sz who whe (m_ps G tc wd kc set sz who whe q i)).2, if (p_fs (p_pass G tc wd kc (m_pw G tc sz who whe (m_ps G tc wd kc set sz who whe q i)).1).2.2.2.2 G kc) &&& set = set then (m_ps G tc wd kc set sz who whe q i).2.2 + 1 else 0)
theorem m_ps_s (G : Nat → Nat → Int32) (tc wd kc : Nat) (set : Int32) (sz : Nat) (who whe : Nat → Nat) (q : p_Q) (i : Nat) : m_ps G tc wd kc set sz who whe q (i + 1) = (p_pass G tc wd kc (m_pw G tc sz who whe (m_ps G tc wd kc set sz who whe q i)).1, (m_pw G tc sz who whe (m_ps G tc wd kc set sz who whe q i)).2, if (p_fs (p_pass G tc wd kc (m_pw G tc sz who whe (m_ps G tc wd kc set sz who whe q i)).1).2.2.2.2 G kc) &&& set = set then (m_ps G tc wd kc set sz who whe q i).2.2 + 1 else 0) := rfl
theorem m_pw_h (G : Nat → Nat → Int32) (tc sz : Nat) (who whe : Nat → Nat) (X : p_Q × Nat × Nat) : (m_pw G tc sz who whe X).1.1 = X.1.1 := by
  unfold m_pw
  split <;> rfl
theorem m_pw_n {G : Nat → Nat → Int32} {tc sz : Nat} {who whe : Nat → Nat} {X : p_Q × Nat × Nat} (h : X.2.1 ≤ sz) : (m_pw G tc sz who whe X).2 ≤ sz := by
  unfold m_pw
  split
  · rename_i e
    exact e.1
  · exact h
theorem m_I.pw {G : Nat → Nat → Int32} {tc cc kc sz : Nat} {who whe : Nat → Nat} {X : p_Q × Nat × Nat} (h : m_I G cc kc X.1) (hcc : cc ≤ 9) (hkc : kc ≤ 6) (hw : ∀ j, j < sz → who j < kc ∧ whe j < cc) : m_I G cc kc (m_pw G tc sz who whe X).1 := by
  unfold m_pw
  split
  · rename_i e
    exact h.wr (hw _ e.1).1 hkc (hw _ e.1).2 hcc
  · exact h
theorem m_ps_I {G : Nat → Nat → Int32} {tc wd cc kc : Nat} {set : Int32} {sz : Nat} {who whe : Nat → Nat} {q : p_Q} (h : m_I G cc kc q) (hcc : cc ≤ 9) (hkc : kc ≤ 6) (hw : ∀ j, j < sz → who j < kc ∧ whe j < cc) (i : Nat) : m_I G cc kc (m_ps G tc wd kc set sz who whe q i).1 ∧ (m_ps G tc wd kc set sz who whe q i).1.1 = q.1 + i ∧ (m_ps G tc wd kc set sz who whe q i).2.1 ≤ sz ∧ (m_ps G tc wd kc set sz who whe q i).2.2 ≤ i := by
  induction i with
  | zero => exact ⟨h, rfl, Nat.zero_le _, Nat.le_refl _⟩
  | succ i ih =>
    obtain ⟨i1, i2, i3, i4⟩ := ih
    rw [m_ps_s]
    refine ⟨(i1.pw hcc hkc hw).pass tc wd hkc, ?_, m_pw_n i3, ?_⟩
    · show (m_pw _ _ _ _ _ _).1.1 + 1 = _
      rw [m_pw_h, i2]
      omega
    · show (if _ then _ else _) ≤ i + 1
      split
      · exact Nat.succ_le_succ i4
      · exact Nat.zero_le _
theorem p_sm_1 (u : p_Q) (kc : Nat) : (p_sm u kc).1 = u.1 := rfl
theorem bk_X11_planned_0_1 : rr_chk mX11_planned [(.aload_n 0, 0, 0, 0)] 0 1 = true := by decide +kernel
theorem bk_X11_planned_4_7 : rr_chk mX11_planned [(.iconst 0, 0, 0, 0), (.istore 4, 0, 4, 0)] 4 7 = true := by decide +kernel
theorem bk_X11_planned_7_11 : rr_chk mX11_planned [(.iload 4, 0, 4, 0), (.bipush 6, 6, 0, 0)] 7 11 = true := by decide +kernel
theorem bk_X11_planned_29_38 : rr_chk mX11_planned [(.iconst 0, 0, 0, 0), (.istore 4, 0, 4, 0), (.iconst 0, 0, 0, 0), (.istore 5, 0, 5, 0), (.iconst 1, 1, 0, 0), (.istore 6, 0, 6, 0)] 29 38 = true := by decide +kernel
theorem bk_X11_planned_38_42 : rr_chk mX11_planned [(.iload 6, 0, 6, 0), (.bipush 41, 41, 0, 0)] 38 42 = true := by decide +kernel
theorem bk_X11_planned_156_157 : rr_chk mX11_planned [(.iconst (-1), (-1), 0, 0)] 156 157 = true := by decide +kernel
theorem bk_X11_planned_45_48 : rr_chk mX11_planned [(.iload 4, 0, 4, 0), (.iload_n 2, 0, 2, 0)] 45 48 = true := by decide +kernel
theorem bk_X11_planned_109_114 : rr_chk mX11_planned [(.aload_n 0, 0, 0, 0), (.aload_n 0, 0, 0, 0), (.getfield 44, 0, 11, 13)] 109 114 = true := by decide +kernel
theorem bk_X11_planned_117_122 : rr_chk mX11_planned [(.aload_n 0, 0, 0, 0), (.aload_n 0, 0, 0, 0), (.getfield 44, 0, 11, 13)] 117 122 = true := by decide +kernel
theorem bk_X11_planned_125_128 : rr_chk mX11_planned [(.iload_n 1, 0, 1, 0), (.iand, 0, 0, 0), (.iload_n 1, 0, 1, 0)] 125 128 = true := by decide +kernel
theorem bk_X11_planned_138_141 : rr_chk mX11_planned [(.iconst 0, 0, 0, 0), (.istore 5, 0, 5, 0)] 138 141 = true := by decide +kernel
theorem bk_X11_planned_141_144 : rr_chk mX11_planned [(.iload 5, 0, 5, 0), (.iload_n 3, 0, 3, 0)] 141 144 = true := by decide +kernel
theorem bk_X11_planned_150_38 : rr_chk mX11_planned [(.iinc 6 1, 1, 6, 0), (.goto (-115), 0, 0, 0)] 150 38 = true := by decide +kernel
theorem bk_X11_planned_147_149 : rr_chk mX11_planned [(.iload 6, 0, 6, 0)] 147 149 = true := by decide +kernel
theorem bk_X11_planned_131_141 : rr_chk mX11_planned [(.iload 5, 0, 5, 0), (.iconst 1, 1, 0, 0), (.iadd, 0, 0, 0), (.goto 4, 0, 0, 0), (.istore 5, 0, 5, 0)] 131 141 = true := by decide +kernel
theorem bk_X11_planned_51_57 : rr_chk mX11_planned [(.aload_n 0, 0, 0, 0), (.getfield 44, 0, 11, 13), (.iconst 1, 1, 0, 0), (.iaload, 0, 1, 0)] 51 57 = true := by decide +kernel
theorem bk_X11_planned_60_71 : rr_chk mX11_planned [(.aload_n 0, 0, 0, 0), (.aload_n 0, 0, 0, 0), (.getfield 44, 0, 11, 13), (.aload_n 0, 0, 0, 0), (.getfield 66, 0, 11, 26), (.iload 4, 0, 4, 0)] 60 71 = true := by decide +kernel
theorem bk_X11_planned_72_78 : rr_chk mX11_planned [(.aload_n 0, 0, 0, 0), (.getfield 69, 0, 11, 27), (.iload 4, 0, 4, 0)] 72 78 = true := by decide +kernel
theorem bk_X11_planned_85_95 : rr_chk mX11_planned [(.aload_n 0, 0, 0, 0), (.getfield 44, 0, 11, 13), (.aload_n 0, 0, 0, 0), (.getfield 66, 0, 11, 26), (.iload 4, 0, 4, 0)] 85 95 = true := by decide +kernel
theorem bk_X11_planned_96_102 : rr_chk mX11_planned [(.aload_n 0, 0, 0, 0), (.getfield 69, 0, 11, 27), (.iload 4, 0, 4, 0)] 96 102 = true := by decide +kernel
theorem bk_X11_planned_106_109 : rr_chk mX11_planned [(.iinc 4 1, 1, 4, 0)] 106 109 = true := by decide +kernel
theorem bk_X11_planned_14_20 : rr_chk mX11_planned [(.aload_n 0, 0, 0, 0), (.getfield 44, 0, 11, 13), (.iload 4, 0, 4, 0)] 14 20 = true := by decide +kernel
theorem bk_X11_planned_23_7 : rr_chk mX11_planned [(.iinc 4 1, 1, 4, 0), (.goto (-19), 0, 0, 0)] 23 7 = true := by decide +kernel
set_option maxRecDepth 100000 in
set_option maxHeartbeats 4000000 in
theorem m_planned (len : Nat) (fa : Int32) (hd : Bool) (dd : Nat) (sd : Int32) (sg es a : Nat) (wr : Int32) (M : Nat → Nat → Int32) (tc wd cc kc : Nat) (G : Nat → Nat → Int32) (hG : m_G M G tc wd cc kc) (q : p_Q) (hq : M 9 = en q) (t : p_Q) (ht : M 10 = en t) (set : Int32) (sz m : Nat) (who whe : Nat → Nat) (htc : tc ≤ 12) (hcc : cc ≤ 9) (hkc : kc ≤ 6) (hu : q.1 ≤ 9100) (h0c : 0 < cc → 0 < tc) (h0k : 0 < kc → 0 < tc) (hI : m_I G cc kc q) (hw : ∀ j, j < sz → who j < kc ∧ whe j < cc) (hA : ∀ j, j < sz → M 17 j = nI (who j) ∧ M 18 j = nI (whe j)) (hsz : sz ≤ 3) (hm1 : 1 ≤ m) (hm : m ≤ 12) : rr_CP mX11_planned 4 [.ref 0, .int set, .int (nI sz), .int (nI m)] (W_M (mv len fa hd dd sd sg es a wr) M) 0 0 (fun r w' => r = some (p_fi (fun h => decide ((m_ps G tc wd kc set sz who whe (p_sm q kc) h).2.2 = m)) 1 40) ∧ ∃ t : p_Q, w' = (W_M (mv len fa hd dd sd sg es a wr) (va_up M 10 (en t)))) := by
  refine rr_CP.of (n := 3) fX11_planned.1 rfl rfl (fun Z hC => ?_)
  show rr_J Z 7 0 0 (rr_MP Z 0 0 (fun r w' => r = some (p_fi (fun h => decide ((m_ps G tc wd kc set sz who whe (p_sm q kc) h).2.2 = m)) 1 40) ∧ ∃ t : p_Q, w' = (W_M (mv len fa hd dd sd sg es a wr) (va_up M 10 (en t))))) 0 [(0, .ref 0), (1, .int set), (2, .int (nI sz)), (3, .int (nI m))] [] (W_M (mv len fa hd dd sd sg es a wr) M)
  refine rr_go hC bk_X11_planned_0_1 (l' := [(0, .ref 0), (1, .int set), (2, .int (nI sz)), (3, .int (nI m))]) (st' := [.ref 0]) (w' := (W_M (mv len fa hd dd sd sg es a wr) M)) rfl ?_
  refine rr_callVI hC (by decide +kernel) kl_11_228 fX11_tries (m_triesQ len fa hd dd sd sg es a wr M q t hq ht) rfl rfl rfl rfl rfl (rest := []) rfl rfl ⟨Nat.zero_le _, Nat.zero_le _⟩ (Eq.refl 22) ?_
  show rr_J Z 7 0 0 _ 4 [(0, .ref 0), (1, .int set), (2, .int (nI sz)), (3, .int (nI m))] [] (W_M (mv len fa hd dd sd sg es a wr) (va_up M 10 (en q)))
  refine rr_go hC bk_X11_planned_4_7 (l' := [(0, .ref 0), (1, .int set), (2, .int (nI sz)), (3, .int (nI m)), (4, .int 0)]) (st' := []) (w' := (W_M (mv len fa hd dd sd sg es a wr) (va_up M 10 (en q)))) rfl ?_
  have lp7 : ∀ (j k : Nat), k + j = 6 → 0 ≤ k → rr_J Z 7 0 0 (rr_MP Z 0 0 (fun r w' => r = some (p_fi (fun h => decide ((m_ps G tc wd kc set sz who whe (p_sm q kc) h).2.2 = m)) 1 40) ∧ ∃ t : p_Q, w' = (W_M (mv len fa hd dd sd sg es a wr) (va_up M 10 (en t))))) 7 [(0, .ref 0), (1, .int set), (2, .int (nI sz)), (3, .int (nI m)), (4, .int (nI k))] [] (W_M (mv len fa hd dd sd sg es a wr) (va_up M 10 (en (p_sw q k)))) := by
    intro j
    induction j with
    | zero =>
      intro k hk7 hlo7
      refine rr_go hC bk_X11_planned_7_11 (l' := [(0, .ref 0), (1, .int set), (2, .int (nI sz)), (3, .int (nI m)), (4, .int (nI k))]) (st' := [.int 6, .int (nI k)]) (w' := (W_M (mv len fa hd dd sd sg es a wr) (va_up M 10 (en (p_sw q k))))) rfl ?_
      refine rr_icmp_ge hC (off := 18) (tgt := 29) (by decide +kernel) (fun h11 => ?_) (fun h11 => by rw [rr_ln_le (a := 6) (by omega) (by omega)] at h11; omega)
      rw [rr_ln_le (a := 6) (by omega) (by omega)] at h11
      refine rr_dr 4 (l' := [(0, .ref 0), (1, .int set), (2, .int (nI sz)), (3, .int (nI m))]) rfl ?_
      refine rr_cast (l' := [(0, .ref 0), (1, .int set), (2, .int (nI sz)), (3, .int (nI m))]) rfl (st' := []) rfl (w' := (W_M (mv len fa hd dd sd sg es a wr) (va_up M 10 (en (p_sm q kc))))) (by rw [show k = 6 by omega, (p_sw_sm hI hcc hkc).1]) ?_
      have hIs := hI.sm hcc hkc
      refine rr_go hC bk_X11_planned_29_38 (l' := [(0, .ref 0), (1, .int set), (2, .int (nI sz)), (3, .int (nI m)), (4, .int 0), (5, .int 0), (6, .int 1)]) (st' := []) (w' := (W_M (mv len fa hd dd sd sg es a wr) (va_up M 10 (en (p_sm q kc))))) rfl ?_
      have lp38 : ∀ (j i : Nat), i + j = 40 → 0 ≤ i → p_fi (fun h => decide ((m_ps G tc wd kc set sz who whe (p_sm q kc) h).2.2 = m)) 1 40 = p_fi (fun h => decide ((m_ps G tc wd kc set sz who whe (p_sm q kc) h).2.2 = m)) (i + 1) (40 - i) → rr_J Z 7 0 0 (rr_MP Z 0 0 (fun r w' => r = some (p_fi (fun h => decide ((m_ps G tc wd kc set sz who whe (p_sm q kc) h).2.2 = m)) 1 40) ∧ ∃ t : p_Q, w' = (W_M (mv len fa hd dd sd sg es a wr) (va_up M 10 (en t))))) 38 [(0, .ref 0), (1, .int set), (2, .int (nI sz)), (3, .int (nI m)), (4, .int (nI ((m_ps G tc wd kc set sz who whe (p_sm q kc) i).2.1))), (5, .int (nI ((m_ps G tc wd kc set sz who whe (p_sm q kc) i).2.2))), (6, .int (nI (i + 1)))] [] (W_M (mv len fa hd dd sd sg es a wr) (va_up M 10 (en (m_ps G tc wd kc set sz who whe (p_sm q kc) i).1))) := by
        intro j
        induction j with
        | zero =>
          intro i hk38 hlo38 hF
          refine rr_go hC bk_X11_planned_38_42 (l' := [(0, .ref 0), (1, .int set), (2, .int (nI sz)), (3, .int (nI m)), (4, .int (nI ((m_ps G tc wd kc set sz who whe (p_sm q kc) i).2.1))), (5, .int (nI ((m_ps G tc wd kc set sz who whe (p_sm q kc) i).2.2))), (6, .int (nI (i + 1)))]) (st' := [.int 41, .int (nI (i + 1))]) (w' := (W_M (mv len fa hd dd sd sg es a wr) (va_up M 10 (en (m_ps G tc wd kc set sz who whe (p_sm q kc) i).1)))) rfl ?_
          refine rr_icmp_ge hC (off := 114) (tgt := 156) (by decide +kernel) (fun h42 => ?_) (fun h42 => by rw [rr_ln_le (a := 41) (by omega) (by omega)] at h42; omega)
          rw [rr_ln_le (a := 41) (by omega) (by omega)] at h42
          refine rr_go hC bk_X11_planned_156_157 (l' := [(0, .ref 0), (1, .int set), (2, .int (nI sz)), (3, .int (nI m)), (4, .int (nI ((m_ps G tc wd kc set sz who whe (p_sm q kc) i).2.1))), (5, .int (nI ((m_ps G tc wd kc set sz who whe (p_sm q kc) i).2.2))), (6, .int (nI (i + 1)))]) (st' := [.int (-1)]) (w' := (W_M (mv len fa hd dd sd sg es a wr) (va_up M 10 (en (m_ps G tc wd kc set sz who whe (p_sm q kc) i).1)))) rfl ?_
          exact rr_retiP hC (by decide +kernel) (by refine ⟨?_, _, rfl⟩; rw [hF, show 40 - i = 0 by omega]; rfl) ⟨Nat.zero_le _, Nat.zero_le _⟩
        | succ j ih =>
          intro i hk38 hlo38 hF
          refine rr_go hC bk_X11_planned_38_42 (l' := [(0, .ref 0), (1, .int set), (2, .int (nI sz)), (3, .int (nI m)), (4, .int (nI ((m_ps G tc wd kc set sz who whe (p_sm q kc) i).2.1))), (5, .int (nI ((m_ps G tc wd kc set sz who whe (p_sm q kc) i).2.2))), (6, .int (nI (i + 1)))]) (st' := [.int 41, .int (nI (i + 1))]) (w' := (W_M (mv len fa hd dd sd sg es a wr) (va_up M 10 (en (m_ps G tc wd kc set sz who whe (p_sm q kc) i).1)))) rfl ?_
          refine rr_icmp_ge hC (off := 114) (tgt := 156) (by decide +kernel) (fun h42 => by rw [rr_ln_le (a := 41) (by omega) (by omega)] at h42; omega) (fun h42 => ?_)
          rw [rr_ln_le (a := 41) (by omega) (by omega)] at h42
          obtain ⟨X, hX⟩ : ∃ X, X = m_ps G tc wd kc set sz who whe (p_sm q kc) i := ⟨_, rfl⟩
          obtain ⟨hIX, hXh, hXn, hXs⟩ := m_ps_I (tc := tc) (wd := wd) (set := set) hIs hcc hkc hw i
          rw [← hX] at hIX hXh hXn hXs
          rw [p_sm_1] at hXh
          refine rr_cast (l' := [(0, .ref 0), (1, .int set), (2, .int (nI sz)), (3, .int (nI m)), (4, .int (nI X.2.1)), (5, .int (nI X.2.2)), (6, .int (nI (i + 1)))]) (by rw [hX]) (st' := []) rfl (w' := (W_M (mv len fa hd dd sd sg es a wr) (va_up M 10 (en X.1)))) (by rw [hX]) ?_
          refine rr_go hC bk_X11_planned_45_48 (l' := [(0, .ref 0), (1, .int set), (2, .int (nI sz)), (3, .int (nI m)), (4, .int (nI X.2.1)), (5, .int (nI X.2.2)), (6, .int (nI (i + 1)))]) (st' := [.int (nI sz), .int (nI X.2.1)]) (w' := (W_M (mv len fa hd dd sd sg es a wr) (va_up M 10 (en X.1)))) rfl ?_
          refine rr_icmp_ge hC (off := 61) (tgt := 109) (by decide +kernel) (fun h48 => ?_) (fun h48 => ?_)
          · rw [rr_nn_le (by omega) (by omega)] at h48
            obtain ⟨Y, hY⟩ : ∃ Y, Y = m_pw G tc sz who whe X := ⟨_, rfl⟩
            have hYe : Y = (X.1, X.2.1) := by rw [hY]; unfold m_pw; rw [if_neg (fun z => absurd z.1 (by omega))]
            have hIY : m_I G cc kc Y.1 := by rw [hY]; exact hIX.pw hcc hkc hw
            have hYh : Y.1.1 = q.1 + i := by rw [hY, m_pw_h]; exact hXh
            have hYn : Y.2 ≤ sz := by rw [hY]; exact m_pw_n hXn
            refine rr_cast (l' := [(0, .ref 0), (1, .int set), (2, .int (nI sz)), (3, .int (nI m)), (4, .int (nI Y.2)), (5, .int (nI X.2.2)), (6, .int (nI (i + 1)))]) (by rw [hYe]) (st' := []) rfl (w' := (W_M (mv len fa hd dd sd sg es a wr) (va_up M 10 (en Y.1)))) (by rw [hYe]) ?_
            refine rr_go hC bk_X11_planned_109_114 (l' := [(0, .ref 0), (1, .int set), (2, .int (nI sz)), (3, .int (nI m)), (4, .int (nI Y.2)), (5, .int (nI X.2.2)), (6, .int (nI (i + 1)))]) (st' := [.ref 11, .ref 0]) (w' := (W_M (mv len fa hd dd sd sg es a wr) (va_up M 10 (en Y.1)))) rfl ?_
            refine rr_callVI hC (by decide +kernel) kl_11_211 fX11_passes (m_passes_tried (mv len fa hd dd sd sg es a wr) (va_up M 10 (en Y.1)) tc wd cc kc G (by exact hG) Y.1 rfl (by omega) (by omega) (by omega) h0c (by first | omega | (simp only [p_it_h, p_wr_h, p_sm_h, p_dd_h, p_d1_h, p_df_h]; omega)) hIY.1) rfl rfl rfl rfl rfl (rest := []) rfl rfl ⟨Nat.zero_le _, Nat.zero_le _⟩ (Eq.refl 22) ?_
            show rr_J Z 7 0 0 _ 117 [(0, .ref 0), (1, .int set), (2, .int (nI sz)), (3, .int (nI m)), (4, .int (nI Y.2)), (5, .int (nI X.2.2)), (6, .int (nI (i + 1)))] [] (W_M (mv len fa hd dd sd sg es a wr) (va_up M 10 (en (p_pass G tc wd kc Y.1))))
            refine rr_go hC bk_X11_planned_117_122 (l' := [(0, .ref 0), (1, .int set), (2, .int (nI sz)), (3, .int (nI m)), (4, .int (nI Y.2)), (5, .int (nI X.2.2)), (6, .int (nI (i + 1)))]) (st' := [.ref 11, .ref 0]) (w' := (W_M (mv len fa hd dd sd sg es a wr) (va_up M 10 (en (p_pass G tc wd kc Y.1))))) rfl ?_
            refine rr_callVI hC (by decide +kernel) kl_11_169 fX11_force (m_force_tried (mv len fa hd dd sd sg es a wr) (va_up M 10 (en (p_pass G tc wd kc Y.1))) tc wd cc kc G (by exact hG) (p_pass G tc wd kc Y.1) rfl (by omega) (by omega) (by omega) (hIY.pass tc wd hkc).ok) rfl rfl rfl rfl rfl (rest := []) rfl rfl ⟨Nat.zero_le _, Nat.zero_le _⟩ (Eq.refl 22) ?_
            show rr_J Z 7 0 0 _ 125 [(0, .ref 0), (1, .int set), (2, .int (nI sz)), (3, .int (nI m)), (4, .int (nI Y.2)), (5, .int (nI X.2.2)), (6, .int (nI (i + 1)))] [.int (p_fs (p_pass G tc wd kc Y.1).2.2.2.2 G kc)] (W_M (mv len fa hd dd sd sg es a wr) (va_up M 10 (en (p_pass G tc wd kc Y.1))))
            refine rr_go hC bk_X11_planned_125_128 (l' := [(0, .ref 0), (1, .int set), (2, .int (nI sz)), (3, .int (nI m)), (4, .int (nI Y.2)), (5, .int (nI X.2.2)), (6, .int (nI (i + 1)))]) (st' := [.int set, .int ((p_fs (p_pass G tc wd kc Y.1).2.2.2.2 G kc) &&& set)]) (w' := (W_M (mv len fa hd dd sd sg es a wr) (va_up M 10 (en (p_pass G tc wd kc Y.1))))) rfl ?_
            refine rr_icmp_ne hC (off := 10) (tgt := 138) (by decide +kernel) (fun h128 => ?_) (fun h128 => ?_)
            · refine rr_go hC bk_X11_planned_138_141 (l' := [(0, .ref 0), (1, .int set), (2, .int (nI sz)), (3, .int (nI m)), (4, .int (nI Y.2)), (5, .int 0), (6, .int (nI (i + 1)))]) (st' := []) (w' := (W_M (mv len fa hd dd sd sg es a wr) (va_up M 10 (en (p_pass G tc wd kc Y.1))))) rfl ?_
              have hS : m_ps G tc wd kc set sz who whe (p_sm q kc) (i + 1) = (p_pass G tc wd kc Y.1, Y.2, 0) := by rw [m_ps_s, ← hX, ← hY]; first | (rw [if_pos h128]; done) | (rw [if_neg h128]; done)
              have hS2 : (m_ps G tc wd kc set sz who whe (p_sm q kc) (i + 1)).2.2 = 0 := by rw [hS]
              refine rr_go hC bk_X11_planned_141_144 (l' := [(0, .ref 0), (1, .int set), (2, .int (nI sz)), (3, .int (nI m)), (4, .int (nI Y.2)), (5, .int 0), (6, .int (nI (i + 1)))]) (st' := [.int (nI m), .int 0]) (w' := (W_M (mv len fa hd dd sd sg es a wr) (va_up M 10 (en (p_pass G tc wd kc Y.1))))) rfl ?_
              refine rr_icmp_ne hC (off := 6) (tgt := 150) (by decide +kernel) (fun h144 => ?_) (fun h144 => ?_)
              · rw [rr_ln_eq (a := 0) (by omega) (by omega)] at h144
                refine rr_go hC bk_X11_planned_150_38 (l' := [(0, .ref 0), (1, .int set), (2, .int (nI sz)), (3, .int (nI m)), (4, .int (nI Y.2)), (5, .int 0), (6, .int ((nI (i + 1)) + 1))]) (st' := []) (w' := (W_M (mv len fa hd dd sd sg es a wr) (va_up M 10 (en (p_pass G tc wd kc Y.1))))) rfl ?_
                rw [show ((nI (i + 1)) + 1 : Int32) = nI ((i + 1) + 1) from nI_add (i + 1) 1]
                exact rr_cast (l' := [(0, .ref 0), (1, .int set), (2, .int (nI sz)), (3, .int (nI m)), (4, .int (nI ((m_ps G tc wd kc set sz who whe (p_sm q kc) (i + 1)).2.1))), (5, .int (nI ((m_ps G tc wd kc set sz who whe (p_sm q kc) (i + 1)).2.2))), (6, .int (nI (i + 1 + 1)))]) (by rw [hS] <;> rfl) rfl (w' := (W_M (mv len fa hd dd sd sg es a wr) (va_up M 10 (en (m_ps G tc wd kc set sz who whe (p_sm q kc) (i + 1)).1)))) (by rw [hS]) (ih (i + 1) (by omega) (by omega) (hF.trans (by rw [show 40 - i = (40 - (i + 1)) + 1 by omega, p_fi, if_neg (by rw [decide_eq_false (fun z => h144 (hS2.symm.trans z))]; decide)])))
              · rw [rr_ln_eq (a := 0) (by omega) (by omega)] at h144
                refine rr_go hC bk_X11_planned_147_149 (l' := [(0, .ref 0), (1, .int set), (2, .int (nI sz)), (3, .int (nI m)), (4, .int (nI Y.2)), (5, .int 0), (6, .int (nI (i + 1)))]) (st' := [.int (nI (i + 1))]) (w' := (W_M (mv len fa hd dd sd sg es a wr) (va_up M 10 (en (p_pass G tc wd kc Y.1))))) rfl ?_
                exact rr_retiP hC (by decide +kernel) (by refine ⟨?_, _, rfl⟩; rw [hF, show 40 - i = (40 - (i + 1)) + 1 by omega, p_fi, if_pos (decide_eq_true (hS2.trans (by omega)))]) ⟨Nat.zero_le _, Nat.zero_le _⟩
            · refine rr_go hC bk_X11_planned_131_141 (l' := [(0, .ref 0), (1, .int set), (2, .int (nI sz)), (3, .int (nI m)), (4, .int (nI Y.2)), (5, .int ((nI X.2.2) + 1)), (6, .int (nI (i + 1)))]) (st' := []) (w' := (W_M (mv len fa hd dd sd sg es a wr) (va_up M 10 (en (p_pass G tc wd kc Y.1))))) rfl ?_
              rw [show ((nI X.2.2) + 1 : Int32) = nI (X.2.2 + 1) from nI_add X.2.2 1]
              have hS : m_ps G tc wd kc set sz who whe (p_sm q kc) (i + 1) = (p_pass G tc wd kc Y.1, Y.2, X.2.2 + 1) := by rw [m_ps_s, ← hX, ← hY]; first | (rw [if_pos h128]; done) | (rw [if_neg h128]; done)
              have hS2 : (m_ps G tc wd kc set sz who whe (p_sm q kc) (i + 1)).2.2 = X.2.2 + 1 := by rw [hS]
              refine rr_go hC bk_X11_planned_141_144 (l' := [(0, .ref 0), (1, .int set), (2, .int (nI sz)), (3, .int (nI m)), (4, .int (nI Y.2)), (5, .int (nI (X.2.2 + 1))), (6, .int (nI (i + 1)))]) (st' := [.int (nI m), .int (nI (X.2.2 + 1))]) (w' := (W_M (mv len fa hd dd sd sg es a wr) (va_up M 10 (en (p_pass G tc wd kc Y.1))))) rfl ?_
              refine rr_icmp_ne hC (off := 6) (tgt := 150) (by decide +kernel) (fun h144 => ?_) (fun h144 => ?_)
              · rw [rr_nn_eq (by omega) (by omega)] at h144
                refine rr_go hC bk_X11_planned_150_38 (l' := [(0, .ref 0), (1, .int set), (2, .int (nI sz)), (3, .int (nI m)), (4, .int (nI Y.2)), (5, .int (nI (X.2.2 + 1))), (6, .int ((nI (i + 1)) + 1))]) (st' := []) (w' := (W_M (mv len fa hd dd sd sg es a wr) (va_up M 10 (en (p_pass G tc wd kc Y.1))))) rfl ?_
                rw [show ((nI (i + 1)) + 1 : Int32) = nI ((i + 1) + 1) from nI_add (i + 1) 1]
                exact rr_cast (l' := [(0, .ref 0), (1, .int set), (2, .int (nI sz)), (3, .int (nI m)), (4, .int (nI ((m_ps G tc wd kc set sz who whe (p_sm q kc) (i + 1)).2.1))), (5, .int (nI ((m_ps G tc wd kc set sz who whe (p_sm q kc) (i + 1)).2.2))), (6, .int (nI (i + 1 + 1)))]) (by rw [hS] <;> rfl) rfl (w' := (W_M (mv len fa hd dd sd sg es a wr) (va_up M 10 (en (m_ps G tc wd kc set sz who whe (p_sm q kc) (i + 1)).1)))) (by rw [hS]) (ih (i + 1) (by omega) (by omega) (hF.trans (by rw [show 40 - i = (40 - (i + 1)) + 1 by omega, p_fi, if_neg (by rw [decide_eq_false (fun z => h144 (hS2.symm.trans z))]; decide)])))
              · rw [rr_nn_eq (by omega) (by omega)] at h144
                refine rr_go hC bk_X11_planned_147_149 (l' := [(0, .ref 0), (1, .int set), (2, .int (nI sz)), (3, .int (nI m)), (4, .int (nI Y.2)), (5, .int (nI (X.2.2 + 1))), (6, .int (nI (i + 1)))]) (st' := [.int (nI (i + 1))]) (w' := (W_M (mv len fa hd dd sd sg es a wr) (va_up M 10 (en (p_pass G tc wd kc Y.1))))) rfl ?_
                exact rr_retiP hC (by decide +kernel) (by refine ⟨?_, _, rfl⟩; rw [hF, show 40 - i = (40 - (i + 1)) + 1 by omega, p_fi, if_pos (decide_eq_true (hS2.trans (by omega)))]) ⟨Nat.zero_le _, Nat.zero_le _⟩
          · rw [rr_nn_le (by omega) (by omega)] at h48
            obtain ⟨hA1, hA2⟩ := hA X.2.1 (by omega)
            obtain ⟨hw1, hw2⟩ := hw X.2.1 (by omega)
            obtain ⟨kk, hkk⟩ : ∃ z, z = who X.2.1 := ⟨_, rfl⟩
            obtain ⟨ck, hck⟩ : ∃ z, z = whe X.2.1 := ⟨_, rfl⟩
            rw [← hkk] at hA1 hw1
            rw [← hck] at hA2 hw2
            refine rr_go hC bk_X11_planned_51_57 (l' := [(0, .ref 0), (1, .int set), (2, .int (nI sz)), (3, .int (nI m)), (4, .int (nI X.2.1)), (5, .int (nI X.2.2)), (6, .int (nI (i + 1)))]) (st' := [.int ((en X.1) 1)]) (w' := (W_M (mv len fa hd dd sd sg es a wr) (va_up M 10 (en X.1)))) rfl ?_
            rw [en_1]
            refine rr_if_ne hC (off := 52) (tgt := 109) (by decide +kernel) (fun h57 => ?_) (fun h57 => ?_)
            · obtain ⟨Y, hY⟩ : ∃ Y, Y = m_pw G tc sz who whe X := ⟨_, rfl⟩
              have hYe : Y = (X.1, X.2.1) := by rw [hY]; unfold m_pw; rw [if_neg (fun z => h57 (p_i0.mpr z.2.1))]
              have hIY : m_I G cc kc Y.1 := by rw [hY]; exact hIX.pw hcc hkc hw
              have hYh : Y.1.1 = q.1 + i := by rw [hY, m_pw_h]; exact hXh
              have hYn : Y.2 ≤ sz := by rw [hY]; exact m_pw_n hXn
              refine rr_cast (l' := [(0, .ref 0), (1, .int set), (2, .int (nI sz)), (3, .int (nI m)), (4, .int (nI Y.2)), (5, .int (nI X.2.2)), (6, .int (nI (i + 1)))]) (by rw [hYe]) (st' := []) rfl (w' := (W_M (mv len fa hd dd sd sg es a wr) (va_up M 10 (en Y.1)))) (by rw [hYe]) ?_
              refine rr_go hC bk_X11_planned_109_114 (l' := [(0, .ref 0), (1, .int set), (2, .int (nI sz)), (3, .int (nI m)), (4, .int (nI Y.2)), (5, .int (nI X.2.2)), (6, .int (nI (i + 1)))]) (st' := [.ref 11, .ref 0]) (w' := (W_M (mv len fa hd dd sd sg es a wr) (va_up M 10 (en Y.1)))) rfl ?_
              refine rr_callVI hC (by decide +kernel) kl_11_211 fX11_passes (m_passes_tried (mv len fa hd dd sd sg es a wr) (va_up M 10 (en Y.1)) tc wd cc kc G (by exact hG) Y.1 rfl (by omega) (by omega) (by omega) h0c (by first | omega | (simp only [p_it_h, p_wr_h, p_sm_h, p_dd_h, p_d1_h, p_df_h]; omega)) hIY.1) rfl rfl rfl rfl rfl (rest := []) rfl rfl ⟨Nat.zero_le _, Nat.zero_le _⟩ (Eq.refl 22) ?_
              show rr_J Z 7 0 0 _ 117 [(0, .ref 0), (1, .int set), (2, .int (nI sz)), (3, .int (nI m)), (4, .int (nI Y.2)), (5, .int (nI X.2.2)), (6, .int (nI (i + 1)))] [] (W_M (mv len fa hd dd sd sg es a wr) (va_up M 10 (en (p_pass G tc wd kc Y.1))))
              refine rr_go hC bk_X11_planned_117_122 (l' := [(0, .ref 0), (1, .int set), (2, .int (nI sz)), (3, .int (nI m)), (4, .int (nI Y.2)), (5, .int (nI X.2.2)), (6, .int (nI (i + 1)))]) (st' := [.ref 11, .ref 0]) (w' := (W_M (mv len fa hd dd sd sg es a wr) (va_up M 10 (en (p_pass G tc wd kc Y.1))))) rfl ?_
              refine rr_callVI hC (by decide +kernel) kl_11_169 fX11_force (m_force_tried (mv len fa hd dd sd sg es a wr) (va_up M 10 (en (p_pass G tc wd kc Y.1))) tc wd cc kc G (by exact hG) (p_pass G tc wd kc Y.1) rfl (by omega) (by omega) (by omega) (hIY.pass tc wd hkc).ok) rfl rfl rfl rfl rfl (rest := []) rfl rfl ⟨Nat.zero_le _, Nat.zero_le _⟩ (Eq.refl 22) ?_
              show rr_J Z 7 0 0 _ 125 [(0, .ref 0), (1, .int set), (2, .int (nI sz)), (3, .int (nI m)), (4, .int (nI Y.2)), (5, .int (nI X.2.2)), (6, .int (nI (i + 1)))] [.int (p_fs (p_pass G tc wd kc Y.1).2.2.2.2 G kc)] (W_M (mv len fa hd dd sd sg es a wr) (va_up M 10 (en (p_pass G tc wd kc Y.1))))
              refine rr_go hC bk_X11_planned_125_128 (l' := [(0, .ref 0), (1, .int set), (2, .int (nI sz)), (3, .int (nI m)), (4, .int (nI Y.2)), (5, .int (nI X.2.2)), (6, .int (nI (i + 1)))]) (st' := [.int set, .int ((p_fs (p_pass G tc wd kc Y.1).2.2.2.2 G kc) &&& set)]) (w' := (W_M (mv len fa hd dd sd sg es a wr) (va_up M 10 (en (p_pass G tc wd kc Y.1))))) rfl ?_
              refine rr_icmp_ne hC (off := 10) (tgt := 138) (by decide +kernel) (fun h128 => ?_) (fun h128 => ?_)
              · refine rr_go hC bk_X11_planned_138_141 (l' := [(0, .ref 0), (1, .int set), (2, .int (nI sz)), (3, .int (nI m)), (4, .int (nI Y.2)), (5, .int 0), (6, .int (nI (i + 1)))]) (st' := []) (w' := (W_M (mv len fa hd dd sd sg es a wr) (va_up M 10 (en (p_pass G tc wd kc Y.1))))) rfl ?_
                have hS : m_ps G tc wd kc set sz who whe (p_sm q kc) (i + 1) = (p_pass G tc wd kc Y.1, Y.2, 0) := by rw [m_ps_s, ← hX, ← hY]; first | (rw [if_pos h128]; done) | (rw [if_neg h128]; done)
                have hS2 : (m_ps G tc wd kc set sz who whe (p_sm q kc) (i + 1)).2.2 = 0 := by rw [hS]
                refine rr_go hC bk_X11_planned_141_144 (l' := [(0, .ref 0), (1, .int set), (2, .int (nI sz)), (3, .int (nI m)), (4, .int (nI Y.2)), (5, .int 0), (6, .int (nI (i + 1)))]) (st' := [.int (nI m), .int 0]) (w' := (W_M (mv len fa hd dd sd sg es a wr) (va_up M 10 (en (p_pass G tc wd kc Y.1))))) rfl ?_
                refine rr_icmp_ne hC (off := 6) (tgt := 150) (by decide +kernel) (fun h144 => ?_) (fun h144 => ?_)
                · rw [rr_ln_eq (a := 0) (by omega) (by omega)] at h144
                  refine rr_go hC bk_X11_planned_150_38 (l' := [(0, .ref 0), (1, .int set), (2, .int (nI sz)), (3, .int (nI m)), (4, .int (nI Y.2)), (5, .int 0), (6, .int ((nI (i + 1)) + 1))]) (st' := []) (w' := (W_M (mv len fa hd dd sd sg es a wr) (va_up M 10 (en (p_pass G tc wd kc Y.1))))) rfl ?_
                  rw [show ((nI (i + 1)) + 1 : Int32) = nI ((i + 1) + 1) from nI_add (i + 1) 1]
                  exact rr_cast (l' := [(0, .ref 0), (1, .int set), (2, .int (nI sz)), (3, .int (nI m)), (4, .int (nI ((m_ps G tc wd kc set sz who whe (p_sm q kc) (i + 1)).2.1))), (5, .int (nI ((m_ps G tc wd kc set sz who whe (p_sm q kc) (i + 1)).2.2))), (6, .int (nI (i + 1 + 1)))]) (by rw [hS] <;> rfl) rfl (w' := (W_M (mv len fa hd dd sd sg es a wr) (va_up M 10 (en (m_ps G tc wd kc set sz who whe (p_sm q kc) (i + 1)).1)))) (by rw [hS]) (ih (i + 1) (by omega) (by omega) (hF.trans (by rw [show 40 - i = (40 - (i + 1)) + 1 by omega, p_fi, if_neg (by rw [decide_eq_false (fun z => h144 (hS2.symm.trans z))]; decide)])))
                · rw [rr_ln_eq (a := 0) (by omega) (by omega)] at h144
                  refine rr_go hC bk_X11_planned_147_149 (l' := [(0, .ref 0), (1, .int set), (2, .int (nI sz)), (3, .int (nI m)), (4, .int (nI Y.2)), (5, .int 0), (6, .int (nI (i + 1)))]) (st' := [.int (nI (i + 1))]) (w' := (W_M (mv len fa hd dd sd sg es a wr) (va_up M 10 (en (p_pass G tc wd kc Y.1))))) rfl ?_
                  exact rr_retiP hC (by decide +kernel) (by refine ⟨?_, _, rfl⟩; rw [hF, show 40 - i = (40 - (i + 1)) + 1 by omega, p_fi, if_pos (decide_eq_true (hS2.trans (by omega)))]) ⟨Nat.zero_le _, Nat.zero_le _⟩
              · refine rr_go hC bk_X11_planned_131_141 (l' := [(0, .ref 0), (1, .int set), (2, .int (nI sz)), (3, .int (nI m)), (4, .int (nI Y.2)), (5, .int ((nI X.2.2) + 1)), (6, .int (nI (i + 1)))]) (st' := []) (w' := (W_M (mv len fa hd dd sd sg es a wr) (va_up M 10 (en (p_pass G tc wd kc Y.1))))) rfl ?_
                rw [show ((nI X.2.2) + 1 : Int32) = nI (X.2.2 + 1) from nI_add X.2.2 1]
                have hS : m_ps G tc wd kc set sz who whe (p_sm q kc) (i + 1) = (p_pass G tc wd kc Y.1, Y.2, X.2.2 + 1) := by rw [m_ps_s, ← hX, ← hY]; first | (rw [if_pos h128]; done) | (rw [if_neg h128]; done)
                have hS2 : (m_ps G tc wd kc set sz who whe (p_sm q kc) (i + 1)).2.2 = X.2.2 + 1 := by rw [hS]
                refine rr_go hC bk_X11_planned_141_144 (l' := [(0, .ref 0), (1, .int set), (2, .int (nI sz)), (3, .int (nI m)), (4, .int (nI Y.2)), (5, .int (nI (X.2.2 + 1))), (6, .int (nI (i + 1)))]) (st' := [.int (nI m), .int (nI (X.2.2 + 1))]) (w' := (W_M (mv len fa hd dd sd sg es a wr) (va_up M 10 (en (p_pass G tc wd kc Y.1))))) rfl ?_
                refine rr_icmp_ne hC (off := 6) (tgt := 150) (by decide +kernel) (fun h144 => ?_) (fun h144 => ?_)
                · rw [rr_nn_eq (by omega) (by omega)] at h144
                  refine rr_go hC bk_X11_planned_150_38 (l' := [(0, .ref 0), (1, .int set), (2, .int (nI sz)), (3, .int (nI m)), (4, .int (nI Y.2)), (5, .int (nI (X.2.2 + 1))), (6, .int ((nI (i + 1)) + 1))]) (st' := []) (w' := (W_M (mv len fa hd dd sd sg es a wr) (va_up M 10 (en (p_pass G tc wd kc Y.1))))) rfl ?_
                  rw [show ((nI (i + 1)) + 1 : Int32) = nI ((i + 1) + 1) from nI_add (i + 1) 1]
                  exact rr_cast (l' := [(0, .ref 0), (1, .int set), (2, .int (nI sz)), (3, .int (nI m)), (4, .int (nI ((m_ps G tc wd kc set sz who whe (p_sm q kc) (i + 1)).2.1))), (5, .int (nI ((m_ps G tc wd kc set sz who whe (p_sm q kc) (i + 1)).2.2))), (6, .int (nI (i + 1 + 1)))]) (by rw [hS] <;> rfl) rfl (w' := (W_M (mv len fa hd dd sd sg es a wr) (va_up M 10 (en (m_ps G tc wd kc set sz who whe (p_sm q kc) (i + 1)).1)))) (by rw [hS]) (ih (i + 1) (by omega) (by omega) (hF.trans (by rw [show 40 - i = (40 - (i + 1)) + 1 by omega, p_fi, if_neg (by rw [decide_eq_false (fun z => h144 (hS2.symm.trans z))]; decide)])))
                · rw [rr_nn_eq (by omega) (by omega)] at h144
                  refine rr_go hC bk_X11_planned_147_149 (l' := [(0, .ref 0), (1, .int set), (2, .int (nI sz)), (3, .int (nI m)), (4, .int (nI Y.2)), (5, .int (nI (X.2.2 + 1))), (6, .int (nI (i + 1)))]) (st' := [.int (nI (i + 1))]) (w' := (W_M (mv len fa hd dd sd sg es a wr) (va_up M 10 (en (p_pass G tc wd kc Y.1))))) rfl ?_
                  exact rr_retiP hC (by decide +kernel) (by refine ⟨?_, _, rfl⟩; rw [hF, show 40 - i = (40 - (i + 1)) + 1 by omega, p_fi, if_pos (decide_eq_true (hS2.trans (by omega)))]) ⟨Nat.zero_le _, Nat.zero_le _⟩
            · refine rr_go hC bk_X11_planned_60_71 (l' := [(0, .ref 0), (1, .int set), (2, .int (nI sz)), (3, .int (nI m)), (4, .int (nI X.2.1)), (5, .int (nI X.2.2)), (6, .int (nI (i + 1)))]) (st' := [.int (nI X.2.1), .ref 18, .ref 11, .ref 0]) (w' := (W_M (mv len fa hd dd sd sg es a wr) (va_up M 10 (en X.1)))) rfl ?_
              refine rr_iald hC X.2.1 (by decide +kernel) rfl rfl (by omega) rfl ?_
              show rr_J Z 7 0 0 _ 72 [(0, .ref 0), (1, .int set), (2, .int (nI sz)), (3, .int (nI m)), (4, .int (nI X.2.1)), (5, .int (nI X.2.2)), (6, .int (nI (i + 1)))] [.int (M 17 X.2.1), .ref 11, .ref 0] (W_M (mv len fa hd dd sd sg es a wr) (va_up M 10 (en X.1)))
              rw [hA1]
              refine rr_go hC bk_X11_planned_72_78 (l' := [(0, .ref 0), (1, .int set), (2, .int (nI sz)), (3, .int (nI m)), (4, .int (nI X.2.1)), (5, .int (nI X.2.2)), (6, .int (nI (i + 1)))]) (st' := [.int (nI X.2.1), .ref 19, .int (nI kk), .ref 11, .ref 0]) (w' := (W_M (mv len fa hd dd sd sg es a wr) (va_up M 10 (en X.1)))) rfl ?_
              refine rr_iald hC X.2.1 (by decide +kernel) rfl rfl (by omega) rfl ?_
              show rr_J Z 7 0 0 _ 79 [(0, .ref 0), (1, .int set), (2, .int (nI sz)), (3, .int (nI m)), (4, .int (nI X.2.1)), (5, .int (nI X.2.2)), (6, .int (nI (i + 1)))] [.int (M 18 X.2.1), .int (nI kk), .ref 11, .ref 0] (W_M (mv len fa hd dd sd sg es a wr) (va_up M 10 (en X.1)))
              rw [hA2]
              refine rr_callVI hC (by decide +kernel) kl_11_186 fX11_mayBe (m_mayBe_tried (mv len fa hd dd sd sg es a wr) (va_up M 10 (en X.1)) tc wd cc kc G (by exact hG) X.1 rfl kk ck (by omega) (by omega) (by omega) (h0c (by omega)) (by omega) (by omega) (by first | omega | (simp only [p_it_h, p_wr_h, p_sm_h, p_dd_h, p_d1_h, p_df_h]; omega))) rfl rfl rfl rfl rfl (rest := []) rfl rfl ⟨Nat.zero_le _, Nat.zero_le _⟩ (Eq.refl 22) ?_
              show rr_J Z 7 0 0 _ 82 [(0, .ref 0), (1, .int set), (2, .int (nI sz)), (3, .int (nI m)), (4, .int (nI X.2.1)), (5, .int (nI X.2.2)), (6, .int (nI (i + 1)))] [.int (rr_b (m_may X.1 G tc kk ck))] (W_M (mv len fa hd dd sd sg es a wr) (va_up M 10 (en X.1)))
              refine rr_eqb hC (off := 27) (tgt := 109) (by decide +kernel) (fun h82 => ?_) (fun h82 => ?_)
              · obtain ⟨Y, hY⟩ : ∃ Y, Y = m_pw G tc sz who whe X := ⟨_, rfl⟩
                have hYe : Y = (X.1, X.2.1) := by rw [hY]; unfold m_pw; rw [if_neg (fun z => by rw [← hkk, ← hck, h82] at z; exact absurd z.2.2 (by decide))]
                have hIY : m_I G cc kc Y.1 := by rw [hY]; exact hIX.pw hcc hkc hw
                have hYh : Y.1.1 = q.1 + i := by rw [hY, m_pw_h]; exact hXh
                have hYn : Y.2 ≤ sz := by rw [hY]; exact m_pw_n hXn
                refine rr_cast (l' := [(0, .ref 0), (1, .int set), (2, .int (nI sz)), (3, .int (nI m)), (4, .int (nI Y.2)), (5, .int (nI X.2.2)), (6, .int (nI (i + 1)))]) (by rw [hYe]) (st' := []) rfl (w' := (W_M (mv len fa hd dd sd sg es a wr) (va_up M 10 (en Y.1)))) (by rw [hYe]) ?_
                refine rr_go hC bk_X11_planned_109_114 (l' := [(0, .ref 0), (1, .int set), (2, .int (nI sz)), (3, .int (nI m)), (4, .int (nI Y.2)), (5, .int (nI X.2.2)), (6, .int (nI (i + 1)))]) (st' := [.ref 11, .ref 0]) (w' := (W_M (mv len fa hd dd sd sg es a wr) (va_up M 10 (en Y.1)))) rfl ?_
                refine rr_callVI hC (by decide +kernel) kl_11_211 fX11_passes (m_passes_tried (mv len fa hd dd sd sg es a wr) (va_up M 10 (en Y.1)) tc wd cc kc G (by exact hG) Y.1 rfl (by omega) (by omega) (by omega) h0c (by first | omega | (simp only [p_it_h, p_wr_h, p_sm_h, p_dd_h, p_d1_h, p_df_h]; omega)) hIY.1) rfl rfl rfl rfl rfl (rest := []) rfl rfl ⟨Nat.zero_le _, Nat.zero_le _⟩ (Eq.refl 22) ?_
                show rr_J Z 7 0 0 _ 117 [(0, .ref 0), (1, .int set), (2, .int (nI sz)), (3, .int (nI m)), (4, .int (nI Y.2)), (5, .int (nI X.2.2)), (6, .int (nI (i + 1)))] [] (W_M (mv len fa hd dd sd sg es a wr) (va_up M 10 (en (p_pass G tc wd kc Y.1))))
                refine rr_go hC bk_X11_planned_117_122 (l' := [(0, .ref 0), (1, .int set), (2, .int (nI sz)), (3, .int (nI m)), (4, .int (nI Y.2)), (5, .int (nI X.2.2)), (6, .int (nI (i + 1)))]) (st' := [.ref 11, .ref 0]) (w' := (W_M (mv len fa hd dd sd sg es a wr) (va_up M 10 (en (p_pass G tc wd kc Y.1))))) rfl ?_
                refine rr_callVI hC (by decide +kernel) kl_11_169 fX11_force (m_force_tried (mv len fa hd dd sd sg es a wr) (va_up M 10 (en (p_pass G tc wd kc Y.1))) tc wd cc kc G (by exact hG) (p_pass G tc wd kc Y.1) rfl (by omega) (by omega) (by omega) (hIY.pass tc wd hkc).ok) rfl rfl rfl rfl rfl (rest := []) rfl rfl ⟨Nat.zero_le _, Nat.zero_le _⟩ (Eq.refl 22) ?_
                show rr_J Z 7 0 0 _ 125 [(0, .ref 0), (1, .int set), (2, .int (nI sz)), (3, .int (nI m)), (4, .int (nI Y.2)), (5, .int (nI X.2.2)), (6, .int (nI (i + 1)))] [.int (p_fs (p_pass G tc wd kc Y.1).2.2.2.2 G kc)] (W_M (mv len fa hd dd sd sg es a wr) (va_up M 10 (en (p_pass G tc wd kc Y.1))))
                refine rr_go hC bk_X11_planned_125_128 (l' := [(0, .ref 0), (1, .int set), (2, .int (nI sz)), (3, .int (nI m)), (4, .int (nI Y.2)), (5, .int (nI X.2.2)), (6, .int (nI (i + 1)))]) (st' := [.int set, .int ((p_fs (p_pass G tc wd kc Y.1).2.2.2.2 G kc) &&& set)]) (w' := (W_M (mv len fa hd dd sd sg es a wr) (va_up M 10 (en (p_pass G tc wd kc Y.1))))) rfl ?_
                refine rr_icmp_ne hC (off := 10) (tgt := 138) (by decide +kernel) (fun h128 => ?_) (fun h128 => ?_)
                · refine rr_go hC bk_X11_planned_138_141 (l' := [(0, .ref 0), (1, .int set), (2, .int (nI sz)), (3, .int (nI m)), (4, .int (nI Y.2)), (5, .int 0), (6, .int (nI (i + 1)))]) (st' := []) (w' := (W_M (mv len fa hd dd sd sg es a wr) (va_up M 10 (en (p_pass G tc wd kc Y.1))))) rfl ?_
                  have hS : m_ps G tc wd kc set sz who whe (p_sm q kc) (i + 1) = (p_pass G tc wd kc Y.1, Y.2, 0) := by rw [m_ps_s, ← hX, ← hY]; first | (rw [if_pos h128]; done) | (rw [if_neg h128]; done)
                  have hS2 : (m_ps G tc wd kc set sz who whe (p_sm q kc) (i + 1)).2.2 = 0 := by rw [hS]
                  refine rr_go hC bk_X11_planned_141_144 (l' := [(0, .ref 0), (1, .int set), (2, .int (nI sz)), (3, .int (nI m)), (4, .int (nI Y.2)), (5, .int 0), (6, .int (nI (i + 1)))]) (st' := [.int (nI m), .int 0]) (w' := (W_M (mv len fa hd dd sd sg es a wr) (va_up M 10 (en (p_pass G tc wd kc Y.1))))) rfl ?_
                  refine rr_icmp_ne hC (off := 6) (tgt := 150) (by decide +kernel) (fun h144 => ?_) (fun h144 => ?_)
                  · rw [rr_ln_eq (a := 0) (by omega) (by omega)] at h144
                    refine rr_go hC bk_X11_planned_150_38 (l' := [(0, .ref 0), (1, .int set), (2, .int (nI sz)), (3, .int (nI m)), (4, .int (nI Y.2)), (5, .int 0), (6, .int ((nI (i + 1)) + 1))]) (st' := []) (w' := (W_M (mv len fa hd dd sd sg es a wr) (va_up M 10 (en (p_pass G tc wd kc Y.1))))) rfl ?_
                    rw [show ((nI (i + 1)) + 1 : Int32) = nI ((i + 1) + 1) from nI_add (i + 1) 1]
                    exact rr_cast (l' := [(0, .ref 0), (1, .int set), (2, .int (nI sz)), (3, .int (nI m)), (4, .int (nI ((m_ps G tc wd kc set sz who whe (p_sm q kc) (i + 1)).2.1))), (5, .int (nI ((m_ps G tc wd kc set sz who whe (p_sm q kc) (i + 1)).2.2))), (6, .int (nI (i + 1 + 1)))]) (by rw [hS] <;> rfl) rfl (w' := (W_M (mv len fa hd dd sd sg es a wr) (va_up M 10 (en (m_ps G tc wd kc set sz who whe (p_sm q kc) (i + 1)).1)))) (by rw [hS]) (ih (i + 1) (by omega) (by omega) (hF.trans (by rw [show 40 - i = (40 - (i + 1)) + 1 by omega, p_fi, if_neg (by rw [decide_eq_false (fun z => h144 (hS2.symm.trans z))]; decide)])))
                  · rw [rr_ln_eq (a := 0) (by omega) (by omega)] at h144
                    refine rr_go hC bk_X11_planned_147_149 (l' := [(0, .ref 0), (1, .int set), (2, .int (nI sz)), (3, .int (nI m)), (4, .int (nI Y.2)), (5, .int 0), (6, .int (nI (i + 1)))]) (st' := [.int (nI (i + 1))]) (w' := (W_M (mv len fa hd dd sd sg es a wr) (va_up M 10 (en (p_pass G tc wd kc Y.1))))) rfl ?_
                    exact rr_retiP hC (by decide +kernel) (by refine ⟨?_, _, rfl⟩; rw [hF, show 40 - i = (40 - (i + 1)) + 1 by omega, p_fi, if_pos (decide_eq_true (hS2.trans (by omega)))]) ⟨Nat.zero_le _, Nat.zero_le _⟩
                · refine rr_go hC bk_X11_planned_131_141 (l' := [(0, .ref 0), (1, .int set), (2, .int (nI sz)), (3, .int (nI m)), (4, .int (nI Y.2)), (5, .int ((nI X.2.2) + 1)), (6, .int (nI (i + 1)))]) (st' := []) (w' := (W_M (mv len fa hd dd sd sg es a wr) (va_up M 10 (en (p_pass G tc wd kc Y.1))))) rfl ?_
                  rw [show ((nI X.2.2) + 1 : Int32) = nI (X.2.2 + 1) from nI_add X.2.2 1]
                  have hS : m_ps G tc wd kc set sz who whe (p_sm q kc) (i + 1) = (p_pass G tc wd kc Y.1, Y.2, X.2.2 + 1) := by rw [m_ps_s, ← hX, ← hY]; first | (rw [if_pos h128]; done) | (rw [if_neg h128]; done)
                  have hS2 : (m_ps G tc wd kc set sz who whe (p_sm q kc) (i + 1)).2.2 = X.2.2 + 1 := by rw [hS]
                  refine rr_go hC bk_X11_planned_141_144 (l' := [(0, .ref 0), (1, .int set), (2, .int (nI sz)), (3, .int (nI m)), (4, .int (nI Y.2)), (5, .int (nI (X.2.2 + 1))), (6, .int (nI (i + 1)))]) (st' := [.int (nI m), .int (nI (X.2.2 + 1))]) (w' := (W_M (mv len fa hd dd sd sg es a wr) (va_up M 10 (en (p_pass G tc wd kc Y.1))))) rfl ?_
                  refine rr_icmp_ne hC (off := 6) (tgt := 150) (by decide +kernel) (fun h144 => ?_) (fun h144 => ?_)
                  · rw [rr_nn_eq (by omega) (by omega)] at h144
                    refine rr_go hC bk_X11_planned_150_38 (l' := [(0, .ref 0), (1, .int set), (2, .int (nI sz)), (3, .int (nI m)), (4, .int (nI Y.2)), (5, .int (nI (X.2.2 + 1))), (6, .int ((nI (i + 1)) + 1))]) (st' := []) (w' := (W_M (mv len fa hd dd sd sg es a wr) (va_up M 10 (en (p_pass G tc wd kc Y.1))))) rfl ?_
                    rw [show ((nI (i + 1)) + 1 : Int32) = nI ((i + 1) + 1) from nI_add (i + 1) 1]
                    exact rr_cast (l' := [(0, .ref 0), (1, .int set), (2, .int (nI sz)), (3, .int (nI m)), (4, .int (nI ((m_ps G tc wd kc set sz who whe (p_sm q kc) (i + 1)).2.1))), (5, .int (nI ((m_ps G tc wd kc set sz who whe (p_sm q kc) (i + 1)).2.2))), (6, .int (nI (i + 1 + 1)))]) (by rw [hS] <;> rfl) rfl (w' := (W_M (mv len fa hd dd sd sg es a wr) (va_up M 10 (en (m_ps G tc wd kc set sz who whe (p_sm q kc) (i + 1)).1)))) (by rw [hS]) (ih (i + 1) (by omega) (by omega) (hF.trans (by rw [show 40 - i = (40 - (i + 1)) + 1 by omega, p_fi, if_neg (by rw [decide_eq_false (fun z => h144 (hS2.symm.trans z))]; decide)])))
                  · rw [rr_nn_eq (by omega) (by omega)] at h144
                    refine rr_go hC bk_X11_planned_147_149 (l' := [(0, .ref 0), (1, .int set), (2, .int (nI sz)), (3, .int (nI m)), (4, .int (nI Y.2)), (5, .int (nI (X.2.2 + 1))), (6, .int (nI (i + 1)))]) (st' := [.int (nI (i + 1))]) (w' := (W_M (mv len fa hd dd sd sg es a wr) (va_up M 10 (en (p_pass G tc wd kc Y.1))))) rfl ?_
                    exact rr_retiP hC (by decide +kernel) (by refine ⟨?_, _, rfl⟩; rw [hF, show 40 - i = (40 - (i + 1)) + 1 by omega, p_fi, if_pos (decide_eq_true (hS2.trans (by omega)))]) ⟨Nat.zero_le _, Nat.zero_le _⟩
              · refine rr_go hC bk_X11_planned_85_95 (l' := [(0, .ref 0), (1, .int set), (2, .int (nI sz)), (3, .int (nI m)), (4, .int (nI X.2.1)), (5, .int (nI X.2.2)), (6, .int (nI (i + 1)))]) (st' := [.int (nI X.2.1), .ref 18, .ref 11]) (w' := (W_M (mv len fa hd dd sd sg es a wr) (va_up M 10 (en X.1)))) rfl ?_
                refine rr_iald hC X.2.1 (by decide +kernel) rfl rfl (by omega) rfl ?_
                show rr_J Z 7 0 0 _ 96 [(0, .ref 0), (1, .int set), (2, .int (nI sz)), (3, .int (nI m)), (4, .int (nI X.2.1)), (5, .int (nI X.2.2)), (6, .int (nI (i + 1)))] [.int (M 17 X.2.1), .ref 11] (W_M (mv len fa hd dd sd sg es a wr) (va_up M 10 (en X.1)))
                rw [hA1]
                refine rr_go hC bk_X11_planned_96_102 (l' := [(0, .ref 0), (1, .int set), (2, .int (nI sz)), (3, .int (nI m)), (4, .int (nI X.2.1)), (5, .int (nI X.2.2)), (6, .int (nI (i + 1)))]) (st' := [.int (nI X.2.1), .ref 19, .int (nI kk), .ref 11]) (w' := (W_M (mv len fa hd dd sd sg es a wr) (va_up M 10 (en X.1)))) rfl ?_
                refine rr_iald hC X.2.1 (by decide +kernel) rfl rfl (by omega) rfl ?_
                show rr_J Z 7 0 0 _ 103 [(0, .ref 0), (1, .int set), (2, .int (nI sz)), (3, .int (nI m)), (4, .int (nI X.2.1)), (5, .int (nI X.2.2)), (6, .int (nI (i + 1)))] [.int (M 18 X.2.1), .int (nI kk), .ref 11] (W_M (mv len fa hd dd sd sg es a wr) (va_up M 10 (en X.1)))
                rw [hA2]
                refine rr_callS hC (by decide +kernel) kl_11_194 fX11_writes (m_writes (fun _ => en X.1) X.1 rfl kk ck (by omega)) rfl rfl [11] rfl rfl (Eq.refl 1) rfl (rest := []) rfl rfl ⟨Nat.zero_le _, Nat.zero_le _⟩ (w2 := (W_M (mv len fa hd dd sd sg es a wr) (va_up M 10 (en (p_wr X.1 kk ck))))) rfl ?_
                show rr_J Z 7 0 0 _ 106 [(0, .ref 0), (1, .int set), (2, .int (nI sz)), (3, .int (nI m)), (4, .int (nI X.2.1)), (5, .int (nI X.2.2)), (6, .int (nI (i + 1)))] [] (W_M (mv len fa hd dd sd sg es a wr) (va_up M 10 (en (p_wr X.1 kk ck))))
                refine rr_go hC bk_X11_planned_106_109 (l' := [(0, .ref 0), (1, .int set), (2, .int (nI sz)), (3, .int (nI m)), (4, .int ((nI X.2.1) + 1)), (5, .int (nI X.2.2)), (6, .int (nI (i + 1)))]) (st' := []) (w' := (W_M (mv len fa hd dd sd sg es a wr) (va_up M 10 (en (p_wr X.1 kk ck))))) rfl ?_
                rw [show ((nI X.2.1) + 1 : Int32) = nI (X.2.1 + 1) from nI_add X.2.1 1]
                obtain ⟨Y, hY⟩ : ∃ Y, Y = m_pw G tc sz who whe X := ⟨_, rfl⟩
                have hYe : Y = (p_wr X.1 kk ck, X.2.1 + 1) := by rw [hY]; unfold m_pw; rw [if_pos ⟨by omega, p_i0.mp h57, by rw [← hkk, ← hck]; exact h82⟩, ← hkk, ← hck]
                have hIY : m_I G cc kc Y.1 := by rw [hY]; exact hIX.pw hcc hkc hw
                have hYh : Y.1.1 = q.1 + i := by rw [hY, m_pw_h]; exact hXh
                have hYn : Y.2 ≤ sz := by rw [hY]; exact m_pw_n hXn
                refine rr_cast (l' := [(0, .ref 0), (1, .int set), (2, .int (nI sz)), (3, .int (nI m)), (4, .int (nI Y.2)), (5, .int (nI X.2.2)), (6, .int (nI (i + 1)))]) (by rw [hYe]) (st' := []) rfl (w' := (W_M (mv len fa hd dd sd sg es a wr) (va_up M 10 (en Y.1)))) (by rw [hYe]) ?_
                refine rr_go hC bk_X11_planned_109_114 (l' := [(0, .ref 0), (1, .int set), (2, .int (nI sz)), (3, .int (nI m)), (4, .int (nI Y.2)), (5, .int (nI X.2.2)), (6, .int (nI (i + 1)))]) (st' := [.ref 11, .ref 0]) (w' := (W_M (mv len fa hd dd sd sg es a wr) (va_up M 10 (en Y.1)))) rfl ?_
                refine rr_callVI hC (by decide +kernel) kl_11_211 fX11_passes (m_passes_tried (mv len fa hd dd sd sg es a wr) (va_up M 10 (en Y.1)) tc wd cc kc G (by exact hG) Y.1 rfl (by omega) (by omega) (by omega) h0c (by first | omega | (simp only [p_it_h, p_wr_h, p_sm_h, p_dd_h, p_d1_h, p_df_h]; omega)) hIY.1) rfl rfl rfl rfl rfl (rest := []) rfl rfl ⟨Nat.zero_le _, Nat.zero_le _⟩ (Eq.refl 22) ?_
                show rr_J Z 7 0 0 _ 117 [(0, .ref 0), (1, .int set), (2, .int (nI sz)), (3, .int (nI m)), (4, .int (nI Y.2)), (5, .int (nI X.2.2)), (6, .int (nI (i + 1)))] [] (W_M (mv len fa hd dd sd sg es a wr) (va_up M 10 (en (p_pass G tc wd kc Y.1))))
                refine rr_go hC bk_X11_planned_117_122 (l' := [(0, .ref 0), (1, .int set), (2, .int (nI sz)), (3, .int (nI m)), (4, .int (nI Y.2)), (5, .int (nI X.2.2)), (6, .int (nI (i + 1)))]) (st' := [.ref 11, .ref 0]) (w' := (W_M (mv len fa hd dd sd sg es a wr) (va_up M 10 (en (p_pass G tc wd kc Y.1))))) rfl ?_
                refine rr_callVI hC (by decide +kernel) kl_11_169 fX11_force (m_force_tried (mv len fa hd dd sd sg es a wr) (va_up M 10 (en (p_pass G tc wd kc Y.1))) tc wd cc kc G (by exact hG) (p_pass G tc wd kc Y.1) rfl (by omega) (by omega) (by omega) (hIY.pass tc wd hkc).ok) rfl rfl rfl rfl rfl (rest := []) rfl rfl ⟨Nat.zero_le _, Nat.zero_le _⟩ (Eq.refl 22) ?_
                show rr_J Z 7 0 0 _ 125 [(0, .ref 0), (1, .int set), (2, .int (nI sz)), (3, .int (nI m)), (4, .int (nI Y.2)), (5, .int (nI X.2.2)), (6, .int (nI (i + 1)))] [.int (p_fs (p_pass G tc wd kc Y.1).2.2.2.2 G kc)] (W_M (mv len fa hd dd sd sg es a wr) (va_up M 10 (en (p_pass G tc wd kc Y.1))))
                refine rr_go hC bk_X11_planned_125_128 (l' := [(0, .ref 0), (1, .int set), (2, .int (nI sz)), (3, .int (nI m)), (4, .int (nI Y.2)), (5, .int (nI X.2.2)), (6, .int (nI (i + 1)))]) (st' := [.int set, .int ((p_fs (p_pass G tc wd kc Y.1).2.2.2.2 G kc) &&& set)]) (w' := (W_M (mv len fa hd dd sd sg es a wr) (va_up M 10 (en (p_pass G tc wd kc Y.1))))) rfl ?_
                refine rr_icmp_ne hC (off := 10) (tgt := 138) (by decide +kernel) (fun h128 => ?_) (fun h128 => ?_)
                · refine rr_go hC bk_X11_planned_138_141 (l' := [(0, .ref 0), (1, .int set), (2, .int (nI sz)), (3, .int (nI m)), (4, .int (nI Y.2)), (5, .int 0), (6, .int (nI (i + 1)))]) (st' := []) (w' := (W_M (mv len fa hd dd sd sg es a wr) (va_up M 10 (en (p_pass G tc wd kc Y.1))))) rfl ?_
                  have hS : m_ps G tc wd kc set sz who whe (p_sm q kc) (i + 1) = (p_pass G tc wd kc Y.1, Y.2, 0) := by rw [m_ps_s, ← hX, ← hY]; first | (rw [if_pos h128]; done) | (rw [if_neg h128]; done)
                  have hS2 : (m_ps G tc wd kc set sz who whe (p_sm q kc) (i + 1)).2.2 = 0 := by rw [hS]
                  refine rr_go hC bk_X11_planned_141_144 (l' := [(0, .ref 0), (1, .int set), (2, .int (nI sz)), (3, .int (nI m)), (4, .int (nI Y.2)), (5, .int 0), (6, .int (nI (i + 1)))]) (st' := [.int (nI m), .int 0]) (w' := (W_M (mv len fa hd dd sd sg es a wr) (va_up M 10 (en (p_pass G tc wd kc Y.1))))) rfl ?_
                  refine rr_icmp_ne hC (off := 6) (tgt := 150) (by decide +kernel) (fun h144 => ?_) (fun h144 => ?_)
                  · rw [rr_ln_eq (a := 0) (by omega) (by omega)] at h144
                    refine rr_go hC bk_X11_planned_150_38 (l' := [(0, .ref 0), (1, .int set), (2, .int (nI sz)), (3, .int (nI m)), (4, .int (nI Y.2)), (5, .int 0), (6, .int ((nI (i + 1)) + 1))]) (st' := []) (w' := (W_M (mv len fa hd dd sd sg es a wr) (va_up M 10 (en (p_pass G tc wd kc Y.1))))) rfl ?_
                    rw [show ((nI (i + 1)) + 1 : Int32) = nI ((i + 1) + 1) from nI_add (i + 1) 1]
                    exact rr_cast (l' := [(0, .ref 0), (1, .int set), (2, .int (nI sz)), (3, .int (nI m)), (4, .int (nI ((m_ps G tc wd kc set sz who whe (p_sm q kc) (i + 1)).2.1))), (5, .int (nI ((m_ps G tc wd kc set sz who whe (p_sm q kc) (i + 1)).2.2))), (6, .int (nI (i + 1 + 1)))]) (by rw [hS] <;> rfl) rfl (w' := (W_M (mv len fa hd dd sd sg es a wr) (va_up M 10 (en (m_ps G tc wd kc set sz who whe (p_sm q kc) (i + 1)).1)))) (by rw [hS]) (ih (i + 1) (by omega) (by omega) (hF.trans (by rw [show 40 - i = (40 - (i + 1)) + 1 by omega, p_fi, if_neg (by rw [decide_eq_false (fun z => h144 (hS2.symm.trans z))]; decide)])))
                  · rw [rr_ln_eq (a := 0) (by omega) (by omega)] at h144
                    refine rr_go hC bk_X11_planned_147_149 (l' := [(0, .ref 0), (1, .int set), (2, .int (nI sz)), (3, .int (nI m)), (4, .int (nI Y.2)), (5, .int 0), (6, .int (nI (i + 1)))]) (st' := [.int (nI (i + 1))]) (w' := (W_M (mv len fa hd dd sd sg es a wr) (va_up M 10 (en (p_pass G tc wd kc Y.1))))) rfl ?_
                    exact rr_retiP hC (by decide +kernel) (by refine ⟨?_, _, rfl⟩; rw [hF, show 40 - i = (40 - (i + 1)) + 1 by omega, p_fi, if_pos (decide_eq_true (hS2.trans (by omega)))]) ⟨Nat.zero_le _, Nat.zero_le _⟩
                · refine rr_go hC bk_X11_planned_131_141 (l' := [(0, .ref 0), (1, .int set), (2, .int (nI sz)), (3, .int (nI m)), (4, .int (nI Y.2)), (5, .int ((nI X.2.2) + 1)), (6, .int (nI (i + 1)))]) (st' := []) (w' := (W_M (mv len fa hd dd sd sg es a wr) (va_up M 10 (en (p_pass G tc wd kc Y.1))))) rfl ?_
                  rw [show ((nI X.2.2) + 1 : Int32) = nI (X.2.2 + 1) from nI_add X.2.2 1]
                  have hS : m_ps G tc wd kc set sz who whe (p_sm q kc) (i + 1) = (p_pass G tc wd kc Y.1, Y.2, X.2.2 + 1) := by rw [m_ps_s, ← hX, ← hY]; first | (rw [if_pos h128]; done) | (rw [if_neg h128]; done)
                  have hS2 : (m_ps G tc wd kc set sz who whe (p_sm q kc) (i + 1)).2.2 = X.2.2 + 1 := by rw [hS]
                  refine rr_go hC bk_X11_planned_141_144 (l' := [(0, .ref 0), (1, .int set), (2, .int (nI sz)), (3, .int (nI m)), (4, .int (nI Y.2)), (5, .int (nI (X.2.2 + 1))), (6, .int (nI (i + 1)))]) (st' := [.int (nI m), .int (nI (X.2.2 + 1))]) (w' := (W_M (mv len fa hd dd sd sg es a wr) (va_up M 10 (en (p_pass G tc wd kc Y.1))))) rfl ?_
                  refine rr_icmp_ne hC (off := 6) (tgt := 150) (by decide +kernel) (fun h144 => ?_) (fun h144 => ?_)
                  · rw [rr_nn_eq (by omega) (by omega)] at h144
                    refine rr_go hC bk_X11_planned_150_38 (l' := [(0, .ref 0), (1, .int set), (2, .int (nI sz)), (3, .int (nI m)), (4, .int (nI Y.2)), (5, .int (nI (X.2.2 + 1))), (6, .int ((nI (i + 1)) + 1))]) (st' := []) (w' := (W_M (mv len fa hd dd sd sg es a wr) (va_up M 10 (en (p_pass G tc wd kc Y.1))))) rfl ?_
                    rw [show ((nI (i + 1)) + 1 : Int32) = nI ((i + 1) + 1) from nI_add (i + 1) 1]
                    exact rr_cast (l' := [(0, .ref 0), (1, .int set), (2, .int (nI sz)), (3, .int (nI m)), (4, .int (nI ((m_ps G tc wd kc set sz who whe (p_sm q kc) (i + 1)).2.1))), (5, .int (nI ((m_ps G tc wd kc set sz who whe (p_sm q kc) (i + 1)).2.2))), (6, .int (nI (i + 1 + 1)))]) (by rw [hS] <;> rfl) rfl (w' := (W_M (mv len fa hd dd sd sg es a wr) (va_up M 10 (en (m_ps G tc wd kc set sz who whe (p_sm q kc) (i + 1)).1)))) (by rw [hS]) (ih (i + 1) (by omega) (by omega) (hF.trans (by rw [show 40 - i = (40 - (i + 1)) + 1 by omega, p_fi, if_neg (by rw [decide_eq_false (fun z => h144 (hS2.symm.trans z))]; decide)])))
                  · rw [rr_nn_eq (by omega) (by omega)] at h144
                    refine rr_go hC bk_X11_planned_147_149 (l' := [(0, .ref 0), (1, .int set), (2, .int (nI sz)), (3, .int (nI m)), (4, .int (nI Y.2)), (5, .int (nI (X.2.2 + 1))), (6, .int (nI (i + 1)))]) (st' := [.int (nI (i + 1))]) (w' := (W_M (mv len fa hd dd sd sg es a wr) (va_up M 10 (en (p_pass G tc wd kc Y.1))))) rfl ?_
                    exact rr_retiP hC (by decide +kernel) (by refine ⟨?_, _, rfl⟩; rw [hF, show 40 - i = (40 - (i + 1)) + 1 by omega, p_fi, if_pos (decide_eq_true (hS2.trans (by omega)))]) ⟨Nat.zero_le _, Nat.zero_le _⟩
      exact rr_cast (l' := [(0, .ref 0), (1, .int set), (2, .int (nI sz)), (3, .int (nI m)), (4, .int (nI ((m_ps G tc wd kc set sz who whe (p_sm q kc) 0).2.1))), (5, .int (nI ((m_ps G tc wd kc set sz who whe (p_sm q kc) 0).2.2))), (6, .int (nI (0 + 1)))]) (by first | rfl | (rfl)) rfl (w' := (W_M (mv len fa hd dd sd sg es a wr) (va_up M 10 (en (m_ps G tc wd kc set sz who whe (p_sm q kc) 0).1)))) (by rfl) (lp38 (40 - 0) 0 (by omega) (Nat.le_refl _) rfl)
    | succ j ih =>
      intro k hk7 hlo7
      refine rr_go hC bk_X11_planned_7_11 (l' := [(0, .ref 0), (1, .int set), (2, .int (nI sz)), (3, .int (nI m)), (4, .int (nI k))]) (st' := [.int 6, .int (nI k)]) (w' := (W_M (mv len fa hd dd sd sg es a wr) (va_up M 10 (en (p_sw q k))))) rfl ?_
      refine rr_icmp_ge hC (off := 18) (tgt := 29) (by decide +kernel) (fun h11 => by rw [rr_ln_le (a := 6) (by omega) (by omega)] at h11; omega) (fun h11 => ?_)
      rw [rr_ln_le (a := 6) (by omega) (by omega)] at h11
      refine rr_go hC bk_X11_planned_14_20 (l' := [(0, .ref 0), (1, .int set), (2, .int (nI sz)), (3, .int (nI m)), (4, .int (nI k))]) (st' := [.int (nI k), .ref 11]) (w' := (W_M (mv len fa hd dd sd sg es a wr) (va_up M 10 (en (p_sw q k))))) rfl ?_
      refine rr_callS hC (by decide +kernel) kl_11_198 fX11_goes (m_goes (fun _ => en (p_sw q k)) (p_sw q k) rfl k (by omega)) rfl rfl [11] rfl rfl (Eq.refl 1) rfl (rest := []) rfl rfl ⟨Nat.zero_le _, Nat.zero_le _⟩ (w2 := (W_M (mv len fa hd dd sd sg es a wr) (va_up M 10 (en (p_rb (p_sw q k) k))))) rfl ?_
      show rr_J Z 7 0 0 _ 23 [(0, .ref 0), (1, .int set), (2, .int (nI sz)), (3, .int (nI m)), (4, .int (nI k))] [] (W_M (mv len fa hd dd sd sg es a wr) (va_up M 10 (en (p_rb (p_sw q k) k))))
      refine rr_go hC bk_X11_planned_23_7 (l' := [(0, .ref 0), (1, .int set), (2, .int (nI sz)), (3, .int (nI m)), (4, .int ((nI k) + 1))]) (st' := []) (w' := (W_M (mv len fa hd dd sd sg es a wr) (va_up M 10 (en (p_rb (p_sw q k) k))))) rfl ?_
      rw [show ((nI k) + 1 : Int32) = nI (k + 1) from nI_add k 1]
      exact rr_cast (l' := [(0, .ref 0), (1, .int set), (2, .int (nI sz)), (3, .int (nI m)), (4, .int (nI (k + 1)))]) (by rfl) rfl (w' := (W_M (mv len fa hd dd sd sg es a wr) (va_up M 10 (en (p_sw q (k + 1)))))) (by rfl) (ih (k + 1) (by omega) (by omega))
  exact rr_cast (l' := [(0, .ref 0), (1, .int set), (2, .int (nI sz)), (3, .int (nI m)), (4, .int (nI 0))]) (by first | rfl | (rfl)) rfl (w' := (W_M (mv len fa hd dd sd sg es a wr) (va_up M 10 (en (p_sw q 0))))) (by rw [show p_sw q 0 = q from rfl]) (lp7 (6 - 0) 0 (by omega) (Nat.le_refl _))
