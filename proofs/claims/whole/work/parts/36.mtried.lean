/-! the model: tries, lasts, washed, crossing; leaners, storms; see, note, judge; keep, goBack -/
theorem m_triesQ (len : Nat) (fa : Int32) (hd : Bool) (dd : Nat) (sd : Int32) (sg es a : Nat) (wr : Int32) (M : Nat → Nat → Int32) (q t : p_Q) (hq : M 9 = en q) (ht : M 10 = en t) : rr_C mX11_tries 1 [.ref 0] (W_M (mv len fa hd dd sd sg es a wr) M) 0 0 none (W_M (mv len fa hd dd sd sg es a wr) (va_up M 10 (en q))) := by
  have h := m_tries len fa hd dd sd sg es a wr M
  rw [hq, ht, en_cpy] at h
  exact h
theorem m_cn_s (x k : Int32) (n : Nat) : nI n + ((x >>> (k &&& 31)) &&& 1) = nI (if (!decide (p_bit x k = 0)) = true then n + 1 else n) := by
  have e : (x >>> (k &&& 31)) &&& 1 = p_bit x k := rfl
  rw [e]
  rcases p_bit01 x k with h | h
  · rw [h]; simp
  · rw [h]
    show nI n + 1 = nI (n + 1)
    exact nI_1 n
theorem bk_X11_lasts_0_2 : rr_chk mX11_lasts [(.aload_n 0, 0, 0, 0), (.iload_n 1, 0, 1, 0)] 0 2 = true := by decide +kernel
theorem bk_X11_lasts_16_18 : rr_chk mX11_lasts [(.ldc 178, (-1000000001), 0, 0)] 16 18 = true := by decide +kernel
theorem bk_X11_lasts_8_10 : rr_chk mX11_lasts [(.aload_n 0, 0, 0, 0), (.iload_n 2, 0, 2, 0)] 8 10 = true := by decide +kernel
set_option maxRecDepth 100000 in
set_option maxHeartbeats 4000000 in
theorem m_lastsU (len : Nat) (fa : Int32) (hd : Bool) (dd : Nat) (sd : Int32) (sg es a : Nat) (wr : Int32) (M : Nat → Nat → Int32) (tc wd cc kc : Nat) (G : Nat → Nat → Int32) (hG : m_G M G tc wd cc kc) (k c : Int32) (htc : tc ≤ 12) (hcc : cc ≤ 9) (hkc : kc ≤ 6) (hn : p_in k (nI kc) = false ∨ p_in c (nI cc) = false) : rr_C mX11_lasts 6 [.ref 0, .int k, .int c] (W_M (mv len fa hd dd sd sg es a wr) M) 0 0 (some (-1000000001)) (W_M (mv len fa hd dd sd sg es a wr) M) := by
  refine rr_C.of (n := 2) fX11_lasts.1 rfl rfl (fun Z hC => ?_)
  show rr_J Z 5 0 0 (rr_MQ Z 0 0 (some (-1000000001)) (W_M (mv len fa hd dd sd sg es a wr) M)) 0 [(0, .ref 0), (1, .int k), (2, .int c)] [] (W_M (mv len fa hd dd sd sg es a wr) M)
  refine rr_go hC bk_X11_lasts_0_2 (l' := [(0, .ref 0), (1, .int k), (2, .int c)]) (st' := [.int k, .ref 0]) (w' := (W_M (mv len fa hd dd sd sg es a wr) M)) rfl ?_
  refine rr_callVI hC (by decide +kernel) kl_11_174 fX11_isClause (m_isClause (mv len fa hd dd sd sg es a wr) M tc wd cc kc G hG k (by omega) (by omega) (by omega)) rfl rfl rfl rfl rfl (rest := []) rfl rfl ⟨Nat.zero_le _, Nat.zero_le _⟩ (Eq.refl 22) ?_
  show rr_J Z 5 0 0 _ 5 [(0, .ref 0), (1, .int k), (2, .int c)] [.int (rr_b (p_in k (nI kc)))] (W_M (mv len fa hd dd sd sg es a wr) M)
  refine rr_eqb hC (off := 11) (tgt := 16) (by decide +kernel) (fun h5 => ?_) (fun h5 => ?_)
  · refine rr_go hC bk_X11_lasts_16_18 (l' := [(0, .ref 0), (1, .int k), (2, .int c)]) (st' := [.int (-1000000001)]) (w' := (W_M (mv len fa hd dd sd sg es a wr) M)) rfl ?_
    exact rr_reti hC (by decide +kernel) (by rfl) (by rfl) ⟨Nat.zero_le _, Nat.zero_le _⟩
  · refine rr_go hC bk_X11_lasts_8_10 (l' := [(0, .ref 0), (1, .int k), (2, .int c)]) (st' := [.int c, .ref 0]) (w' := (W_M (mv len fa hd dd sd sg es a wr) M)) rfl ?_
    refine rr_callVI hC (by decide +kernel) kl_11_179 fX11_isCell (m_isCell (mv len fa hd dd sd sg es a wr) M tc wd cc kc G hG c (by omega) (by omega) (by omega)) rfl rfl rfl rfl rfl (rest := []) rfl rfl ⟨Nat.zero_le _, Nat.zero_le _⟩ (Eq.refl 22) ?_
    show rr_J Z 5 0 0 _ 13 [(0, .ref 0), (1, .int k), (2, .int c)] [.int (rr_b (p_in c (nI cc)))] (W_M (mv len fa hd dd sd sg es a wr) M)
    refine rr_neb hC (off := 6) (tgt := 19) (by decide +kernel) (fun h13 => by  rcases hn with z | z; rw [z] at h5; cases h5; rw [z] at h13; cases h13) (fun h13 => ?_)
    refine rr_go hC bk_X11_lasts_16_18 (l' := [(0, .ref 0), (1, .int k), (2, .int c)]) (st' := [.int (-1000000001)]) (w' := (W_M (mv len fa hd dd sd sg es a wr) M)) rfl ?_
    exact rr_reti hC (by decide +kernel) (by rfl) (by rfl) ⟨Nat.zero_le _, Nat.zero_le _⟩
theorem bk_X11_lasts_19_26 : rr_chk mX11_lasts [(.aload_n 0, 0, 0, 0), (.aload_n 0, 0, 0, 0), (.getfield 41, 0, 11, 12), (.iload_n 1, 0, 1, 0), (.iload_n 2, 0, 2, 0)] 19 26 = true := by decide +kernel
theorem bk_X11_lasts_32_34 : rr_chk mX11_lasts [(.ldc 190, (-1000000003), 0, 0)] 32 34 = true := by decide +kernel
set_option maxRecDepth 100000 in
set_option maxHeartbeats 4000000 in
theorem m_lastsN (len : Nat) (fa : Int32) (hd : Bool) (dd : Nat) (sd : Int32) (sg es a : Nat) (wr : Int32) (M : Nat → Nat → Int32) (tc wd cc kc : Nat) (G : Nat → Nat → Int32) (hG : m_G M G tc wd cc kc) (q : p_Q) (hq : M 9 = en q) (k c : Nat) (htc : tc ≤ 12) (hcc : cc ≤ 9) (hkc : kc ≤ 6) (hu : q.1 ≤ 9100) (h0c : 0 < cc → 0 < tc) (h0k : 0 < kc → 0 < tc) (hI : m_I G cc kc q) (hk : k < kc) (hc : c < cc) (hm : m_may q G tc k c = false) : rr_C mX11_lasts 6 [.ref 0, .int (nI k), .int (nI c)] (W_M (mv len fa hd dd sd sg es a wr) M) 0 0 (some (-1000000003)) (W_M (mv len fa hd dd sd sg es a wr) M) := by
  refine rr_C.of (n := 2) fX11_lasts.1 rfl rfl (fun Z hC => ?_)
  show rr_J Z 5 0 0 (rr_MQ Z 0 0 (some (-1000000003)) (W_M (mv len fa hd dd sd sg es a wr) M)) 0 [(0, .ref 0), (1, .int (nI k)), (2, .int (nI c))] [] (W_M (mv len fa hd dd sd sg es a wr) M)
  refine rr_go hC bk_X11_lasts_0_2 (l' := [(0, .ref 0), (1, .int (nI k)), (2, .int (nI c))]) (st' := [.int (nI k), .ref 0]) (w' := (W_M (mv len fa hd dd sd sg es a wr) M)) rfl ?_
  refine rr_callVI hC (by decide +kernel) kl_11_174 fX11_isClause (m_isClause (mv len fa hd dd sd sg es a wr) M tc wd cc kc G hG (nI k) (by omega) (by omega) (by omega)) rfl rfl rfl rfl rfl (rest := []) rfl rfl ⟨Nat.zero_le _, Nat.zero_le _⟩ (Eq.refl 22) ?_
  show rr_J Z 5 0 0 _ 5 [(0, .ref 0), (1, .int (nI k)), (2, .int (nI c))] [.int (rr_b (p_in (nI k) (nI kc)))] (W_M (mv len fa hd dd sd sg es a wr) M)
  refine rr_eqb hC (off := 11) (tgt := 16) (by decide +kernel) (fun h5 => by  exact absurd h5 (by rw [p_in_n (by omega) (by omega)]; simp; omega)) (fun h5 => ?_)
  refine rr_go hC bk_X11_lasts_8_10 (l' := [(0, .ref 0), (1, .int (nI k)), (2, .int (nI c))]) (st' := [.int (nI c), .ref 0]) (w' := (W_M (mv len fa hd dd sd sg es a wr) M)) rfl ?_
  refine rr_callVI hC (by decide +kernel) kl_11_179 fX11_isCell (m_isCell (mv len fa hd dd sd sg es a wr) M tc wd cc kc G hG (nI c) (by omega) (by omega) (by omega)) rfl rfl rfl rfl rfl (rest := []) rfl rfl ⟨Nat.zero_le _, Nat.zero_le _⟩ (Eq.refl 22) ?_
  show rr_J Z 5 0 0 _ 13 [(0, .ref 0), (1, .int (nI k)), (2, .int (nI c))] [.int (rr_b (p_in (nI c) (nI cc)))] (W_M (mv len fa hd dd sd sg es a wr) M)
  refine rr_neb hC (off := 6) (tgt := 19) (by decide +kernel) (fun h13 => ?_) (fun h13 => by  exact absurd h13 (by rw [p_in_n (by omega) (by omega)]; simp; omega))
  refine rr_go hC bk_X11_lasts_19_26 (l' := [(0, .ref 0), (1, .int (nI k)), (2, .int (nI c))]) (st' := [.int (nI c), .int (nI k), .ref 10, .ref 0]) (w' := (W_M (mv len fa hd dd sd sg es a wr) M)) rfl ?_
  refine rr_callVI hC (by decide +kernel) kl_11_186 fX11_mayBe (m_mayBe_now (mv len fa hd dd sd sg es a wr) M tc wd cc kc G hG q hq k c (by omega) (by omega) (by omega) (h0c (by omega)) (by omega) (by omega) (by first | omega | (simp only [p_it_h, p_wr_h, p_sm_h, p_dd_h, p_d1_h, p_df_h]; omega))) rfl rfl rfl rfl rfl (rest := []) rfl rfl ⟨Nat.zero_le _, Nat.zero_le _⟩ (Eq.refl 22) ?_
  show rr_J Z 5 0 0 _ 29 [(0, .ref 0), (1, .int (nI k)), (2, .int (nI c))] [.int (rr_b (m_may q G tc k c))] (W_M (mv len fa hd dd sd sg es a wr) M)
  refine rr_neb hC (off := 6) (tgt := 35) (by decide +kernel) (fun h29 => by  rw [hm] at h29; cases h29) (fun h29 => ?_)
  refine rr_go hC bk_X11_lasts_32_34 (l' := [(0, .ref 0), (1, .int (nI k)), (2, .int (nI c))]) (st' := [.int (-1000000003)]) (w' := (W_M (mv len fa hd dd sd sg es a wr) M)) rfl ?_
  exact rr_reti hC (by decide +kernel) (by rfl) (by rfl) ⟨Nat.zero_le _, Nat.zero_le _⟩
theorem bk_X11_lasts_35_36 : rr_chk mX11_lasts [(.aload_n 0, 0, 0, 0)] 35 36 = true := by decide +kernel
theorem bk_X11_lasts_39_45 : rr_chk mX11_lasts [(.aload_n 0, 0, 0, 0), (.getfield 44, 0, 11, 13), (.iload_n 1, 0, 1, 0), (.iload_n 2, 0, 2, 0)] 39 45 = true := by decide +kernel
theorem bk_X11_lasts_48_53 : rr_chk mX11_lasts [(.iconst 0, 0, 0, 0), (.istore_n 3, 0, 3, 0), (.iconst 0, 0, 0, 0), (.istore 4, 0, 4, 0)] 48 53 = true := by decide +kernel
theorem bk_X11_lasts_53_57 : rr_chk mX11_lasts [(.iload 4, 0, 4, 0), (.bipush 100, 100, 0, 0)] 53 57 = true := by decide +kernel
theorem bk_X11_lasts_89_90 : rr_chk mX11_lasts [(.iload_n 3, 0, 3, 0)] 89 90 = true := by decide +kernel
theorem bk_X11_lasts_60_65 : rr_chk mX11_lasts [(.aload_n 0, 0, 0, 0), (.aload_n 0, 0, 0, 0), (.getfield 44, 0, 11, 13)] 60 65 = true := by decide +kernel
theorem bk_X11_lasts_68_74 : rr_chk mX11_lasts [(.iload_n 3, 0, 3, 0), (.aload_n 0, 0, 0, 0), (.aload_n 0, 0, 0, 0), (.getfield 44, 0, 11, 13)] 68 74 = true := by decide +kernel
theorem bk_X11_lasts_77_53 : rr_chk mX11_lasts [(.iload_n 1, 0, 1, 0), (.ishr, 0, 0, 0), (.iconst 1, 1, 0, 0), (.iand, 0, 0, 0), (.iadd, 0, 0, 0), (.istore_n 3, 0, 3, 0), (.iinc 4 1, 1, 4, 0), (.goto (-33), 0, 0, 0)] 77 53 = true := by decide +kernel
set_option maxRecDepth 100000 in
set_option maxHeartbeats 4000000 in
theorem m_lasts (len : Nat) (fa : Int32) (hd : Bool) (dd : Nat) (sd : Int32) (sg es a : Nat) (wr : Int32) (M : Nat → Nat → Int32) (tc wd cc kc : Nat) (G : Nat → Nat → Int32) (hG : m_G M G tc wd cc kc) (q : p_Q) (hq : M 9 = en q) (t : p_Q) (ht : M 10 = en t) (k c : Nat) (htc : tc ≤ 12) (hcc : cc ≤ 9) (hkc : kc ≤ 6) (hu : q.1 ≤ 9100) (h0c : 0 < cc → 0 < tc) (h0k : 0 < kc → 0 < tc) (hI : m_I G cc kc q) (hk : k < kc) (hc : c < cc) (hm : m_may q G tc k c = true) : rr_CP mX11_lasts 6 [.ref 0, .int (nI k), .int (nI c)] (W_M (mv len fa hd dd sd sg es a wr) M) 0 0 (fun r w' => r = some (nI (p_cn (fun i => !decide (p_bit (p_fs (p_it G tc wd kc (p_wr q k c) (i + 1)).2.2.2.2 G kc) (nI k) = 0)) 100)) ∧ ∃ t : p_Q, w' = (W_M (mv len fa hd dd sd sg es a wr) (va_up M 10 (en t)))) := by
  refine rr_CP.of (n := 2) fX11_lasts.1 rfl rfl (fun Z hC => ?_)
  show rr_J Z 5 0 0 (rr_MP Z 0 0 (fun r w' => r = some (nI (p_cn (fun i => !decide (p_bit (p_fs (p_it G tc wd kc (p_wr q k c) (i + 1)).2.2.2.2 G kc) (nI k) = 0)) 100)) ∧ ∃ t : p_Q, w' = (W_M (mv len fa hd dd sd sg es a wr) (va_up M 10 (en t))))) 0 [(0, .ref 0), (1, .int (nI k)), (2, .int (nI c))] [] (W_M (mv len fa hd dd sd sg es a wr) M)
  refine rr_go hC bk_X11_lasts_0_2 (l' := [(0, .ref 0), (1, .int (nI k)), (2, .int (nI c))]) (st' := [.int (nI k), .ref 0]) (w' := (W_M (mv len fa hd dd sd sg es a wr) M)) rfl ?_
  refine rr_callVI hC (by decide +kernel) kl_11_174 fX11_isClause (m_isClause (mv len fa hd dd sd sg es a wr) M tc wd cc kc G hG (nI k) (by omega) (by omega) (by omega)) rfl rfl rfl rfl rfl (rest := []) rfl rfl ⟨Nat.zero_le _, Nat.zero_le _⟩ (Eq.refl 22) ?_
  show rr_J Z 5 0 0 _ 5 [(0, .ref 0), (1, .int (nI k)), (2, .int (nI c))] [.int (rr_b (p_in (nI k) (nI kc)))] (W_M (mv len fa hd dd sd sg es a wr) M)
  refine rr_eqb hC (off := 11) (tgt := 16) (by decide +kernel) (fun h5 => by  exact absurd h5 (by rw [p_in_n (by omega) (by omega)]; simp; omega)) (fun h5 => ?_)
  refine rr_go hC bk_X11_lasts_8_10 (l' := [(0, .ref 0), (1, .int (nI k)), (2, .int (nI c))]) (st' := [.int (nI c), .ref 0]) (w' := (W_M (mv len fa hd dd sd sg es a wr) M)) rfl ?_
  refine rr_callVI hC (by decide +kernel) kl_11_179 fX11_isCell (m_isCell (mv len fa hd dd sd sg es a wr) M tc wd cc kc G hG (nI c) (by omega) (by omega) (by omega)) rfl rfl rfl rfl rfl (rest := []) rfl rfl ⟨Nat.zero_le _, Nat.zero_le _⟩ (Eq.refl 22) ?_
  show rr_J Z 5 0 0 _ 13 [(0, .ref 0), (1, .int (nI k)), (2, .int (nI c))] [.int (rr_b (p_in (nI c) (nI cc)))] (W_M (mv len fa hd dd sd sg es a wr) M)
  refine rr_neb hC (off := 6) (tgt := 19) (by decide +kernel) (fun h13 => ?_) (fun h13 => by  exact absurd h13 (by rw [p_in_n (by omega) (by omega)]; simp; omega))
  refine rr_go hC bk_X11_lasts_19_26 (l' := [(0, .ref 0), (1, .int (nI k)), (2, .int (nI c))]) (st' := [.int (nI c), .int (nI k), .ref 10, .ref 0]) (w' := (W_M (mv len fa hd dd sd sg es a wr) M)) rfl ?_
  refine rr_callVI hC (by decide +kernel) kl_11_186 fX11_mayBe (m_mayBe_now (mv len fa hd dd sd sg es a wr) M tc wd cc kc G hG q hq k c (by omega) (by omega) (by omega) (h0c (by omega)) (by omega) (by omega) (by first | omega | (simp only [p_it_h, p_wr_h, p_sm_h, p_dd_h, p_d1_h, p_df_h]; omega))) rfl rfl rfl rfl rfl (rest := []) rfl rfl ⟨Nat.zero_le _, Nat.zero_le _⟩ (Eq.refl 22) ?_
  show rr_J Z 5 0 0 _ 29 [(0, .ref 0), (1, .int (nI k)), (2, .int (nI c))] [.int (rr_b (m_may q G tc k c))] (W_M (mv len fa hd dd sd sg es a wr) M)
  refine rr_neb hC (off := 6) (tgt := 35) (by decide +kernel) (fun h29 => ?_) (fun h29 => by  rw [hm] at h29; cases h29)
  refine rr_go hC bk_X11_lasts_35_36 (l' := [(0, .ref 0), (1, .int (nI k)), (2, .int (nI c))]) (st' := [.ref 0]) (w' := (W_M (mv len fa hd dd sd sg es a wr) M)) rfl ?_
  refine rr_callVI hC (by decide +kernel) kl_11_228 fX11_tries (m_triesQ len fa hd dd sd sg es a wr M q t hq ht) rfl rfl rfl rfl rfl (rest := []) rfl rfl ⟨Nat.zero_le _, Nat.zero_le _⟩ (Eq.refl 22) ?_
  show rr_J Z 5 0 0 _ 39 [(0, .ref 0), (1, .int (nI k)), (2, .int (nI c))] [] (W_M (mv len fa hd dd sd sg es a wr) (va_up M 10 (en q)))
  refine rr_go hC bk_X11_lasts_39_45 (l' := [(0, .ref 0), (1, .int (nI k)), (2, .int (nI c))]) (st' := [.int (nI c), .int (nI k), .ref 11]) (w' := (W_M (mv len fa hd dd sd sg es a wr) (va_up M 10 (en q)))) rfl ?_
  refine rr_callS hC (by decide +kernel) kl_11_194 fX11_writes (m_writes (fun _ => en q) q rfl k c (by omega)) rfl rfl [11] rfl rfl (Eq.refl 1) rfl (rest := []) rfl rfl ⟨Nat.zero_le _, Nat.zero_le _⟩ (w2 := (W_M (mv len fa hd dd sd sg es a wr) (va_up M 10 (en (p_wr q k c))))) rfl ?_
  show rr_J Z 5 0 0 _ 48 [(0, .ref 0), (1, .int (nI k)), (2, .int (nI c))] [] (W_M (mv len fa hd dd sd sg es a wr) (va_up M 10 (en (p_wr q k c))))
  refine rr_go hC bk_X11_lasts_48_53 (l' := [(0, .ref 0), (1, .int (nI k)), (2, .int (nI c)), (3, .int 0), (4, .int 0)]) (st' := []) (w' := (W_M (mv len fa hd dd sd sg es a wr) (va_up M 10 (en (p_wr q k c))))) rfl ?_
  have lp53 : ∀ (j i : Nat), i + j = 100 → 0 ≤ i → rr_J Z 5 0 0 (rr_MP Z 0 0 (fun r w' => r = some (nI (p_cn (fun i => !decide (p_bit (p_fs (p_it G tc wd kc (p_wr q k c) (i + 1)).2.2.2.2 G kc) (nI k) = 0)) 100)) ∧ ∃ t : p_Q, w' = (W_M (mv len fa hd dd sd sg es a wr) (va_up M 10 (en t))))) 53 [(0, .ref 0), (1, .int (nI k)), (2, .int (nI c)), (3, .int (nI (p_cn (fun i => !decide (p_bit (p_fs (p_it G tc wd kc (p_wr q k c) (i + 1)).2.2.2.2 G kc) (nI k) = 0)) i))), (4, .int (nI i))] [] (W_M (mv len fa hd dd sd sg es a wr) (va_up M 10 (en (p_it G tc wd kc (p_wr q k c) i)))) := by
    intro j
    induction j with
    | zero =>
      intro i hk53 hlo53
      refine rr_go hC bk_X11_lasts_53_57 (l' := [(0, .ref 0), (1, .int (nI k)), (2, .int (nI c)), (3, .int (nI (p_cn (fun i => !decide (p_bit (p_fs (p_it G tc wd kc (p_wr q k c) (i + 1)).2.2.2.2 G kc) (nI k) = 0)) i))), (4, .int (nI i))]) (st' := [.int 100, .int (nI i)]) (w' := (W_M (mv len fa hd dd sd sg es a wr) (va_up M 10 (en (p_it G tc wd kc (p_wr q k c) i))))) rfl ?_
      refine rr_icmp_ge hC (off := 32) (tgt := 89) (by decide +kernel) (fun h57 => ?_) (fun h57 => by rw [rr_ln_le (a := 100) (by omega) (by omega)] at h57; omega)
      rw [rr_ln_le (a := 100) (by omega) (by omega)] at h57
      refine rr_go hC bk_X11_lasts_89_90 (l' := [(0, .ref 0), (1, .int (nI k)), (2, .int (nI c)), (3, .int (nI (p_cn (fun i => !decide (p_bit (p_fs (p_it G tc wd kc (p_wr q k c) (i + 1)).2.2.2.2 G kc) (nI k) = 0)) i))), (4, .int (nI i))]) (st' := [.int (nI (p_cn (fun i => !decide (p_bit (p_fs (p_it G tc wd kc (p_wr q k c) (i + 1)).2.2.2.2 G kc) (nI k) = 0)) i))]) (w' := (W_M (mv len fa hd dd sd sg es a wr) (va_up M 10 (en (p_it G tc wd kc (p_wr q k c) i))))) rfl ?_
      exact rr_retiP hC (by decide +kernel) (by refine ⟨by rw [show i = 100 by omega], _, rfl⟩) ⟨Nat.zero_le _, Nat.zero_le _⟩
    | succ j ih =>
      intro i hk53 hlo53
      refine rr_go hC bk_X11_lasts_53_57 (l' := [(0, .ref 0), (1, .int (nI k)), (2, .int (nI c)), (3, .int (nI (p_cn (fun i => !decide (p_bit (p_fs (p_it G tc wd kc (p_wr q k c) (i + 1)).2.2.2.2 G kc) (nI k) = 0)) i))), (4, .int (nI i))]) (st' := [.int 100, .int (nI i)]) (w' := (W_M (mv len fa hd dd sd sg es a wr) (va_up M 10 (en (p_it G tc wd kc (p_wr q k c) i))))) rfl ?_
      refine rr_icmp_ge hC (off := 32) (tgt := 89) (by decide +kernel) (fun h57 => by rw [rr_ln_le (a := 100) (by omega) (by omega)] at h57; omega) (fun h57 => ?_)
      rw [rr_ln_le (a := 100) (by omega) (by omega)] at h57
      refine rr_go hC bk_X11_lasts_60_65 (l' := [(0, .ref 0), (1, .int (nI k)), (2, .int (nI c)), (3, .int (nI (p_cn (fun i => !decide (p_bit (p_fs (p_it G tc wd kc (p_wr q k c) (i + 1)).2.2.2.2 G kc) (nI k) = 0)) i))), (4, .int (nI i))]) (st' := [.ref 11, .ref 0]) (w' := (W_M (mv len fa hd dd sd sg es a wr) (va_up M 10 (en (p_it G tc wd kc (p_wr q k c) i))))) rfl ?_
      refine rr_callVI hC (by decide +kernel) kl_11_211 fX11_passes (m_passes_tried (mv len fa hd dd sd sg es a wr) (va_up M 10 (en (p_it G tc wd kc (p_wr q k c) i))) tc wd cc kc G (by exact hG) (p_it G tc wd kc (p_wr q k c) i) rfl (by omega) (by omega) (by omega) h0c (by first | omega | (simp only [p_it_h, p_wr_h, p_sm_h, p_dd_h, p_d1_h, p_df_h]; omega)) ((hI.wr (by omega) hkc (by omega) hcc).it tc wd hkc i).1) rfl rfl rfl rfl rfl (rest := []) rfl rfl ⟨Nat.zero_le _, Nat.zero_le _⟩ (Eq.refl 22) ?_
      show rr_J Z 5 0 0 _ 68 [(0, .ref 0), (1, .int (nI k)), (2, .int (nI c)), (3, .int (nI (p_cn (fun i => !decide (p_bit (p_fs (p_it G tc wd kc (p_wr q k c) (i + 1)).2.2.2.2 G kc) (nI k) = 0)) i))), (4, .int (nI i))] [] (W_M (mv len fa hd dd sd sg es a wr) (va_up M 10 (en (p_pass G tc wd kc (p_it G tc wd kc (p_wr q k c) i)))))
      refine rr_cast (l' := [(0, .ref 0), (1, .int (nI k)), (2, .int (nI c)), (3, .int (nI (p_cn (fun i => !decide (p_bit (p_fs (p_it G tc wd kc (p_wr q k c) (i + 1)).2.2.2.2 G kc) (nI k) = 0)) i))), (4, .int (nI i))]) rfl (st' := []) rfl (w' := (W_M (mv len fa hd dd sd sg es a wr) (va_up M 10 (en (p_it G tc wd kc (p_wr q k c) (i + 1)))))) (by rw [p_it_1]) ?_
      refine rr_go hC bk_X11_lasts_68_74 (l' := [(0, .ref 0), (1, .int (nI k)), (2, .int (nI c)), (3, .int (nI (p_cn (fun i => !decide (p_bit (p_fs (p_it G tc wd kc (p_wr q k c) (i + 1)).2.2.2.2 G kc) (nI k) = 0)) i))), (4, .int (nI i))]) (st' := [.ref 11, .ref 0, .int (nI (p_cn (fun i => !decide (p_bit (p_fs (p_it G tc wd kc (p_wr q k c) (i + 1)).2.2.2.2 G kc) (nI k) = 0)) i))]) (w' := (W_M (mv len fa hd dd sd sg es a wr) (va_up M 10 (en (p_it G tc wd kc (p_wr q k c) (i + 1)))))) rfl ?_
      refine rr_callVI hC (by decide +kernel) kl_11_169 fX11_force (m_force_tried (mv len fa hd dd sd sg es a wr) (va_up M 10 (en (p_it G tc wd kc (p_wr q k c) (i + 1)))) tc wd cc kc G (by exact hG) (p_it G tc wd kc (p_wr q k c) (i + 1)) rfl (by omega) (by omega) (by omega) ((hI.wr (by omega) hkc (by omega) hcc).it tc wd hkc (i + 1)).ok) rfl rfl rfl rfl rfl (rest := [.int (nI (p_cn (fun i => !decide (p_bit (p_fs (p_it G tc wd kc (p_wr q k c) (i + 1)).2.2.2.2 G kc) (nI k) = 0)) i))]) rfl rfl ⟨Nat.zero_le _, Nat.zero_le _⟩ (Eq.refl 22) ?_
      show rr_J Z 5 0 0 _ 77 [(0, .ref 0), (1, .int (nI k)), (2, .int (nI c)), (3, .int (nI (p_cn (fun i => !decide (p_bit (p_fs (p_it G tc wd kc (p_wr q k c) (i + 1)).2.2.2.2 G kc) (nI k) = 0)) i))), (4, .int (nI i))] [.int (p_fs (p_it G tc wd kc (p_wr q k c) (i + 1)).2.2.2.2 G kc), .int (nI (p_cn (fun i => !decide (p_bit (p_fs (p_it G tc wd kc (p_wr q k c) (i + 1)).2.2.2.2 G kc) (nI k) = 0)) i))] (W_M (mv len fa hd dd sd sg es a wr) (va_up M 10 (en (p_it G tc wd kc (p_wr q k c) (i + 1)))))
      refine rr_go hC bk_X11_lasts_77_53 (l' := [(0, .ref 0), (1, .int (nI k)), (2, .int (nI c)), (3, .int ((nI (p_cn (fun i => !decide (p_bit (p_fs (p_it G tc wd kc (p_wr q k c) (i + 1)).2.2.2.2 G kc) (nI k) = 0)) i)) + (((p_fs (p_it G tc wd kc (p_wr q k c) (i + 1)).2.2.2.2 G kc) >>> (nI k &&& 31)) &&& 1))), (4, .int ((nI i) + 1))]) (st' := []) (w' := (W_M (mv len fa hd dd sd sg es a wr) (va_up M 10 (en (p_it G tc wd kc (p_wr q k c) (i + 1)))))) rfl ?_
      rw [show ((nI i) + 1 : Int32) = nI (i + 1) from nI_add i 1]
      exact rr_cast (l' := [(0, .ref 0), (1, .int (nI k)), (2, .int (nI c)), (3, .int (nI (p_cn (fun i => !decide (p_bit (p_fs (p_it G tc wd kc (p_wr q k c) (i + 1)).2.2.2.2 G kc) (nI k) = 0)) (i + 1)))), (4, .int (nI (i + 1)))]) (by rw [m_cn_s] <;> rfl) rfl (w' := (W_M (mv len fa hd dd sd sg es a wr) (va_up M 10 (en (p_it G tc wd kc (p_wr q k c) (i + 1)))))) (by rfl) (ih (i + 1) (by omega) (by omega))
  exact rr_cast (l' := [(0, .ref 0), (1, .int (nI k)), (2, .int (nI c)), (3, .int (nI (p_cn (fun i => !decide (p_bit (p_fs (p_it G tc wd kc (p_wr q k c) (i + 1)).2.2.2.2 G kc) (nI k) = 0)) 0))), (4, .int (nI 0))]) (by first | rfl | (rw [m_cn_s] <;> rfl)) rfl (w' := (W_M (mv len fa hd dd sd sg es a wr) (va_up M 10 (en (p_it G tc wd kc (p_wr q k c) 0))))) (by rw [p_it_0]) (lp53 (100 - 0) 0 (by omega) (Nat.le_refl _))
theorem bk_X11_washed_0_2 : rr_chk mX11_washed [(.aload_n 0, 0, 0, 0), (.iload_n 1, 0, 1, 0)] 0 2 = true := by decide +kernel
theorem bk_X11_washed_8_10 : rr_chk mX11_washed [(.ldc 178, (-1000000001), 0, 0)] 8 10 = true := by decide +kernel
set_option maxRecDepth 100000 in
set_option maxHeartbeats 4000000 in
theorem m_washedU (len : Nat) (fa : Int32) (hd : Bool) (dd : Nat) (sd : Int32) (sg es a : Nat) (wr : Int32) (M : Nat → Nat → Int32) (tc wd cc kc : Nat) (G : Nat → Nat → Int32) (hG : m_G M G tc wd cc kc) (k : Int32) (htc : tc ≤ 12) (hcc : cc ≤ 9) (hkc : kc ≤ 6) (hn : p_in k (nI kc) = false) : rr_C mX11_washed 6 [.ref 0, .int k] (W_M (mv len fa hd dd sd sg es a wr) M) 0 0 (some (-1000000001)) (W_M (mv len fa hd dd sd sg es a wr) M) := by
  refine rr_C.of (n := 1) fX11_washed.1 rfl rfl (fun Z hC => ?_)
  show rr_J Z 3 0 0 (rr_MQ Z 0 0 (some (-1000000001)) (W_M (mv len fa hd dd sd sg es a wr) M)) 0 [(0, .ref 0), (1, .int k)] [] (W_M (mv len fa hd dd sd sg es a wr) M)
  refine rr_go hC bk_X11_washed_0_2 (l' := [(0, .ref 0), (1, .int k)]) (st' := [.int k, .ref 0]) (w' := (W_M (mv len fa hd dd sd sg es a wr) M)) rfl ?_
  refine rr_callVI hC (by decide +kernel) kl_11_174 fX11_isClause (m_isClause (mv len fa hd dd sd sg es a wr) M tc wd cc kc G hG k (by omega) (by omega) (by omega)) rfl rfl rfl rfl rfl (rest := []) rfl rfl ⟨Nat.zero_le _, Nat.zero_le _⟩ (Eq.refl 22) ?_
  show rr_J Z 3 0 0 _ 5 [(0, .ref 0), (1, .int k)] [.int (rr_b (p_in k (nI kc)))] (W_M (mv len fa hd dd sd sg es a wr) M)
  refine rr_neb hC (off := 6) (tgt := 11) (by decide +kernel) (fun h5 => by  rw [hn] at h5; cases h5) (fun h5 => ?_)
  refine rr_go hC bk_X11_washed_8_10 (l' := [(0, .ref 0), (1, .int k)]) (st' := [.int (-1000000001)]) (w' := (W_M (mv len fa hd dd sd sg es a wr) M)) rfl ?_
  exact rr_reti hC (by decide +kernel) (by rfl) (by rfl) ⟨Nat.zero_le _, Nat.zero_le _⟩
theorem bk_X11_washed_11_12 : rr_chk mX11_washed [(.aload_n 0, 0, 0, 0)] 11 12 = true := by decide +kernel
theorem bk_X11_washed_15_17 : rr_chk mX11_washed [(.iconst 0, 0, 0, 0), (.istore_n 2, 0, 2, 0)] 15 17 = true := by decide +kernel
theorem bk_X11_washed_17_20 : rr_chk mX11_washed [(.iload_n 2, 0, 2, 0), (.bipush 101, 101, 0, 0)] 17 20 = true := by decide +kernel
theorem bk_X11_washed_52_53 : rr_chk mX11_washed [(.iconst (-1), (-1), 0, 0)] 52 53 = true := by decide +kernel
theorem bk_X11_washed_23_32 : rr_chk mX11_washed [(.aload_n 0, 0, 0, 0), (.getfield 44, 0, 11, 13), (.iconst 4, 4, 0, 0), (.iconst 3, 3, 0, 0), (.iload_n 1, 0, 1, 0), (.imul, 0, 0, 0), (.iadd, 0, 0, 0)] 23 32 = true := by decide +kernel
theorem bk_X11_washed_38_43 : rr_chk mX11_washed [(.aload_n 0, 0, 0, 0), (.aload_n 0, 0, 0, 0), (.getfield 44, 0, 11, 13)] 38 43 = true := by decide +kernel
theorem bk_X11_washed_46_17 : rr_chk mX11_washed [(.iinc 2 1, 1, 2, 0), (.goto (-32), 0, 0, 0)] 46 17 = true := by decide +kernel
theorem bk_X11_washed_36_37 : rr_chk mX11_washed [(.iload_n 2, 0, 2, 0)] 36 37 = true := by decide +kernel
set_option maxRecDepth 100000 in
set_option maxHeartbeats 4000000 in
theorem m_washed (len : Nat) (fa : Int32) (hd : Bool) (dd : Nat) (sd : Int32) (sg es a : Nat) (wr : Int32) (M : Nat → Nat → Int32) (tc wd cc kc : Nat) (G : Nat → Nat → Int32) (hG : m_G M G tc wd cc kc) (q : p_Q) (hq : M 9 = en q) (t : p_Q) (ht : M 10 = en t) (k : Nat) (htc : tc ≤ 12) (hcc : cc ≤ 9) (hkc : kc ≤ 6) (hu : q.1 ≤ 9100) (h0c : 0 < cc → 0 < tc) (h0k : 0 < kc → 0 < tc) (hI : m_I G cc kc q) (hk : k < kc) : rr_CP mX11_washed 6 [.ref 0, .int (nI k)] (W_M (mv len fa hd dd sd sg es a wr) M) 0 0 (fun r w' => r = some (p_fi (fun i => decide ((p_it G tc wd kc q i).2.2.2.2 0 k = -1)) 0 101) ∧ ∃ t : p_Q, w' = (W_M (mv len fa hd dd sd sg es a wr) (va_up M 10 (en t)))) := by
  refine rr_CP.of (n := 1) fX11_washed.1 rfl rfl (fun Z hC => ?_)
  show rr_J Z 3 0 0 (rr_MP Z 0 0 (fun r w' => r = some (p_fi (fun i => decide ((p_it G tc wd kc q i).2.2.2.2 0 k = -1)) 0 101) ∧ ∃ t : p_Q, w' = (W_M (mv len fa hd dd sd sg es a wr) (va_up M 10 (en t))))) 0 [(0, .ref 0), (1, .int (nI k))] [] (W_M (mv len fa hd dd sd sg es a wr) M)
  refine rr_go hC bk_X11_washed_0_2 (l' := [(0, .ref 0), (1, .int (nI k))]) (st' := [.int (nI k), .ref 0]) (w' := (W_M (mv len fa hd dd sd sg es a wr) M)) rfl ?_
  refine rr_callVI hC (by decide +kernel) kl_11_174 fX11_isClause (m_isClause (mv len fa hd dd sd sg es a wr) M tc wd cc kc G hG (nI k) (by omega) (by omega) (by omega)) rfl rfl rfl rfl rfl (rest := []) rfl rfl ⟨Nat.zero_le _, Nat.zero_le _⟩ (Eq.refl 22) ?_
  show rr_J Z 3 0 0 _ 5 [(0, .ref 0), (1, .int (nI k))] [.int (rr_b (p_in (nI k) (nI kc)))] (W_M (mv len fa hd dd sd sg es a wr) M)
  refine rr_neb hC (off := 6) (tgt := 11) (by decide +kernel) (fun h5 => ?_) (fun h5 => by  exact absurd h5 (by rw [p_in_n (by omega) (by omega)]; simp; omega))
  refine rr_go hC bk_X11_washed_11_12 (l' := [(0, .ref 0), (1, .int (nI k))]) (st' := [.ref 0]) (w' := (W_M (mv len fa hd dd sd sg es a wr) M)) rfl ?_
  refine rr_callVI hC (by decide +kernel) kl_11_228 fX11_tries (m_triesQ len fa hd dd sd sg es a wr M q t hq ht) rfl rfl rfl rfl rfl (rest := []) rfl rfl ⟨Nat.zero_le _, Nat.zero_le _⟩ (Eq.refl 22) ?_
  show rr_J Z 3 0 0 _ 15 [(0, .ref 0), (1, .int (nI k))] [] (W_M (mv len fa hd dd sd sg es a wr) (va_up M 10 (en q)))
  refine rr_go hC bk_X11_washed_15_17 (l' := [(0, .ref 0), (1, .int (nI k)), (2, .int 0)]) (st' := []) (w' := (W_M (mv len fa hd dd sd sg es a wr) (va_up M 10 (en q)))) rfl ?_
  have lp17 : ∀ (j i : Nat), i + j = 101 → 0 ≤ i → p_fi (fun i => decide ((p_it G tc wd kc q i).2.2.2.2 0 k = -1)) 0 101 = p_fi (fun i => decide ((p_it G tc wd kc q i).2.2.2.2 0 k = -1)) i (101 - i) → rr_J Z 3 0 0 (rr_MP Z 0 0 (fun r w' => r = some (p_fi (fun i => decide ((p_it G tc wd kc q i).2.2.2.2 0 k = -1)) 0 101) ∧ ∃ t : p_Q, w' = (W_M (mv len fa hd dd sd sg es a wr) (va_up M 10 (en t))))) 17 [(0, .ref 0), (1, .int (nI k)), (2, .int (nI i))] [] (W_M (mv len fa hd dd sd sg es a wr) (va_up M 10 (en (p_it G tc wd kc q i)))) := by
    intro j
    induction j with
    | zero =>
      intro i hk17 hlo17 hX
      refine rr_go hC bk_X11_washed_17_20 (l' := [(0, .ref 0), (1, .int (nI k)), (2, .int (nI i))]) (st' := [.int 101, .int (nI i)]) (w' := (W_M (mv len fa hd dd sd sg es a wr) (va_up M 10 (en (p_it G tc wd kc q i))))) rfl ?_
      refine rr_icmp_ge hC (off := 32) (tgt := 52) (by decide +kernel) (fun h20 => ?_) (fun h20 => by rw [rr_ln_le (a := 101) (by omega) (by omega)] at h20; omega)
      rw [rr_ln_le (a := 101) (by omega) (by omega)] at h20
      refine rr_go hC bk_X11_washed_52_53 (l' := [(0, .ref 0), (1, .int (nI k)), (2, .int (nI i))]) (st' := [.int (-1)]) (w' := (W_M (mv len fa hd dd sd sg es a wr) (va_up M 10 (en (p_it G tc wd kc q i))))) rfl ?_
      exact rr_retiP hC (by decide +kernel) (by refine ⟨?_, _, rfl⟩; rw [hX, show 101 - i = 0 by omega]; rfl) ⟨Nat.zero_le _, Nat.zero_le _⟩
    | succ j ih =>
      intro i hk17 hlo17 hX
      refine rr_go hC bk_X11_washed_17_20 (l' := [(0, .ref 0), (1, .int (nI k)), (2, .int (nI i))]) (st' := [.int 101, .int (nI i)]) (w' := (W_M (mv len fa hd dd sd sg es a wr) (va_up M 10 (en (p_it G tc wd kc q i))))) rfl ?_
      refine rr_icmp_ge hC (off := 32) (tgt := 52) (by decide +kernel) (fun h20 => by rw [rr_ln_le (a := 101) (by omega) (by omega)] at h20; omega) (fun h20 => ?_)
      rw [rr_ln_le (a := 101) (by omega) (by omega)] at h20
      refine rr_go hC bk_X11_washed_23_32 (l' := [(0, .ref 0), (1, .int (nI k)), (2, .int (nI i))]) (st' := [.int (4 + (3 * (nI k))), .ref 11]) (w' := (W_M (mv len fa hd dd sd sg es a wr) (va_up M 10 (en (p_it G tc wd kc q i))))) rfl ?_
      rw [show (3 * (nI k) : Int32) = nI (3 * k) from pk_mul 3 k]
      rw [show (4 + (nI (3 * k)) : Int32) = nI (4 + (3 * k)) from nI_add 4 (3 * k)]
      refine rr_iald hC (4 + (3 * k)) (by decide +kernel) rfl rfl (by omega) rfl ?_
      show rr_J Z 3 0 0 _ 33 [(0, .ref 0), (1, .int (nI k)), (2, .int (nI i))] [.int ((en (p_it G tc wd kc q i)) (4 + (3 * k)))] (W_M (mv len fa hd dd sd sg es a wr) (va_up M 10 (en (p_it G tc wd kc q i))))
      rw [en_c _ (show k < 6 by omega)]
      refine rr_if_ne hC (off := 5) (tgt := 38) (by decide +kernel) (fun h33 => ?_) (fun h33 => ?_)
      · refine rr_go hC bk_X11_washed_38_43 (l' := [(0, .ref 0), (1, .int (nI k)), (2, .int (nI i))]) (st' := [.ref 11, .ref 0]) (w' := (W_M (mv len fa hd dd sd sg es a wr) (va_up M 10 (en (p_it G tc wd kc q i))))) rfl ?_
        refine rr_callVI hC (by decide +kernel) kl_11_211 fX11_passes (m_passes_tried (mv len fa hd dd sd sg es a wr) (va_up M 10 (en (p_it G tc wd kc q i))) tc wd cc kc G (by exact hG) (p_it G tc wd kc q i) rfl (by omega) (by omega) (by omega) h0c (by first | omega | (simp only [p_it_h, p_wr_h, p_sm_h, p_dd_h, p_d1_h, p_df_h]; omega)) (hI.it tc wd hkc i).1) rfl rfl rfl rfl rfl (rest := []) rfl rfl ⟨Nat.zero_le _, Nat.zero_le _⟩ (Eq.refl 22) ?_
        show rr_J Z 3 0 0 _ 46 [(0, .ref 0), (1, .int (nI k)), (2, .int (nI i))] [] (W_M (mv len fa hd dd sd sg es a wr) (va_up M 10 (en (p_pass G tc wd kc (p_it G tc wd kc q i)))))
        refine rr_go hC bk_X11_washed_46_17 (l' := [(0, .ref 0), (1, .int (nI k)), (2, .int ((nI i) + 1))]) (st' := []) (w' := (W_M (mv len fa hd dd sd sg es a wr) (va_up M 10 (en (p_pass G tc wd kc (p_it G tc wd kc q i)))))) rfl ?_
        rw [show ((nI i) + 1 : Int32) = nI (i + 1) from nI_add i 1]
        exact rr_cast (l' := [(0, .ref 0), (1, .int (nI k)), (2, .int (nI (i + 1)))]) (by rfl) rfl (w' := (W_M (mv len fa hd dd sd sg es a wr) (va_up M 10 (en (p_it G tc wd kc q (i + 1)))))) (by rw [p_it_1]) (ih (i + 1) (by omega) (by omega) (hX.trans (by rw [show 101 - i = (101 - (i + 1)) + 1 by omega, p_fi, if_neg (by rw [decide_eq_false (fun z => h33 (p_i0.mpr z))]; decide)])))
      · refine rr_go hC bk_X11_washed_36_37 (l' := [(0, .ref 0), (1, .int (nI k)), (2, .int (nI i))]) (st' := [.int (nI i)]) (w' := (W_M (mv len fa hd dd sd sg es a wr) (va_up M 10 (en (p_it G tc wd kc q i))))) rfl ?_
        exact rr_retiP hC (by decide +kernel) (by refine ⟨?_, _, rfl⟩; rw [hX, show 101 - i = (101 - (i + 1)) + 1 by omega, p_fi, if_pos (decide_eq_true (p_i0.mp h33))]) ⟨Nat.zero_le _, Nat.zero_le _⟩
  exact rr_cast (l' := [(0, .ref 0), (1, .int (nI k)), (2, .int (nI 0))]) (by first | rfl | (rfl)) rfl (w' := (W_M (mv len fa hd dd sd sg es a wr) (va_up M 10 (en (p_it G tc wd kc q 0))))) (by rw [p_it_0]) (lp17 (101 - 0) 0 (by omega) (Nat.le_refl _) rfl)
theorem bk_X11_crossing_0_2 : rr_chk mX11_crossing [(.aload_n 0, 0, 0, 0), (.iload_n 1, 0, 1, 0)] 0 2 = true := by decide +kernel
theorem bk_X11_crossing_8_10 : rr_chk mX11_crossing [(.ldc 178, (-1000000001), 0, 0)] 8 10 = true := by decide +kernel
set_option maxRecDepth 100000 in
set_option maxHeartbeats 4000000 in
theorem m_crossingU (len : Nat) (fa : Int32) (hd : Bool) (dd : Nat) (sd : Int32) (sg es a : Nat) (wr : Int32) (M : Nat → Nat → Int32) (tc wd cc kc : Nat) (G : Nat → Nat → Int32) (hG : m_G M G tc wd cc kc) (k : Int32) (htc : tc ≤ 12) (hcc : cc ≤ 9) (hkc : kc ≤ 6) (hn : p_in k (nI kc) = false) : rr_C mX11_crossing 6 [.ref 0, .int k] (W_M (mv len fa hd dd sd sg es a wr) M) 0 0 (some (-1000000001)) (W_M (mv len fa hd dd sd sg es a wr) M) := by
  refine rr_C.of (n := 1) fX11_crossing.1 rfl rfl (fun Z hC => ?_)
  show rr_J Z 3 0 0 (rr_MQ Z 0 0 (some (-1000000001)) (W_M (mv len fa hd dd sd sg es a wr) M)) 0 [(0, .ref 0), (1, .int k)] [] (W_M (mv len fa hd dd sd sg es a wr) M)
  refine rr_go hC bk_X11_crossing_0_2 (l' := [(0, .ref 0), (1, .int k)]) (st' := [.int k, .ref 0]) (w' := (W_M (mv len fa hd dd sd sg es a wr) M)) rfl ?_
  refine rr_callVI hC (by decide +kernel) kl_11_174 fX11_isClause (m_isClause (mv len fa hd dd sd sg es a wr) M tc wd cc kc G hG k (by omega) (by omega) (by omega)) rfl rfl rfl rfl rfl (rest := []) rfl rfl ⟨Nat.zero_le _, Nat.zero_le _⟩ (Eq.refl 22) ?_
  show rr_J Z 3 0 0 _ 5 [(0, .ref 0), (1, .int k)] [.int (rr_b (p_in k (nI kc)))] (W_M (mv len fa hd dd sd sg es a wr) M)
  refine rr_neb hC (off := 6) (tgt := 11) (by decide +kernel) (fun h5 => by  rw [hn] at h5; cases h5) (fun h5 => ?_)
  refine rr_go hC bk_X11_crossing_8_10 (l' := [(0, .ref 0), (1, .int k)]) (st' := [.int (-1000000001)]) (w' := (W_M (mv len fa hd dd sd sg es a wr) M)) rfl ?_
  exact rr_reti hC (by decide +kernel) (by rfl) (by rfl) ⟨Nat.zero_le _, Nat.zero_le _⟩
theorem bk_X11_crossing_11_12 : rr_chk mX11_crossing [(.aload_n 0, 0, 0, 0)] 11 12 = true := by decide +kernel
theorem bk_X11_crossing_15_17 : rr_chk mX11_crossing [(.iconst 0, 0, 0, 0), (.istore_n 2, 0, 2, 0)] 15 17 = true := by decide +kernel
theorem bk_X11_crossing_17_20 : rr_chk mX11_crossing [(.iload_n 2, 0, 2, 0), (.bipush 100, 100, 0, 0)] 17 20 = true := by decide +kernel
theorem bk_X11_crossing_67_68 : rr_chk mX11_crossing [(.iconst (-1), (-1), 0, 0)] 67 68 = true := by decide +kernel
theorem bk_X11_crossing_23_30 : rr_chk mX11_crossing [(.aload_n 0, 0, 0, 0), (.aload_n 0, 0, 0, 0), (.getfield 44, 0, 11, 13), (.iconst 0, 0, 0, 0), (.iaload, 0, 0, 0)] 23 30 = true := by decide +kernel
theorem bk_X11_crossing_53_58 : rr_chk mX11_crossing [(.aload_n 0, 0, 0, 0), (.aload_n 0, 0, 0, 0), (.getfield 44, 0, 11, 13)] 53 58 = true := by decide +kernel
theorem bk_X11_crossing_61_17 : rr_chk mX11_crossing [(.iinc 2 1, 1, 2, 0), (.goto (-47), 0, 0, 0)] 61 17 = true := by decide +kernel
theorem bk_X11_crossing_36_41 : rr_chk mX11_crossing [(.aload_n 0, 0, 0, 0), (.aload_n 0, 0, 0, 0), (.getfield 44, 0, 11, 13)] 36 41 = true := by decide +kernel
theorem bk_X11_crossing_44_45 : rr_chk mX11_crossing [(.iload_n 1, 0, 1, 0)] 44 45 = true := by decide +kernel
theorem bk_X11_crossing_51_52 : rr_chk mX11_crossing [(.iload_n 2, 0, 2, 0)] 51 52 = true := by decide +kernel
set_option maxRecDepth 100000 in
set_option maxHeartbeats 4000000 in
theorem m_crossing (len : Nat) (fa : Int32) (hd : Bool) (dd : Nat) (sd : Int32) (sg es a : Nat) (wr : Int32) (M : Nat → Nat → Int32) (tc wd cc kc : Nat) (G : Nat → Nat → Int32) (hG : m_G M G tc wd cc kc) (q : p_Q) (hq : M 9 = en q) (t : p_Q) (ht : M 10 = en t) (k : Nat) (htc : tc ≤ 12) (hcc : cc ≤ 9) (hkc : kc ≤ 6) (hu : q.1 ≤ 9100) (h0c : 0 < cc → 0 < tc) (h0k : 0 < kc → 0 < tc) (hI : m_I G cc kc q) (hk : k < kc) : rr_CP mX11_crossing 6 [.ref 0, .int (nI k)] (W_M (mv len fa hd dd sd sg es a wr) M) 0 0 (fun r w' => r = some (p_fi (fun i => decide (p_wets G tc (p_it G tc wd kc q i).1 cc = 0) && !decide (p_bit (p_fs (p_it G tc wd kc q i).2.2.2.2 G kc) (nI k) = 0)) 0 100) ∧ ∃ t : p_Q, w' = (W_M (mv len fa hd dd sd sg es a wr) (va_up M 10 (en t)))) := by
  refine rr_CP.of (n := 1) fX11_crossing.1 rfl rfl (fun Z hC => ?_)
  show rr_J Z 3 0 0 (rr_MP Z 0 0 (fun r w' => r = some (p_fi (fun i => decide (p_wets G tc (p_it G tc wd kc q i).1 cc = 0) && !decide (p_bit (p_fs (p_it G tc wd kc q i).2.2.2.2 G kc) (nI k) = 0)) 0 100) ∧ ∃ t : p_Q, w' = (W_M (mv len fa hd dd sd sg es a wr) (va_up M 10 (en t))))) 0 [(0, .ref 0), (1, .int (nI k))] [] (W_M (mv len fa hd dd sd sg es a wr) M)
  refine rr_go hC bk_X11_crossing_0_2 (l' := [(0, .ref 0), (1, .int (nI k))]) (st' := [.int (nI k), .ref 0]) (w' := (W_M (mv len fa hd dd sd sg es a wr) M)) rfl ?_
  refine rr_callVI hC (by decide +kernel) kl_11_174 fX11_isClause (m_isClause (mv len fa hd dd sd sg es a wr) M tc wd cc kc G hG (nI k) (by omega) (by omega) (by omega)) rfl rfl rfl rfl rfl (rest := []) rfl rfl ⟨Nat.zero_le _, Nat.zero_le _⟩ (Eq.refl 22) ?_
  show rr_J Z 3 0 0 _ 5 [(0, .ref 0), (1, .int (nI k))] [.int (rr_b (p_in (nI k) (nI kc)))] (W_M (mv len fa hd dd sd sg es a wr) M)
  refine rr_neb hC (off := 6) (tgt := 11) (by decide +kernel) (fun h5 => ?_) (fun h5 => by  exact absurd h5 (by rw [p_in_n (by omega) (by omega)]; simp; omega))
  refine rr_go hC bk_X11_crossing_11_12 (l' := [(0, .ref 0), (1, .int (nI k))]) (st' := [.ref 0]) (w' := (W_M (mv len fa hd dd sd sg es a wr) M)) rfl ?_
  refine rr_callVI hC (by decide +kernel) kl_11_228 fX11_tries (m_triesQ len fa hd dd sd sg es a wr M q t hq ht) rfl rfl rfl rfl rfl (rest := []) rfl rfl ⟨Nat.zero_le _, Nat.zero_le _⟩ (Eq.refl 22) ?_
  show rr_J Z 3 0 0 _ 15 [(0, .ref 0), (1, .int (nI k))] [] (W_M (mv len fa hd dd sd sg es a wr) (va_up M 10 (en q)))
  refine rr_go hC bk_X11_crossing_15_17 (l' := [(0, .ref 0), (1, .int (nI k)), (2, .int 0)]) (st' := []) (w' := (W_M (mv len fa hd dd sd sg es a wr) (va_up M 10 (en q)))) rfl ?_
  have lp17 : ∀ (j i : Nat), i + j = 100 → 0 ≤ i → p_fi (fun i => decide (p_wets G tc (p_it G tc wd kc q i).1 cc = 0) && !decide (p_bit (p_fs (p_it G tc wd kc q i).2.2.2.2 G kc) (nI k) = 0)) 0 100 = p_fi (fun i => decide (p_wets G tc (p_it G tc wd kc q i).1 cc = 0) && !decide (p_bit (p_fs (p_it G tc wd kc q i).2.2.2.2 G kc) (nI k) = 0)) i (100 - i) → rr_J Z 3 0 0 (rr_MP Z 0 0 (fun r w' => r = some (p_fi (fun i => decide (p_wets G tc (p_it G tc wd kc q i).1 cc = 0) && !decide (p_bit (p_fs (p_it G tc wd kc q i).2.2.2.2 G kc) (nI k) = 0)) 0 100) ∧ ∃ t : p_Q, w' = (W_M (mv len fa hd dd sd sg es a wr) (va_up M 10 (en t))))) 17 [(0, .ref 0), (1, .int (nI k)), (2, .int (nI i))] [] (W_M (mv len fa hd dd sd sg es a wr) (va_up M 10 (en (p_it G tc wd kc q i)))) := by
    intro j
    induction j with
    | zero =>
      intro i hk17 hlo17 hX
      have hq1 : (p_it G tc wd kc q i).1 = q.1 + i := p_it_h G tc wd kc q i
      have h0t : 0 < tc := h0k (by omega)
      refine rr_go hC bk_X11_crossing_17_20 (l' := [(0, .ref 0), (1, .int (nI k)), (2, .int (nI i))]) (st' := [.int 100, .int (nI i)]) (w' := (W_M (mv len fa hd dd sd sg es a wr) (va_up M 10 (en (p_it G tc wd kc q i))))) rfl ?_
      refine rr_icmp_ge hC (off := 47) (tgt := 67) (by decide +kernel) (fun h20 => ?_) (fun h20 => by rw [rr_ln_le (a := 100) (by omega) (by omega)] at h20; omega)
      rw [rr_ln_le (a := 100) (by omega) (by omega)] at h20
      refine rr_go hC bk_X11_crossing_67_68 (l' := [(0, .ref 0), (1, .int (nI k)), (2, .int (nI i))]) (st' := [.int (-1)]) (w' := (W_M (mv len fa hd dd sd sg es a wr) (va_up M 10 (en (p_it G tc wd kc q i))))) rfl ?_
      exact rr_retiP hC (by decide +kernel) (by refine ⟨?_, _, rfl⟩; rw [hX, show 100 - i = 0 by omega]; rfl) ⟨Nat.zero_le _, Nat.zero_le _⟩
    | succ j ih =>
      intro i hk17 hlo17 hX
      have hq1 : (p_it G tc wd kc q i).1 = q.1 + i := p_it_h G tc wd kc q i
      have h0t : 0 < tc := h0k (by omega)
      refine rr_go hC bk_X11_crossing_17_20 (l' := [(0, .ref 0), (1, .int (nI k)), (2, .int (nI i))]) (st' := [.int 100, .int (nI i)]) (w' := (W_M (mv len fa hd dd sd sg es a wr) (va_up M 10 (en (p_it G tc wd kc q i))))) rfl ?_
      refine rr_icmp_ge hC (off := 47) (tgt := 67) (by decide +kernel) (fun h20 => by rw [rr_ln_le (a := 100) (by omega) (by omega)] at h20; omega) (fun h20 => ?_)
      rw [rr_ln_le (a := 100) (by omega) (by omega)] at h20
      refine rr_go hC bk_X11_crossing_23_30 (l' := [(0, .ref 0), (1, .int (nI k)), (2, .int (nI i))]) (st' := [.int ((en (p_it G tc wd kc q i)) 0), .ref 0]) (w' := (W_M (mv len fa hd dd sd sg es a wr) (va_up M 10 (en (p_it G tc wd kc q i))))) rfl ?_
      rw [show ((en (p_it G tc wd kc q i)) 0 : Int32) = nI ((p_it G tc wd kc q i).1) from en_0 _]
      refine rr_callVI hC (by decide +kernel) kl_11_166 fX11_wetAt (m_wetAt (mv len fa hd dd sd sg es a wr) (va_up M 10 (en (p_it G tc wd kc q i))) tc wd cc kc G (by exact hG) ((p_it G tc wd kc q i).1) (by omega) (by omega) (by omega) (by omega) (by omega)) rfl rfl rfl rfl rfl (rest := []) rfl rfl ⟨Nat.zero_le _, Nat.zero_le _⟩ (Eq.refl 22) ?_
      show rr_J Z 3 0 0 _ 33 [(0, .ref 0), (1, .int (nI k)), (2, .int (nI i))] [.int (p_wets G tc ((p_it G tc wd kc q i).1) cc)] (W_M (mv len fa hd dd sd sg es a wr) (va_up M 10 (en (p_it G tc wd kc q i))))
      refine rr_if_ne hC (off := 20) (tgt := 53) (by decide +kernel) (fun h33 => ?_) (fun h33 => ?_)
      · refine rr_go hC bk_X11_crossing_53_58 (l' := [(0, .ref 0), (1, .int (nI k)), (2, .int (nI i))]) (st' := [.ref 11, .ref 0]) (w' := (W_M (mv len fa hd dd sd sg es a wr) (va_up M 10 (en (p_it G tc wd kc q i))))) rfl ?_
        refine rr_callVI hC (by decide +kernel) kl_11_211 fX11_passes (m_passes_tried (mv len fa hd dd sd sg es a wr) (va_up M 10 (en (p_it G tc wd kc q i))) tc wd cc kc G (by exact hG) (p_it G tc wd kc q i) rfl (by omega) (by omega) (by omega) h0c (by first | omega | (simp only [p_it_h, p_wr_h, p_sm_h, p_dd_h, p_d1_h, p_df_h]; omega)) (hI.it tc wd hkc i).1) rfl rfl rfl rfl rfl (rest := []) rfl rfl ⟨Nat.zero_le _, Nat.zero_le _⟩ (Eq.refl 22) ?_
        show rr_J Z 3 0 0 _ 61 [(0, .ref 0), (1, .int (nI k)), (2, .int (nI i))] [] (W_M (mv len fa hd dd sd sg es a wr) (va_up M 10 (en (p_pass G tc wd kc (p_it G tc wd kc q i)))))
        refine rr_go hC bk_X11_crossing_61_17 (l' := [(0, .ref 0), (1, .int (nI k)), (2, .int ((nI i) + 1))]) (st' := []) (w' := (W_M (mv len fa hd dd sd sg es a wr) (va_up M 10 (en (p_pass G tc wd kc (p_it G tc wd kc q i)))))) rfl ?_
        rw [show ((nI i) + 1 : Int32) = nI (i + 1) from nI_add i 1]
        exact rr_cast (l' := [(0, .ref 0), (1, .int (nI k)), (2, .int (nI (i + 1)))]) (by rfl) rfl (w' := (W_M (mv len fa hd dd sd sg es a wr) (va_up M 10 (en (p_it G tc wd kc q (i + 1)))))) (by rw [p_it_1]) (ih (i + 1) (by omega) (by omega) (hX.trans (by rw [show 100 - i = (100 - (i + 1)) + 1 by omega, p_fi, if_neg (by first | (rw [decide_eq_false h33, Bool.false_and]; decide) | (rw [m_has_p] at h48; rw [h48, Bool.and_false]; decide))])))
      · refine rr_go hC bk_X11_crossing_36_41 (l' := [(0, .ref 0), (1, .int (nI k)), (2, .int (nI i))]) (st' := [.ref 11, .ref 0]) (w' := (W_M (mv len fa hd dd sd sg es a wr) (va_up M 10 (en (p_it G tc wd kc q i))))) rfl ?_
        refine rr_callVI hC (by decide +kernel) kl_11_169 fX11_force (m_force_tried (mv len fa hd dd sd sg es a wr) (va_up M 10 (en (p_it G tc wd kc q i))) tc wd cc kc G (by exact hG) (p_it G tc wd kc q i) rfl (by omega) (by omega) (by omega) (hI.it tc wd hkc i).ok) rfl rfl rfl rfl rfl (rest := []) rfl rfl ⟨Nat.zero_le _, Nat.zero_le _⟩ (Eq.refl 22) ?_
        show rr_J Z 3 0 0 _ 44 [(0, .ref 0), (1, .int (nI k)), (2, .int (nI i))] [.int (p_fs (p_it G tc wd kc q i).2.2.2.2 G kc)] (W_M (mv len fa hd dd sd sg es a wr) (va_up M 10 (en (p_it G tc wd kc q i))))
        refine rr_go hC bk_X11_crossing_44_45 (l' := [(0, .ref 0), (1, .int (nI k)), (2, .int (nI i))]) (st' := [.int (nI k), .int (p_fs (p_it G tc wd kc q i).2.2.2.2 G kc)]) (w' := (W_M (mv len fa hd dd sd sg es a wr) (va_up M 10 (en (p_it G tc wd kc q i))))) rfl ?_
        refine rr_callS hC (by decide +kernel) kl_11_159 fX11_has (m_c_has (p_fs (p_it G tc wd kc q i).2.2.2.2 G kc) (nI k)) rfl rfl [] rfl rfl (Eq.refl 0) rfl (rest := []) rfl rfl ⟨Nat.zero_le _, Nat.zero_le _⟩ (w2 := (W_M (mv len fa hd dd sd sg es a wr) (va_up M 10 (en (p_it G tc wd kc q i))))) rfl ?_
        show rr_J Z 3 0 0 _ 48 [(0, .ref 0), (1, .int (nI k)), (2, .int (nI i))] [.int (rr_b (m_has (p_fs (p_it G tc wd kc q i).2.2.2.2 G kc) (nI k)))] (W_M (mv len fa hd dd sd sg es a wr) (va_up M 10 (en (p_it G tc wd kc q i))))
        refine rr_eqb hC (off := 5) (tgt := 53) (by decide +kernel) (fun h48 => ?_) (fun h48 => ?_)
        · refine rr_go hC bk_X11_crossing_53_58 (l' := [(0, .ref 0), (1, .int (nI k)), (2, .int (nI i))]) (st' := [.ref 11, .ref 0]) (w' := (W_M (mv len fa hd dd sd sg es a wr) (va_up M 10 (en (p_it G tc wd kc q i))))) rfl ?_
          refine rr_callVI hC (by decide +kernel) kl_11_211 fX11_passes (m_passes_tried (mv len fa hd dd sd sg es a wr) (va_up M 10 (en (p_it G tc wd kc q i))) tc wd cc kc G (by exact hG) (p_it G tc wd kc q i) rfl (by omega) (by omega) (by omega) h0c (by first | omega | (simp only [p_it_h, p_wr_h, p_sm_h, p_dd_h, p_d1_h, p_df_h]; omega)) (hI.it tc wd hkc i).1) rfl rfl rfl rfl rfl (rest := []) rfl rfl ⟨Nat.zero_le _, Nat.zero_le _⟩ (Eq.refl 22) ?_
          show rr_J Z 3 0 0 _ 61 [(0, .ref 0), (1, .int (nI k)), (2, .int (nI i))] [] (W_M (mv len fa hd dd sd sg es a wr) (va_up M 10 (en (p_pass G tc wd kc (p_it G tc wd kc q i)))))
          refine rr_go hC bk_X11_crossing_61_17 (l' := [(0, .ref 0), (1, .int (nI k)), (2, .int ((nI i) + 1))]) (st' := []) (w' := (W_M (mv len fa hd dd sd sg es a wr) (va_up M 10 (en (p_pass G tc wd kc (p_it G tc wd kc q i)))))) rfl ?_
          rw [show ((nI i) + 1 : Int32) = nI (i + 1) from nI_add i 1]
          exact rr_cast (l' := [(0, .ref 0), (1, .int (nI k)), (2, .int (nI (i + 1)))]) (by rfl) rfl (w' := (W_M (mv len fa hd dd sd sg es a wr) (va_up M 10 (en (p_it G tc wd kc q (i + 1)))))) (by rw [p_it_1]) (ih (i + 1) (by omega) (by omega) (hX.trans (by rw [show 100 - i = (100 - (i + 1)) + 1 by omega, p_fi, if_neg (by first | (rw [decide_eq_false h33, Bool.false_and]; decide) | (rw [m_has_p] at h48; rw [h48, Bool.and_false]; decide))])))
        · refine rr_go hC bk_X11_crossing_51_52 (l' := [(0, .ref 0), (1, .int (nI k)), (2, .int (nI i))]) (st' := [.int (nI i)]) (w' := (W_M (mv len fa hd dd sd sg es a wr) (va_up M 10 (en (p_it G tc wd kc q i))))) rfl ?_
          exact rr_retiP hC (by decide +kernel) (by refine ⟨?_, _, rfl⟩; rw [m_has_p] at h48; rw [hX, show 100 - i = (100 - (i + 1)) + 1 by omega, p_fi, if_pos (by rw [decide_eq_true h33, h48]; rfl)]) ⟨Nat.zero_le _, Nat.zero_le _⟩
  exact rr_cast (l' := [(0, .ref 0), (1, .int (nI k)), (2, .int (nI 0))]) (by first | rfl | (rfl)) rfl (w' := (W_M (mv len fa hd dd sd sg es a wr) (va_up M 10 (en (p_it G tc wd kc q 0))))) (by rw [p_it_0]) (lp17 (100 - 0) 0 (by omega) (Nat.le_refl _) rfl)
theorem bk_X11_leaners_0_2 : rr_chk mX11_leaners [(.aload_n 0, 0, 0, 0), (.iload_n 1, 0, 1, 0)] 0 2 = true := by decide +kernel
theorem bk_X11_leaners_8_10 : rr_chk mX11_leaners [(.ldc 178, (-1000000001), 0, 0)] 8 10 = true := by decide +kernel
set_option maxRecDepth 100000 in
set_option maxHeartbeats 4000000 in
theorem m_leanersU (len : Nat) (fa : Int32) (hd : Bool) (dd : Nat) (sd : Int32) (sg es a : Nat) (wr : Int32) (M : Nat → Nat → Int32) (tc wd cc kc : Nat) (G : Nat → Nat → Int32) (hG : m_G M G tc wd cc kc) (k : Int32) (htc : tc ≤ 12) (hcc : cc ≤ 9) (hkc : kc ≤ 6) (hn : p_in k (nI kc) = false) : rr_C mX11_leaners 6 [.ref 0, .int k] (W_M (mv len fa hd dd sd sg es a wr) M) 0 0 (some (-1000000001)) (W_M (mv len fa hd dd sd sg es a wr) M) := by
  refine rr_C.of (n := 1) fX11_leaners.1 rfl rfl (fun Z hC => ?_)
  show rr_J Z 5 0 0 (rr_MQ Z 0 0 (some (-1000000001)) (W_M (mv len fa hd dd sd sg es a wr) M)) 0 [(0, .ref 0), (1, .int k)] [] (W_M (mv len fa hd dd sd sg es a wr) M)
  refine rr_go hC bk_X11_leaners_0_2 (l' := [(0, .ref 0), (1, .int k)]) (st' := [.int k, .ref 0]) (w' := (W_M (mv len fa hd dd sd sg es a wr) M)) rfl ?_
  refine rr_callVI hC (by decide +kernel) kl_11_174 fX11_isClause (m_isClause (mv len fa hd dd sd sg es a wr) M tc wd cc kc G hG k (by omega) (by omega) (by omega)) rfl rfl rfl rfl rfl (rest := []) rfl rfl ⟨Nat.zero_le _, Nat.zero_le _⟩ (Eq.refl 22) ?_
  show rr_J Z 5 0 0 _ 5 [(0, .ref 0), (1, .int k)] [.int (rr_b (p_in k (nI kc)))] (W_M (mv len fa hd dd sd sg es a wr) M)
  refine rr_neb hC (off := 6) (tgt := 11) (by decide +kernel) (fun h5 => by  rw [hn] at h5; cases h5) (fun h5 => ?_)
  refine rr_go hC bk_X11_leaners_8_10 (l' := [(0, .ref 0), (1, .int k)]) (st' := [.int (-1000000001)]) (w' := (W_M (mv len fa hd dd sd sg es a wr) M)) rfl ?_
  exact rr_reti hC (by decide +kernel) (by rfl) (by rfl) ⟨Nat.zero_le _, Nat.zero_le _⟩
theorem p_in_m1 (x : Int32) : p_in (-1) x = false := by
  unfold p_in
  rw [decide_eq_true (show (-1 : Int32) < 0 by decide)]
  rfl
theorem p_lean_n {le : Nat → Int32} {kc k o : Nat} (h : k < o) (h2 : ¬ (p_in (le o) (nI kc) = true ∧ ¬ p_bit (p_lean le kc k o) (le o) = 0)) : p_lean le kc k (o + 1) = p_lean le kc k o := by
  show (if _ then _ else _) = _
  rw [if_neg (by omega), if_neg h2]
theorem p_lean_y {le : Nat → Int32} {kc k o : Nat} (h : k < o) (h2 : p_in (le o) (nI kc) = true ∧ ¬ p_bit (p_lean le kc k o) (le o) = 0) : p_lean le kc k (o + 1) = p_lean le kc k o ||| ((1 : Int32) <<< (nI o &&& 31)) := by
  show (if _ then _ else _) = _
  rw [if_neg (by omega), if_pos h2]
theorem p_lean_0 (le : Nat → Int32) (kc k : Nat) : p_lean le kc k (k + 1) = (1 : Int32) <<< (nI k &&& 31) := by
  show (if _ then _ else _) = _
  rw [if_pos (by omega)]
theorem m_lin {x : Int32} {j kc : Nat} (h : x = -1 ∨ ∃ l, l < j ∧ x = nI l) (h2 : ¬ x = -1) (hj : j < kc) (hk : kc < 100000) : p_in x (nI kc) = true := by
  rcases h with z | ⟨l, hl, z⟩
  · exact absurd z h2
  · rw [z, p_in_n (by omega) (by omega)]
    simp; omega
theorem bk_X11_leaners_11_19 : rr_chk mX11_leaners [(.iconst 1, 1, 0, 0), (.iload_n 1, 0, 1, 0), (.ishl, 0, 0, 0), (.istore_n 2, 0, 2, 0), (.iload_n 1, 0, 1, 0), (.iconst 1, 1, 0, 0), (.iadd, 0, 0, 0), (.istore_n 3, 0, 3, 0)] 11 19 = true := by decide +kernel
theorem bk_X11_leaners_19_26 : rr_chk mX11_leaners [(.iload_n 3, 0, 3, 0), (.aload_n 0, 0, 0, 0), (.getfield 17, 0, 11, 3), (.iconst 2, 2, 0, 0), (.iaload, 0, 2, 0)] 19 26 = true := by decide +kernel
theorem bk_X11_leaners_72_79 : rr_chk mX11_leaners [(.iload_n 2, 0, 2, 0), (.iconst 1, 1, 0, 0), (.iload_n 1, 0, 1, 0), (.ishl, 0, 0, 0), (.iconst (-1), (-1), 0, 0), (.ixor, 0, 0, 0), (.iand, 0, 0, 0)] 72 79 = true := by decide +kernel
theorem bk_X11_leaners_29_38 : rr_chk mX11_leaners [(.aload_n 0, 0, 0, 0), (.getfield 26, 0, 11, 6), (.iconst 4, 4, 0, 0), (.iload_n 3, 0, 3, 0), (.imul, 0, 0, 0), (.iconst 1, 1, 0, 0), (.iadd, 0, 0, 0)] 29 38 = true := by decide +kernel
theorem bk_X11_leaners_39_45 : rr_chk mX11_leaners [(.istore 4, 0, 4, 0), (.iload_n 2, 0, 2, 0), (.iload 4, 0, 4, 0), (.iconst (-1), (-1), 0, 0)] 39 45 = true := by decide +kernel
theorem bk_X11_leaners_63_19 : rr_chk mX11_leaners [(.iconst 0, 0, 0, 0), (.ior, 0, 0, 0), (.istore_n 2, 0, 2, 0), (.iinc 3 1, 1, 3, 0), (.goto (-50), 0, 0, 0)] 63 19 = true := by decide +kernel
theorem bk_X11_leaners_48_51 : rr_chk mX11_leaners [(.iload_n 2, 0, 2, 0), (.iload 4, 0, 4, 0)] 48 51 = true := by decide +kernel
theorem bk_X11_leaners_57_19 : rr_chk mX11_leaners [(.iconst 1, 1, 0, 0), (.iload_n 3, 0, 3, 0), (.ishl, 0, 0, 0), (.goto 4, 0, 0, 0), (.ior, 0, 0, 0), (.istore_n 2, 0, 2, 0), (.iinc 3 1, 1, 3, 0), (.goto (-50), 0, 0, 0)] 57 19 = true := by decide +kernel
set_option maxRecDepth 100000 in
set_option maxHeartbeats 4000000 in
theorem m_leaners (len : Nat) (fa : Int32) (hd : Bool) (dd : Nat) (sd : Int32) (sg es a : Nat) (wr : Int32) (M : Nat → Nat → Int32) (tc wd cc kc : Nat) (G : Nat → Nat → Int32) (hG : m_G M G tc wd cc kc) (k : Nat) (htc : tc ≤ 12) (hcc : cc ≤ 9) (hkc : kc ≤ 6) (hL : ∀ j, j < kc → G 3 j = -1 ∨ ∃ l, l < j ∧ G 3 j = nI l) (hk : k < kc) : rr_C mX11_leaners 6 [.ref 0, .int (nI k)] (W_M (mv len fa hd dd sd sg es a wr) M) 0 0 (some (p_lean (G 3) kc k kc &&& (((1 : Int32) <<< (nI k &&& 31)) ^^^ (-1)))) (W_M (mv len fa hd dd sd sg es a wr) M) := by
  refine rr_C.of (n := 1) fX11_leaners.1 rfl rfl (fun Z hC => ?_)
  show rr_J Z 5 0 0 (rr_MQ Z 0 0 (some (p_lean (G 3) kc k kc &&& (((1 : Int32) <<< (nI k &&& 31)) ^^^ (-1)))) (W_M (mv len fa hd dd sd sg es a wr) M)) 0 [(0, .ref 0), (1, .int (nI k))] [] (W_M (mv len fa hd dd sd sg es a wr) M)
  refine rr_go hC bk_X11_leaners_0_2 (l' := [(0, .ref 0), (1, .int (nI k))]) (st' := [.int (nI k), .ref 0]) (w' := (W_M (mv len fa hd dd sd sg es a wr) M)) rfl ?_
  refine rr_callVI hC (by decide +kernel) kl_11_174 fX11_isClause (m_isClause (mv len fa hd dd sd sg es a wr) M tc wd cc kc G hG (nI k) (by omega) (by omega) (by omega)) rfl rfl rfl rfl rfl (rest := []) rfl rfl ⟨Nat.zero_le _, Nat.zero_le _⟩ (Eq.refl 22) ?_
  show rr_J Z 5 0 0 _ 5 [(0, .ref 0), (1, .int (nI k))] [.int (rr_b (p_in (nI k) (nI kc)))] (W_M (mv len fa hd dd sd sg es a wr) M)
  refine rr_neb hC (off := 6) (tgt := 11) (by decide +kernel) (fun h5 => ?_) (fun h5 => by  exact absurd h5 (by rw [p_in_n (by omega) (by omega)]; simp; omega))
  refine rr_go hC bk_X11_leaners_11_19 (l' := [(0, .ref 0), (1, .int (nI k)), (2, .int (1 <<< (nI k &&& 31))), (3, .int ((nI k) + 1))]) (st' := []) (w' := (W_M (mv len fa hd dd sd sg es a wr) M)) rfl ?_
  rw [show ((nI k) + 1 : Int32) = nI (k + 1) from nI_add k 1]
  have lp19 : ∀ (j o : Nat), o + j = kc → k + 1 ≤ o → rr_J Z 5 0 0 (rr_MQ Z 0 0 (some (p_lean (G 3) kc k kc &&& (((1 : Int32) <<< (nI k &&& 31)) ^^^ (-1)))) (W_M (mv len fa hd dd sd sg es a wr) M)) 19 [(0, .ref 0), (1, .int (nI k)), (2, .int (p_lean (G 3) kc k o)), (3, .int (nI o))] [] (W_M (mv len fa hd dd sd sg es a wr) M) := by
    intro j
    induction j with
    | zero =>
      intro o hk19 hlo19
      refine rr_go hC bk_X11_leaners_19_26 (l' := [(0, .ref 0), (1, .int (nI k)), (2, .int (p_lean (G 3) kc k o)), (3, .int (nI o))]) (st' := [.int (M 1 2), .int (nI o)]) (w' := (W_M (mv len fa hd dd sd sg es a wr) M)) rfl ?_
      rw [show (M 1 2 : Int32) = nI kc from hG.2.2.1]
      refine rr_icmp_ge hC (off := 46) (tgt := 72) (by decide +kernel) (fun h26 => ?_) (fun h26 => by rw [rr_nn_le (by omega) (by omega)] at h26; omega)
      rw [rr_nn_le (by omega) (by omega)] at h26
      refine rr_go hC bk_X11_leaners_72_79 (l' := [(0, .ref 0), (1, .int (nI k)), (2, .int (p_lean (G 3) kc k o)), (3, .int (nI o))]) (st' := [.int ((p_lean (G 3) kc k o) &&& ((1 <<< (nI k &&& 31)) ^^^ (-1)))]) (w' := (W_M (mv len fa hd dd sd sg es a wr) M)) rfl ?_
      exact rr_reti hC (by decide +kernel) (by rw [show o = kc by omega]) (by rfl) ⟨Nat.zero_le _, Nat.zero_le _⟩
    | succ j ih =>
      intro o hk19 hlo19
      refine rr_go hC bk_X11_leaners_19_26 (l' := [(0, .ref 0), (1, .int (nI k)), (2, .int (p_lean (G 3) kc k o)), (3, .int (nI o))]) (st' := [.int (M 1 2), .int (nI o)]) (w' := (W_M (mv len fa hd dd sd sg es a wr) M)) rfl ?_
      rw [show (M 1 2 : Int32) = nI kc from hG.2.2.1]
      refine rr_icmp_ge hC (off := 46) (tgt := 72) (by decide +kernel) (fun h26 => by rw [rr_nn_le (by omega) (by omega)] at h26; omega) (fun h26 => ?_)
      rw [rr_nn_le (by omega) (by omega)] at h26
      refine rr_go hC bk_X11_leaners_29_38 (l' := [(0, .ref 0), (1, .int (nI k)), (2, .int (p_lean (G 3) kc k o)), (3, .int (nI o))]) (st' := [.int ((4 * (nI o)) + 1), .ref 5]) (w' := (W_M (mv len fa hd dd sd sg es a wr) M)) rfl ?_
      rw [show (4 * (nI o) : Int32) = nI (4 * o) from pk_mul 4 o]
      rw [show ((nI (4 * o)) + 1 : Int32) = nI ((4 * o) + 1) from nI_add (4 * o) 1]
      refine rr_iald hC ((4 * o) + 1) (by decide +kernel) rfl rfl (by omega) rfl ?_
      show rr_J Z 5 0 0 _ 39 [(0, .ref 0), (1, .int (nI k)), (2, .int (p_lean (G 3) kc k o)), (3, .int (nI o))] [.int (M 4 ((4 * o) + 1))] (W_M (mv len fa hd dd sd sg es a wr) M)
      rw [(hG.2.2.2.2.2.2 o (show o < kc by omega)).2.1]
      refine rr_go hC bk_X11_leaners_39_45 (l' := [(0, .ref 0), (1, .int (nI k)), (2, .int (p_lean (G 3) kc k o)), (3, .int (nI o)), (4, .int (G 3 o))]) (st' := [.int (-1), .int (G 3 o), .int (p_lean (G 3) kc k o)]) (w' := (W_M (mv len fa hd dd sd sg es a wr) M)) rfl ?_
      refine rr_icmp_eq hC (off := 18) (tgt := 63) (by decide +kernel) (fun h45 => ?_) (fun h45 => ?_)
      · refine rr_go hC bk_X11_leaners_63_19 (l' := [(0, .ref 0), (1, .int (nI k)), (2, .int ((p_lean (G 3) kc k o) ||| 0)), (3, .int ((nI o) + 1)), (4, .int (G 3 o))]) (st' := []) (w' := (W_M (mv len fa hd dd sd sg es a wr) M)) rfl ?_
        rw [show ((nI o) + 1 : Int32) = nI (o + 1) from nI_add o 1]
        refine rr_dr 4 (l' := [(0, .ref 0), (1, .int (nI k)), (2, .int ((p_lean (G 3) kc k o) ||| 0)), (3, .int (nI (o + 1)))]) rfl ?_
        exact rr_cast (l' := [(0, .ref 0), (1, .int (nI k)), (2, .int (p_lean (G 3) kc k (o + 1))), (3, .int (nI (o + 1)))]) (by first | (rw [p_or0, show p_lean (G 3) kc k (o + 1) = p_lean (G 3) kc k o from p_lean_n (by omega) (fun z => by first | (rw [h45, p_in_m1] at z; exact absurd z.1 (by decide)) | (rw [m_has_p] at h54; exact z.2 (by simpa using h54)))]; done) | (rw [show p_lean (G 3) kc k (o + 1) = _ from p_lean_y (by omega) ⟨m_lin (hL o (by omega)) h45 (by omega) (by omega), by rw [m_has_p] at h54; simpa using h54⟩]; done)) rfl (w' := (W_M (mv len fa hd dd sd sg es a wr) M)) (by rfl) (ih (o + 1) (by omega) (by omega))
      · refine rr_go hC bk_X11_leaners_48_51 (l' := [(0, .ref 0), (1, .int (nI k)), (2, .int (p_lean (G 3) kc k o)), (3, .int (nI o)), (4, .int (G 3 o))]) (st' := [.int (G 3 o), .int (p_lean (G 3) kc k o), .int (p_lean (G 3) kc k o)]) (w' := (W_M (mv len fa hd dd sd sg es a wr) M)) rfl ?_
        refine rr_callS hC (by decide +kernel) kl_11_159 fX11_has (m_c_has (p_lean (G 3) kc k o) (G 3 o)) rfl rfl [] rfl rfl (Eq.refl 0) rfl (rest := [.int (p_lean (G 3) kc k o)]) rfl rfl ⟨Nat.zero_le _, Nat.zero_le _⟩ (w2 := (W_M (mv len fa hd dd sd sg es a wr) M)) rfl ?_
        show rr_J Z 5 0 0 _ 54 [(0, .ref 0), (1, .int (nI k)), (2, .int (p_lean (G 3) kc k o)), (3, .int (nI o)), (4, .int (G 3 o))] [.int (rr_b (m_has (p_lean (G 3) kc k o) (G 3 o))), .int (p_lean (G 3) kc k o)] (W_M (mv len fa hd dd sd sg es a wr) M)
        refine rr_eqb hC (off := 9) (tgt := 63) (by decide +kernel) (fun h54 => ?_) (fun h54 => ?_)
        · refine rr_go hC bk_X11_leaners_63_19 (l' := [(0, .ref 0), (1, .int (nI k)), (2, .int ((p_lean (G 3) kc k o) ||| 0)), (3, .int ((nI o) + 1)), (4, .int (G 3 o))]) (st' := []) (w' := (W_M (mv len fa hd dd sd sg es a wr) M)) rfl ?_
          rw [show ((nI o) + 1 : Int32) = nI (o + 1) from nI_add o 1]
          refine rr_dr 4 (l' := [(0, .ref 0), (1, .int (nI k)), (2, .int ((p_lean (G 3) kc k o) ||| 0)), (3, .int (nI (o + 1)))]) rfl ?_
          exact rr_cast (l' := [(0, .ref 0), (1, .int (nI k)), (2, .int (p_lean (G 3) kc k (o + 1))), (3, .int (nI (o + 1)))]) (by first | (rw [p_or0, show p_lean (G 3) kc k (o + 1) = p_lean (G 3) kc k o from p_lean_n (by omega) (fun z => by first | (rw [h45, p_in_m1] at z; exact absurd z.1 (by decide)) | (rw [m_has_p] at h54; exact z.2 (by simpa using h54)))]; done) | (rw [show p_lean (G 3) kc k (o + 1) = _ from p_lean_y (by omega) ⟨m_lin (hL o (by omega)) h45 (by omega) (by omega), by rw [m_has_p] at h54; simpa using h54⟩]; done)) rfl (w' := (W_M (mv len fa hd dd sd sg es a wr) M)) (by rfl) (ih (o + 1) (by omega) (by omega))
        · refine rr_go hC bk_X11_leaners_57_19 (l' := [(0, .ref 0), (1, .int (nI k)), (2, .int ((p_lean (G 3) kc k o) ||| (1 <<< (nI o &&& 31)))), (3, .int ((nI o) + 1)), (4, .int (G 3 o))]) (st' := []) (w' := (W_M (mv len fa hd dd sd sg es a wr) M)) rfl ?_
          rw [show ((nI o) + 1 : Int32) = nI (o + 1) from nI_add o 1]
          refine rr_dr 4 (l' := [(0, .ref 0), (1, .int (nI k)), (2, .int ((p_lean (G 3) kc k o) ||| (1 <<< (nI o &&& 31)))), (3, .int (nI (o + 1)))]) rfl ?_
          exact rr_cast (l' := [(0, .ref 0), (1, .int (nI k)), (2, .int (p_lean (G 3) kc k (o + 1))), (3, .int (nI (o + 1)))]) (by first | (rw [p_or0, show p_lean (G 3) kc k (o + 1) = p_lean (G 3) kc k o from p_lean_n (by omega) (fun z => by first | (rw [h45, p_in_m1] at z; exact absurd z.1 (by decide)) | (rw [m_has_p] at h54; exact z.2 (by simpa using h54)))]; done) | (rw [show p_lean (G 3) kc k (o + 1) = _ from p_lean_y (by omega) ⟨m_lin (hL o (by omega)) h45 (by omega) (by omega), by rw [m_has_p] at h54; simpa using h54⟩]; done)) rfl (w' := (W_M (mv len fa hd dd sd sg es a wr) M)) (by rfl) (ih (o + 1) (by omega) (by omega))
  exact rr_cast (l' := [(0, .ref 0), (1, .int (nI k)), (2, .int (p_lean (G 3) kc k (k + 1))), (3, .int (nI (k + 1)))]) (by first | rfl | (rw [p_lean_0])) rfl (w' := (W_M (mv len fa hd dd sd sg es a wr) M)) (by rfl) (lp19 (kc - (k + 1)) (k + 1) (by omega) (Nat.le_refl _))
theorem bk_X11_storms_0_4 : rr_chk mX11_storms [(.iload_n 1, 0, 1, 0), (.iconst 0, 0, 0, 0), (.bipush 60, 60, 0, 0)] 0 4 = true := by decide +kernel
theorem bk_X11_storms_20_22 : rr_chk mX11_storms [(.ldc 82, (-1000000002), 0, 0)] 20 22 = true := by decide +kernel
theorem bk_X11_storms_10_14 : rr_chk mX11_storms [(.iload_n 2, 0, 2, 0), (.iconst 0, 0, 0, 0), (.bipush 100, 100, 0, 0)] 10 14 = true := by decide +kernel
set_option maxRecDepth 100000 in
set_option maxHeartbeats 4000000 in
theorem m_stormsO (len : Nat) (fa : Int32) (hd : Bool) (dd : Nat) (sd : Int32) (sg es a : Nat) (wr : Int32) (M : Nat → Nat → Int32) (tc wd cc kc : Nat) (G : Nat → Nat → Int32) (hG : m_G M G tc wd cc kc) (x y : Int32) (hxy : x < 0 ∨ 60 < x ∨ y < 0 ∨ 100 < y) : rr_C mX11_storms 6 [.ref 0, .int x, .int y] (W_M (mv len fa hd dd sd sg es a wr) M) 0 0 (some (-1000000002)) (W_M (mv len fa hd dd sd sg es a wr) M) := by
  refine rr_C.of (n := 2) fX11_storms.1 rfl rfl (fun Z hC => ?_)
  show rr_J Z 6 0 0 (rr_MQ Z 0 0 (some (-1000000002)) (W_M (mv len fa hd dd sd sg es a wr) M)) 0 [(0, .ref 0), (1, .int x), (2, .int y)] [] (W_M (mv len fa hd dd sd sg es a wr) M)
  refine rr_go hC bk_X11_storms_0_4 (l' := [(0, .ref 0), (1, .int x), (2, .int y)]) (st' := [.int 60, .int 0, .int x]) (w' := (W_M (mv len fa hd dd sd sg es a wr) M)) rfl ?_
  refine rr_callS hC (by decide +kernel) kl_11_78 fX11_in (m_c_in x 0 60) rfl rfl [] rfl rfl (Eq.refl 0) rfl (rest := []) rfl rfl ⟨Nat.zero_le _, Nat.zero_le _⟩ (w2 := (W_M (mv len fa hd dd sd sg es a wr) M)) rfl ?_
  show rr_J Z 6 0 0 _ 7 [(0, .ref 0), (1, .int x), (2, .int y)] [.int (rr_b (m_in x 0 60))] (W_M (mv len fa hd dd sd sg es a wr) M)
  refine rr_eqb hC (off := 13) (tgt := 20) (by decide +kernel) (fun h7 => ?_) (fun h7 => ?_)
  · refine rr_go hC bk_X11_storms_20_22 (l' := [(0, .ref 0), (1, .int x), (2, .int y)]) (st' := [.int (-1000000002)]) (w' := (W_M (mv len fa hd dd sd sg es a wr) M)) rfl ?_
    exact rr_reti hC (by decide +kernel) (by rfl) (by rfl) ⟨Nat.zero_le _, Nat.zero_le _⟩
  · refine rr_go hC bk_X11_storms_10_14 (l' := [(0, .ref 0), (1, .int x), (2, .int y)]) (st' := [.int 100, .int 0, .int y]) (w' := (W_M (mv len fa hd dd sd sg es a wr) M)) rfl ?_
    refine rr_callS hC (by decide +kernel) kl_11_78 fX11_in (m_c_in y 0 100) rfl rfl [] rfl rfl (Eq.refl 0) rfl (rest := []) rfl rfl ⟨Nat.zero_le _, Nat.zero_le _⟩ (w2 := (W_M (mv len fa hd dd sd sg es a wr) M)) rfl ?_
    show rr_J Z 6 0 0 _ 17 [(0, .ref 0), (1, .int x), (2, .int y)] [.int (rr_b (m_in y 0 100))] (W_M (mv len fa hd dd sd sg es a wr) M)
    refine rr_neb hC (off := 6) (tgt := 23) (by decide +kernel) (fun h17 => by  rcases hxy with z | z | z | z; rw [m_in_no (Or.inl z)] at h7; cases h7; rw [m_in_no (Or.inr z)] at h7; cases h7; rw [m_in_no (Or.inl z)] at h17; cases h17; rw [m_in_no (Or.inr z)] at h17; cases h17) (fun h17 => ?_)
    refine rr_go hC bk_X11_storms_20_22 (l' := [(0, .ref 0), (1, .int x), (2, .int y)]) (st' := [.int (-1000000002)]) (w' := (W_M (mv len fa hd dd sd sg es a wr) M)) rfl ?_
    exact rr_reti hC (by decide +kernel) (by rfl) (by rfl) ⟨Nat.zero_le _, Nat.zero_le _⟩
theorem bk_X11_storms_23_30 : rr_chk mX11_storms [(.ldc2_w 247, 1000000000, 0, 0), (.lstore_n 3, 0, 3, 0), (.iconst 0, 0, 0, 0), (.istore 5, 0, 5, 0)] 23 30 = true := by decide +kernel
theorem bk_X11_storms_30_33 : rr_chk mX11_storms [(.iload 5, 0, 5, 0), (.iload_n 1, 0, 1, 0)] 30 33 = true := by decide +kernel
theorem bk_X11_storms_54_56 : rr_chk mX11_storms [(.lload_n 3, 0, 3, 0), (.l2i, 0, 0, 0)] 54 56 = true := by decide +kernel
theorem bk_X11_storms_36_30 : rr_chk mX11_storms [(.lload_n 3, 0, 3, 0), (.bipush 100, 100, 0, 0), (.iload_n 2, 0, 2, 0), (.isub, 0, 0, 0), (.i2l, 0, 0, 0), (.lmul, 0, 0, 0), (.ldc2_w 249, 100, 0, 0), (.ldiv, 0, 0, 0), (.lstore_n 3, 0, 3, 0), (.iinc 5 1, 1, 5, 0), (.goto (-21), 0, 0, 0)] 36 30 = true := by decide +kernel
set_option maxRecDepth 100000 in
set_option maxHeartbeats 4000000 in
theorem m_storms (len : Nat) (fa : Int32) (hd : Bool) (dd : Nat) (sd : Int32) (sg es a : Nat) (wr : Int32) (M : Nat → Nat → Int32) (tc wd cc kc : Nat) (G : Nat → Nat → Int32) (hG : m_G M G tc wd cc kc) (n y : Nat) (hn : n ≤ 60) (hy : y ≤ 100) : rr_C mX11_storms 6 [.ref 0, .int (nI n), .int (nI y)] (W_M (mv len fa hd dd sd sg es a wr) M) 0 0 (some (Int64.toInt32 (p_sto (nI y) n))) (W_M (mv len fa hd dd sd sg es a wr) M) := by
  refine rr_C.of (n := 2) fX11_storms.1 rfl rfl (fun Z hC => ?_)
  show rr_J Z 6 0 0 (rr_MQ Z 0 0 (some (Int64.toInt32 (p_sto (nI y) n))) (W_M (mv len fa hd dd sd sg es a wr) M)) 0 [(0, .ref 0), (1, .int (nI n)), (2, .int (nI y))] [] (W_M (mv len fa hd dd sd sg es a wr) M)
  refine rr_go hC bk_X11_storms_0_4 (l' := [(0, .ref 0), (1, .int (nI n)), (2, .int (nI y))]) (st' := [.int 60, .int 0, .int (nI n)]) (w' := (W_M (mv len fa hd dd sd sg es a wr) M)) rfl ?_
  refine rr_callS hC (by decide +kernel) kl_11_78 fX11_in (m_c_in (nI n) 0 60) rfl rfl [] rfl rfl (Eq.refl 0) rfl (rest := []) rfl rfl ⟨Nat.zero_le _, Nat.zero_le _⟩ (w2 := (W_M (mv len fa hd dd sd sg es a wr) M)) rfl ?_
  show rr_J Z 6 0 0 _ 7 [(0, .ref 0), (1, .int (nI n)), (2, .int (nI y))] [.int (rr_b (m_in (nI n) 0 60))] (W_M (mv len fa hd dd sd sg es a wr) M)
  refine rr_eqb hC (off := 13) (tgt := 20) (by decide +kernel) (fun h7 => by  rw [m_in_yes (by rw [rr_nl_lt (b := 0) (by omega) (by omega)]; omega) (by rw [rr_ln_lt (a := 60) (by omega) (by omega)]; omega)] at h7; cases h7) (fun h7 => ?_)
  refine rr_go hC bk_X11_storms_10_14 (l' := [(0, .ref 0), (1, .int (nI n)), (2, .int (nI y))]) (st' := [.int 100, .int 0, .int (nI y)]) (w' := (W_M (mv len fa hd dd sd sg es a wr) M)) rfl ?_
  refine rr_callS hC (by decide +kernel) kl_11_78 fX11_in (m_c_in (nI y) 0 100) rfl rfl [] rfl rfl (Eq.refl 0) rfl (rest := []) rfl rfl ⟨Nat.zero_le _, Nat.zero_le _⟩ (w2 := (W_M (mv len fa hd dd sd sg es a wr) M)) rfl ?_
  show rr_J Z 6 0 0 _ 17 [(0, .ref 0), (1, .int (nI n)), (2, .int (nI y))] [.int (rr_b (m_in (nI y) 0 100))] (W_M (mv len fa hd dd sd sg es a wr) M)
  refine rr_neb hC (off := 6) (tgt := 23) (by decide +kernel) (fun h17 => ?_) (fun h17 => by  rw [m_in_yes (by rw [rr_nl_lt (b := 0) (by omega) (by omega)]; omega) (by rw [rr_ln_lt (a := 100) (by omega) (by omega)]; omega)] at h17; cases h17)
  refine rr_go hC bk_X11_storms_23_30 (l' := [(0, .ref 0), (1, .int (nI n)), (2, .int (nI y)), (3, .long (Int32.toInt64 1000000000)), (5, .int 0)]) (st' := []) (w' := (W_M (mv len fa hd dd sd sg es a wr) M)) rfl ?_
  have lp30 : ∀ (j i : Nat), i + j = n → 0 ≤ i → rr_J Z 6 0 0 (rr_MQ Z 0 0 (some (Int64.toInt32 (p_sto (nI y) n))) (W_M (mv len fa hd dd sd sg es a wr) M)) 30 [(0, .ref 0), (1, .int (nI n)), (2, .int (nI y)), (3, .long (p_sto (nI y) i)), (5, .int (nI i))] [] (W_M (mv len fa hd dd sd sg es a wr) M) := by
    intro j
    induction j with
    | zero =>
      intro i hk30 hlo30
      refine rr_go hC bk_X11_storms_30_33 (l' := [(0, .ref 0), (1, .int (nI n)), (2, .int (nI y)), (3, .long (p_sto (nI y) i)), (5, .int (nI i))]) (st' := [.int (nI n), .int (nI i)]) (w' := (W_M (mv len fa hd dd sd sg es a wr) M)) rfl ?_
      refine rr_icmp_ge hC (off := 21) (tgt := 54) (by decide +kernel) (fun h33 => ?_) (fun h33 => by rw [rr_nn_le (by omega) (by omega)] at h33; omega)
      rw [rr_nn_le (by omega) (by omega)] at h33
      refine rr_go hC bk_X11_storms_54_56 (l' := [(0, .ref 0), (1, .int (nI n)), (2, .int (nI y)), (3, .long (p_sto (nI y) i)), (5, .int (nI i))]) (st' := [.int (Int64.toInt32 (p_sto (nI y) i))]) (w' := (W_M (mv len fa hd dd sd sg es a wr) M)) rfl ?_
      exact rr_reti hC (by decide +kernel) (by rw [show i = n by omega]) (by rfl) ⟨Nat.zero_le _, Nat.zero_le _⟩
    | succ j ih =>
      intro i hk30 hlo30
      refine rr_go hC bk_X11_storms_30_33 (l' := [(0, .ref 0), (1, .int (nI n)), (2, .int (nI y)), (3, .long (p_sto (nI y) i)), (5, .int (nI i))]) (st' := [.int (nI n), .int (nI i)]) (w' := (W_M (mv len fa hd dd sd sg es a wr) M)) rfl ?_
      refine rr_icmp_ge hC (off := 21) (tgt := 54) (by decide +kernel) (fun h33 => by rw [rr_nn_le (by omega) (by omega)] at h33; omega) (fun h33 => ?_)
      rw [rr_nn_le (by omega) (by omega)] at h33
      refine rr_go hC bk_X11_storms_36_30 (l' := [(0, .ref 0), (1, .int (nI n)), (2, .int (nI y)), (3, .long (((p_sto (nI y) i) * (Int32.toInt64 (100 - (nI y)))) / (Int32.toInt64 100))), (5, .int ((nI i) + 1))]) (st' := []) (w' := (W_M (mv len fa hd dd sd sg es a wr) M)) rfl ?_
      rw [show ((nI i) + 1 : Int32) = nI (i + 1) from nI_add i 1]
      exact rr_cast (l' := [(0, .ref 0), (1, .int (nI n)), (2, .int (nI y)), (3, .long (p_sto (nI y) (i + 1))), (5, .int (nI (i + 1)))]) (by rfl) rfl (w' := (W_M (mv len fa hd dd sd sg es a wr) M)) (by rfl) (ih (i + 1) (by omega) (by omega))
  exact rr_cast (l' := [(0, .ref 0), (1, .int (nI n)), (2, .int (nI y)), (3, .long (p_sto (nI y) 0)), (5, .int (nI 0))]) (by first | rfl | (rfl)) rfl (w' := (W_M (mv len fa hd dd sd sg es a wr) M)) (by rfl) (lp30 (n - 0) 0 (by omega) (Nat.le_refl _))
theorem bk_X11_see_0_2 : rr_chk mX11_see [(.aload_n 0, 0, 0, 0), (.iload_n 1, 0, 1, 0)] 0 2 = true := by decide +kernel
theorem bk_X11_see_8_10 : rr_chk mX11_see [(.ldc 178, (-1000000001), 0, 0)] 8 10 = true := by decide +kernel
set_option maxRecDepth 100000 in
set_option maxHeartbeats 4000000 in
theorem m_seeU (len : Nat) (fa : Int32) (hd : Bool) (dd : Nat) (sd : Int32) (sg es a : Nat) (wr : Int32) (M : Nat → Nat → Int32) (tc wd cc kc : Nat) (G : Nat → Nat → Int32) (hG : m_G M G tc wd cc kc) (k h : Int32) (z : Bool) (htc : tc ≤ 12) (hcc : cc ≤ 9) (hkc : kc ≤ 6) (hn : p_in k (nI kc) = false) : rr_C mX11_see 6 [.ref 0, .int k, .int h, .int (rr_b z)] (W_M (mv len fa hd dd sd sg es a wr) M) 0 0 (some (-1000000001)) (W_M (mv len fa hd dd sd sg es a wr) M) := by
  refine rr_C.of (n := 3) fX11_see.1 rfl rfl (fun Z hC => ?_)
  show rr_J Z 4 0 0 (rr_MQ Z 0 0 (some (-1000000001)) (W_M (mv len fa hd dd sd sg es a wr) M)) 0 [(0, .ref 0), (1, .int k), (2, .int h), (3, .int (rr_b z))] [] (W_M (mv len fa hd dd sd sg es a wr) M)
  refine rr_go hC bk_X11_see_0_2 (l' := [(0, .ref 0), (1, .int k), (2, .int h), (3, .int (rr_b z))]) (st' := [.int k, .ref 0]) (w' := (W_M (mv len fa hd dd sd sg es a wr) M)) rfl ?_
  refine rr_callVI hC (by decide +kernel) kl_11_174 fX11_isClause (m_isClause (mv len fa hd dd sd sg es a wr) M tc wd cc kc G hG k (by omega) (by omega) (by omega)) rfl rfl rfl rfl rfl (rest := []) rfl rfl ⟨Nat.zero_le _, Nat.zero_le _⟩ (Eq.refl 22) ?_
  show rr_J Z 4 0 0 _ 5 [(0, .ref 0), (1, .int k), (2, .int h), (3, .int (rr_b z))] [.int (rr_b (p_in k (nI kc)))] (W_M (mv len fa hd dd sd sg es a wr) M)
  refine rr_neb hC (off := 6) (tgt := 11) (by decide +kernel) (fun h5 => by  rw [hn] at h5; cases h5) (fun h5 => ?_)
  refine rr_go hC bk_X11_see_8_10 (l' := [(0, .ref 0), (1, .int k), (2, .int h), (3, .int (rr_b z))]) (st' := [.int (-1000000001)]) (w' := (W_M (mv len fa hd dd sd sg es a wr) M)) rfl ?_
  exact rr_reti hC (by decide +kernel) (by rfl) (by rfl) ⟨Nat.zero_le _, Nat.zero_le _⟩
theorem bk_X11_see_11_15 : rr_chk mX11_see [(.iload_n 2, 0, 2, 0), (.iconst 0, 0, 0, 0), (.bipush 60, 60, 0, 0)] 11 15 = true := by decide +kernel
theorem bk_X11_see_21_23 : rr_chk mX11_see [(.ldc 82, (-1000000002), 0, 0)] 21 23 = true := by decide +kernel
set_option maxRecDepth 100000 in
set_option maxHeartbeats 4000000 in
theorem m_seeO (len : Nat) (fa : Int32) (hd : Bool) (dd : Nat) (sd : Int32) (sg es a : Nat) (wr : Int32) (M : Nat → Nat → Int32) (tc wd cc kc : Nat) (G : Nat → Nat → Int32) (hG : m_G M G tc wd cc kc) (k : Nat) (h : Int32) (z : Bool) (htc : tc ≤ 12) (hcc : cc ≤ 9) (hkc : kc ≤ 6) (hk : k < kc) (hh : h < 0 ∨ 60 < h) : rr_C mX11_see 6 [.ref 0, .int (nI k), .int h, .int (rr_b z)] (W_M (mv len fa hd dd sd sg es a wr) M) 0 0 (some (-1000000002)) (W_M (mv len fa hd dd sd sg es a wr) M) := by
  refine rr_C.of (n := 3) fX11_see.1 rfl rfl (fun Z hC => ?_)
  show rr_J Z 4 0 0 (rr_MQ Z 0 0 (some (-1000000002)) (W_M (mv len fa hd dd sd sg es a wr) M)) 0 [(0, .ref 0), (1, .int (nI k)), (2, .int h), (3, .int (rr_b z))] [] (W_M (mv len fa hd dd sd sg es a wr) M)
  refine rr_go hC bk_X11_see_0_2 (l' := [(0, .ref 0), (1, .int (nI k)), (2, .int h), (3, .int (rr_b z))]) (st' := [.int (nI k), .ref 0]) (w' := (W_M (mv len fa hd dd sd sg es a wr) M)) rfl ?_
  refine rr_callVI hC (by decide +kernel) kl_11_174 fX11_isClause (m_isClause (mv len fa hd dd sd sg es a wr) M tc wd cc kc G hG (nI k) (by omega) (by omega) (by omega)) rfl rfl rfl rfl rfl (rest := []) rfl rfl ⟨Nat.zero_le _, Nat.zero_le _⟩ (Eq.refl 22) ?_
  show rr_J Z 4 0 0 _ 5 [(0, .ref 0), (1, .int (nI k)), (2, .int h), (3, .int (rr_b z))] [.int (rr_b (p_in (nI k) (nI kc)))] (W_M (mv len fa hd dd sd sg es a wr) M)
  refine rr_neb hC (off := 6) (tgt := 11) (by decide +kernel) (fun h5 => ?_) (fun h5 => by  exact absurd h5 (by rw [p_in_n (by omega) (by omega)]; simp; omega))
  refine rr_go hC bk_X11_see_11_15 (l' := [(0, .ref 0), (1, .int (nI k)), (2, .int h), (3, .int (rr_b z))]) (st' := [.int 60, .int 0, .int h]) (w' := (W_M (mv len fa hd dd sd sg es a wr) M)) rfl ?_
  refine rr_callS hC (by decide +kernel) kl_11_78 fX11_in (m_c_in h 0 60) rfl rfl [] rfl rfl (Eq.refl 0) rfl (rest := []) rfl rfl ⟨Nat.zero_le _, Nat.zero_le _⟩ (w2 := (W_M (mv len fa hd dd sd sg es a wr) M)) rfl ?_
  show rr_J Z 4 0 0 _ 18 [(0, .ref 0), (1, .int (nI k)), (2, .int h), (3, .int (rr_b z))] [.int (rr_b (m_in h 0 60))] (W_M (mv len fa hd dd sd sg es a wr) M)
  refine rr_neb hC (off := 6) (tgt := 24) (by decide +kernel) (fun h18 => by  rw [m_in_no hh] at h18; cases h18) (fun h18 => ?_)
  refine rr_go hC bk_X11_see_21_23 (l' := [(0, .ref 0), (1, .int (nI k)), (2, .int h), (3, .int (rr_b z))]) (st' := [.int (-1000000002)]) (w' := (W_M (mv len fa hd dd sd sg es a wr) M)) rfl ?_
  exact rr_reti hC (by decide +kernel) (by rfl) (by rfl) ⟨Nat.zero_le _, Nat.zero_le _⟩
theorem bk_X11_see_24_30 : rr_chk mX11_see [(.aload_n 0, 0, 0, 0), (.getfield 141, 0, 11, 21), (.bipush 8, 8, 0, 0)] 24 30 = true := by decide +kernel
theorem bk_X11_see_33_35 : rr_chk mX11_see [(.ldc 86, (-1000000004), 0, 0)] 33 35 = true := by decide +kernel
set_option maxRecDepth 100000 in
set_option maxHeartbeats 4000000 in
theorem m_seeF (len : Nat) (fa : Int32) (hd : Bool) (dd : Nat) (sd : Int32) (sg es a : Nat) (wr : Int32) (M : Nat → Nat → Int32) (tc wd cc kc : Nat) (G : Nat → Nat → Int32) (hG : m_G M G tc wd cc kc) (k h : Nat) (z : Bool) (htc : tc ≤ 12) (hcc : cc ≤ 9) (hkc : kc ≤ 6) (hk : k < kc) (hh : h ≤ 60) (hs : sg = 8) : rr_C mX11_see 6 [.ref 0, .int (nI k), .int (nI h), .int (rr_b z)] (W_M (mv len fa hd dd sd sg es a wr) M) 0 0 (some (-1000000004)) (W_M (mv len fa hd dd sd sg es a wr) M) := by
  refine rr_C.of (n := 3) fX11_see.1 rfl rfl (fun Z hC => ?_)
  show rr_J Z 4 0 0 (rr_MQ Z 0 0 (some (-1000000004)) (W_M (mv len fa hd dd sd sg es a wr) M)) 0 [(0, .ref 0), (1, .int (nI k)), (2, .int (nI h)), (3, .int (rr_b z))] [] (W_M (mv len fa hd dd sd sg es a wr) M)
  refine rr_go hC bk_X11_see_0_2 (l' := [(0, .ref 0), (1, .int (nI k)), (2, .int (nI h)), (3, .int (rr_b z))]) (st' := [.int (nI k), .ref 0]) (w' := (W_M (mv len fa hd dd sd sg es a wr) M)) rfl ?_
  refine rr_callVI hC (by decide +kernel) kl_11_174 fX11_isClause (m_isClause (mv len fa hd dd sd sg es a wr) M tc wd cc kc G hG (nI k) (by omega) (by omega) (by omega)) rfl rfl rfl rfl rfl (rest := []) rfl rfl ⟨Nat.zero_le _, Nat.zero_le _⟩ (Eq.refl 22) ?_
  show rr_J Z 4 0 0 _ 5 [(0, .ref 0), (1, .int (nI k)), (2, .int (nI h)), (3, .int (rr_b z))] [.int (rr_b (p_in (nI k) (nI kc)))] (W_M (mv len fa hd dd sd sg es a wr) M)
  refine rr_neb hC (off := 6) (tgt := 11) (by decide +kernel) (fun h5 => ?_) (fun h5 => by  exact absurd h5 (by rw [p_in_n (by omega) (by omega)]; simp; omega))
  refine rr_go hC bk_X11_see_11_15 (l' := [(0, .ref 0), (1, .int (nI k)), (2, .int (nI h)), (3, .int (rr_b z))]) (st' := [.int 60, .int 0, .int (nI h)]) (w' := (W_M (mv len fa hd dd sd sg es a wr) M)) rfl ?_
  refine rr_callS hC (by decide +kernel) kl_11_78 fX11_in (m_c_in (nI h) 0 60) rfl rfl [] rfl rfl (Eq.refl 0) rfl (rest := []) rfl rfl ⟨Nat.zero_le _, Nat.zero_le _⟩ (w2 := (W_M (mv len fa hd dd sd sg es a wr) M)) rfl ?_
  show rr_J Z 4 0 0 _ 18 [(0, .ref 0), (1, .int (nI k)), (2, .int (nI h)), (3, .int (rr_b z))] [.int (rr_b (m_in (nI h) 0 60))] (W_M (mv len fa hd dd sd sg es a wr) M)
  refine rr_neb hC (off := 6) (tgt := 24) (by decide +kernel) (fun h18 => ?_) (fun h18 => by  rw [m_in_yes (by rw [rr_nl_lt (b := 0) (by omega) (by omega)]; omega) (by rw [rr_ln_lt (a := 60) (by omega) (by omega)]; omega)] at h18; cases h18)
  refine rr_go hC bk_X11_see_24_30 (l' := [(0, .ref 0), (1, .int (nI k)), (2, .int (nI h)), (3, .int (rr_b z))]) (st' := [.int 8, .int (nI sg)]) (w' := (W_M (mv len fa hd dd sd sg es a wr) M)) rfl ?_
  refine rr_icmp_ne hC (off := 6) (tgt := 36) (by decide +kernel) (fun h30 => by rw [rr_nl_eq (b := 8) (by omega) (by omega)] at h30; omega) (fun h30 => ?_)
  rw [rr_nl_eq (b := 8) (by omega) (by omega)] at h30
  refine rr_go hC bk_X11_see_33_35 (l' := [(0, .ref 0), (1, .int (nI k)), (2, .int (nI h)), (3, .int (rr_b z))]) (st' := [.int (-1000000004)]) (w' := (W_M (mv len fa hd dd sd sg es a wr) M)) rfl ?_
  exact rr_reti hC (by decide +kernel) (by rfl) (by rfl) ⟨Nat.zero_le _, Nat.zero_le _⟩
theorem bk_X11_see_36_47 : rr_chk mX11_see [(.aload_n 0, 0, 0, 0), (.getfield 60, 0, 11, 20), (.iconst 3, 3, 0, 0), (.aload_n 0, 0, 0, 0), (.getfield 141, 0, 11, 21), (.imul, 0, 0, 0), (.iload_n 1, 0, 1, 0)] 36 47 = true := by decide +kernel
theorem bk_X11_see_48_61 : rr_chk mX11_see [(.aload_n 0, 0, 0, 0), (.getfield 60, 0, 11, 20), (.iconst 3, 3, 0, 0), (.aload_n 0, 0, 0, 0), (.getfield 141, 0, 11, 21), (.imul, 0, 0, 0), (.iconst 1, 1, 0, 0), (.iadd, 0, 0, 0), (.iload_n 2, 0, 2, 0)] 48 61 = true := by decide +kernel
theorem bk_X11_see_62_75 : rr_chk mX11_see [(.aload_n 0, 0, 0, 0), (.getfield 60, 0, 11, 20), (.iconst 3, 3, 0, 0), (.aload_n 0, 0, 0, 0), (.getfield 141, 0, 11, 21), (.imul, 0, 0, 0), (.iconst 2, 2, 0, 0), (.iadd, 0, 0, 0), (.iload_n 3, 0, 3, 0)] 62 75 = true := by decide +kernel
theorem bk_X11_see_82_83 : rr_chk mX11_see [(.iconst 0, 0, 0, 0)] 82 83 = true := by decide +kernel
theorem bk_X11_see_84_98 : rr_chk mX11_see [(.aload_n 0, 0, 0, 0), (.dup, 0, 0, 0), (.getfield 141, 0, 11, 21), (.iconst 1, 1, 0, 0), (.iadd, 0, 0, 0), (.putfield 141, 0, 11, 21), (.aload_n 0, 0, 0, 0), (.getfield 141, 0, 11, 21)] 84 98 = true := by decide +kernel
theorem bk_X11_see_78_83 : rr_chk mX11_see [(.iconst 1, 1, 0, 0), (.goto 4, 0, 0, 0)] 78 83 = true := by decide +kernel
set_option maxRecDepth 100000 in
set_option maxHeartbeats 4000000 in
theorem m_see (len : Nat) (fa : Int32) (hd : Bool) (dd : Nat) (sd : Int32) (sg es a : Nat) (wr : Int32) (M : Nat → Nat → Int32) (tc wd cc kc : Nat) (G : Nat → Nat → Int32) (hG : m_G M G tc wd cc kc) (k h : Nat) (z : Bool) (htc : tc ≤ 12) (hcc : cc ≤ 9) (hkc : kc ≤ 6) (hk : k < kc) (hh : h ≤ 60) (hs : sg < 8) : rr_C mX11_see 6 [.ref 0, .int (nI k), .int (nI h), .int (rr_b z)] (W_M (mv len fa hd dd sd sg es a wr) M) 0 0 (some (nI (sg + 1))) (W_M (mv len fa hd dd sd (sg + 1) es a wr) (va_up M 15 (upd (upd (upd (M 15) (3 * sg) (nI k)) ((3 * sg) + 1) (nI h)) ((3 * sg) + 2) (rr_b z)))) := by
  refine rr_C.of (n := 3) fX11_see.1 rfl rfl (fun Z hC => ?_)
  show rr_J Z 4 0 0 (rr_MQ Z 0 0 (some (nI (sg + 1))) (W_M (mv len fa hd dd sd (sg + 1) es a wr) (va_up M 15 (upd (upd (upd (M 15) (3 * sg) (nI k)) ((3 * sg) + 1) (nI h)) ((3 * sg) + 2) (rr_b z))))) 0 [(0, .ref 0), (1, .int (nI k)), (2, .int (nI h)), (3, .int (rr_b z))] [] (W_M (mv len fa hd dd sd sg es a wr) M)
  refine rr_go hC bk_X11_see_0_2 (l' := [(0, .ref 0), (1, .int (nI k)), (2, .int (nI h)), (3, .int (rr_b z))]) (st' := [.int (nI k), .ref 0]) (w' := (W_M (mv len fa hd dd sd sg es a wr) M)) rfl ?_
  refine rr_callVI hC (by decide +kernel) kl_11_174 fX11_isClause (m_isClause (mv len fa hd dd sd sg es a wr) M tc wd cc kc G hG (nI k) (by omega) (by omega) (by omega)) rfl rfl rfl rfl rfl (rest := []) rfl rfl ⟨Nat.zero_le _, Nat.zero_le _⟩ (Eq.refl 22) ?_
  show rr_J Z 4 0 0 _ 5 [(0, .ref 0), (1, .int (nI k)), (2, .int (nI h)), (3, .int (rr_b z))] [.int (rr_b (p_in (nI k) (nI kc)))] (W_M (mv len fa hd dd sd sg es a wr) M)
  refine rr_neb hC (off := 6) (tgt := 11) (by decide +kernel) (fun h5 => ?_) (fun h5 => by  exact absurd h5 (by rw [p_in_n (by omega) (by omega)]; simp; omega))
  refine rr_go hC bk_X11_see_11_15 (l' := [(0, .ref 0), (1, .int (nI k)), (2, .int (nI h)), (3, .int (rr_b z))]) (st' := [.int 60, .int 0, .int (nI h)]) (w' := (W_M (mv len fa hd dd sd sg es a wr) M)) rfl ?_
  refine rr_callS hC (by decide +kernel) kl_11_78 fX11_in (m_c_in (nI h) 0 60) rfl rfl [] rfl rfl (Eq.refl 0) rfl (rest := []) rfl rfl ⟨Nat.zero_le _, Nat.zero_le _⟩ (w2 := (W_M (mv len fa hd dd sd sg es a wr) M)) rfl ?_
  show rr_J Z 4 0 0 _ 18 [(0, .ref 0), (1, .int (nI k)), (2, .int (nI h)), (3, .int (rr_b z))] [.int (rr_b (m_in (nI h) 0 60))] (W_M (mv len fa hd dd sd sg es a wr) M)
  refine rr_neb hC (off := 6) (tgt := 24) (by decide +kernel) (fun h18 => ?_) (fun h18 => by  rw [m_in_yes (by rw [rr_nl_lt (b := 0) (by omega) (by omega)]; omega) (by rw [rr_ln_lt (a := 60) (by omega) (by omega)]; omega)] at h18; cases h18)
  refine rr_go hC bk_X11_see_24_30 (l' := [(0, .ref 0), (1, .int (nI k)), (2, .int (nI h)), (3, .int (rr_b z))]) (st' := [.int 8, .int (nI sg)]) (w' := (W_M (mv len fa hd dd sd sg es a wr) M)) rfl ?_
  refine rr_icmp_ne hC (off := 6) (tgt := 36) (by decide +kernel) (fun h30 => ?_) (fun h30 => by rw [rr_nl_eq (b := 8) (by omega) (by omega)] at h30; omega)
  rw [rr_nl_eq (b := 8) (by omega) (by omega)] at h30
  refine rr_go hC bk_X11_see_36_47 (l' := [(0, .ref 0), (1, .int (nI k)), (2, .int (nI h)), (3, .int (rr_b z))]) (st' := [.int (nI k), .int (3 * (nI sg)), .ref 16]) (w' := (W_M (mv len fa hd dd sd sg es a wr) M)) rfl ?_
  rw [show (3 * (nI sg) : Int32) = nI (3 * sg) from pk_mul 3 sg]
  refine rr_iast hC (3 * sg) (by decide +kernel) rfl rfl (by omega) rfl (w' := (W_M (mv len fa hd dd sd sg es a wr) (va_up M 15 (upd (M 15) (3 * sg) (nI k))))) rfl ?_
  show rr_J Z 4 0 0 _ 48 [(0, .ref 0), (1, .int (nI k)), (2, .int (nI h)), (3, .int (rr_b z))] [] (W_M (mv len fa hd dd sd sg es a wr) (va_up M 15 (upd (M 15) (3 * sg) (nI k))))
  refine rr_go hC bk_X11_see_48_61 (l' := [(0, .ref 0), (1, .int (nI k)), (2, .int (nI h)), (3, .int (rr_b z))]) (st' := [.int (nI h), .int ((3 * (nI sg)) + 1), .ref 16]) (w' := (W_M (mv len fa hd dd sd sg es a wr) (va_up M 15 (upd (M 15) (3 * sg) (nI k))))) rfl ?_
  rw [show (3 * (nI sg) : Int32) = nI (3 * sg) from pk_mul 3 sg]
  rw [show ((nI (3 * sg)) + 1 : Int32) = nI ((3 * sg) + 1) from nI_add (3 * sg) 1]
  refine rr_iast hC ((3 * sg) + 1) (by decide +kernel) rfl rfl (by omega) rfl (w' := (W_M (mv len fa hd dd sd sg es a wr) (va_up M 15 (upd (upd (M 15) (3 * sg) (nI k)) ((3 * sg) + 1) (nI h))))) rfl ?_
  show rr_J Z 4 0 0 _ 62 [(0, .ref 0), (1, .int (nI k)), (2, .int (nI h)), (3, .int (rr_b z))] [] (W_M (mv len fa hd dd sd sg es a wr) (va_up M 15 (upd (upd (M 15) (3 * sg) (nI k)) ((3 * sg) + 1) (nI h))))
  refine rr_go hC bk_X11_see_62_75 (l' := [(0, .ref 0), (1, .int (nI k)), (2, .int (nI h)), (3, .int (rr_b z))]) (st' := [.int (rr_b z), .int ((3 * (nI sg)) + 2), .ref 16]) (w' := (W_M (mv len fa hd dd sd sg es a wr) (va_up M 15 (upd (upd (M 15) (3 * sg) (nI k)) ((3 * sg) + 1) (nI h))))) rfl ?_
  rw [show (3 * (nI sg) : Int32) = nI (3 * sg) from pk_mul 3 sg]
  rw [show ((nI (3 * sg)) + 2 : Int32) = nI ((3 * sg) + 2) from nI_add (3 * sg) 2]
  refine rr_eqb hC (off := 7) (tgt := 82) (by decide +kernel) (fun h75 => ?_) (fun h75 => ?_)
  · refine rr_go hC bk_X11_see_82_83 (l' := [(0, .ref 0), (1, .int (nI k)), (2, .int (nI h)), (3, .int (rr_b z))]) (st' := [.int 0, .int (nI ((3 * sg) + 2)), .ref 16]) (w' := (W_M (mv len fa hd dd sd sg es a wr) (va_up M 15 (upd (upd (M 15) (3 * sg) (nI k)) ((3 * sg) + 1) (nI h))))) rfl ?_
    refine rr_iast hC ((3 * sg) + 2) (by decide +kernel) rfl rfl (by omega) rfl (w' := (W_M (mv len fa hd dd sd sg es a wr) (va_up M 15 (upd (upd (upd (M 15) (3 * sg) (nI k)) ((3 * sg) + 1) (nI h)) ((3 * sg) + 2) 0)))) rfl ?_
    show rr_J Z 4 0 0 _ 84 [(0, .ref 0), (1, .int (nI k)), (2, .int (nI h)), (3, .int (rr_b z))] [] (W_M (mv len fa hd dd sd sg es a wr) (va_up M 15 (upd (upd (upd (M 15) (3 * sg) (nI k)) ((3 * sg) + 1) (nI h)) ((3 * sg) + 2) 0)))
    refine rr_go hC bk_X11_see_84_98 (l' := [(0, .ref 0), (1, .int (nI k)), (2, .int (nI h)), (3, .int (rr_b z))]) (st' := [.int ((nI sg) + 1)]) (w' := (W_M (upd (mv len fa hd dd sd sg es a wr) 5 ((nI sg) + 1)) (va_up M 15 (upd (upd (upd (M 15) (3 * sg) (nI k)) ((3 * sg) + 1) (nI h)) ((3 * sg) + 2) 0)))) rfl ?_
    rw [show ((nI sg) + 1 : Int32) = nI (sg + 1) from nI_add sg 1]
    exact rr_reti hC (by decide +kernel) (by rfl) (by rw [h75] <;> rfl) ⟨Nat.zero_le _, Nat.zero_le _⟩
  · refine rr_go hC bk_X11_see_78_83 (l' := [(0, .ref 0), (1, .int (nI k)), (2, .int (nI h)), (3, .int (rr_b z))]) (st' := [.int 1, .int (nI ((3 * sg) + 2)), .ref 16]) (w' := (W_M (mv len fa hd dd sd sg es a wr) (va_up M 15 (upd (upd (M 15) (3 * sg) (nI k)) ((3 * sg) + 1) (nI h))))) rfl ?_
    refine rr_iast hC ((3 * sg) + 2) (by decide +kernel) rfl rfl (by omega) rfl (w' := (W_M (mv len fa hd dd sd sg es a wr) (va_up M 15 (upd (upd (upd (M 15) (3 * sg) (nI k)) ((3 * sg) + 1) (nI h)) ((3 * sg) + 2) 1)))) rfl ?_
    show rr_J Z 4 0 0 _ 84 [(0, .ref 0), (1, .int (nI k)), (2, .int (nI h)), (3, .int (rr_b z))] [] (W_M (mv len fa hd dd sd sg es a wr) (va_up M 15 (upd (upd (upd (M 15) (3 * sg) (nI k)) ((3 * sg) + 1) (nI h)) ((3 * sg) + 2) 1)))
    refine rr_go hC bk_X11_see_84_98 (l' := [(0, .ref 0), (1, .int (nI k)), (2, .int (nI h)), (3, .int (rr_b z))]) (st' := [.int ((nI sg) + 1)]) (w' := (W_M (upd (mv len fa hd dd sd sg es a wr) 5 ((nI sg) + 1)) (va_up M 15 (upd (upd (upd (M 15) (3 * sg) (nI k)) ((3 * sg) + 1) (nI h)) ((3 * sg) + 2) 1)))) rfl ?_
    rw [show ((nI sg) + 1 : Int32) = nI (sg + 1) from nI_add sg 1]
    exact rr_reti hC (by decide +kernel) (by rfl) (by rw [h75] <;> rfl) ⟨Nat.zero_le _, Nat.zero_le _⟩
theorem bk_X11_note_0_2 : rr_chk mX11_note [(.aload_n 0, 0, 0, 0), (.iload_n 1, 0, 1, 0)] 0 2 = true := by decide +kernel
theorem bk_X11_note_21_23 : rr_chk mX11_note [(.ldc 178, (-1000000001), 0, 0)] 21 23 = true := by decide +kernel
theorem bk_X11_note_8_10 : rr_chk mX11_note [(.iload_n 2, 0, 2, 0), (.iconst (-1), (-1), 0, 0)] 8 10 = true := by decide +kernel
theorem bk_X11_note_13_15 : rr_chk mX11_note [(.aload_n 0, 0, 0, 0), (.iload_n 2, 0, 2, 0)] 13 15 = true := by decide +kernel
set_option maxRecDepth 100000 in
set_option maxHeartbeats 4000000 in
theorem m_noteU (len : Nat) (fa : Int32) (hd : Bool) (dd : Nat) (sd : Int32) (sg es a : Nat) (wr : Int32) (M : Nat → Nat → Int32) (tc wd cc kc : Nat) (G : Nat → Nat → Int32) (hG : m_G M G tc wd cc kc) (k c : Int32) (htc : tc ≤ 12) (hcc : cc ≤ 9) (hkc : kc ≤ 6) (hn : p_in k (nI kc) = false ∨ (¬ c = -1 ∧ p_in c (nI cc) = false)) : rr_C mX11_note 6 [.ref 0, .int k, .int c] (W_M (mv len fa hd dd sd sg es a wr) M) 0 0 (some (-1000000001)) (W_M (mv len fa hd dd sd sg es a wr) M) := by
  refine rr_C.of (n := 2) fX11_note.1 rfl rfl (fun Z hC => ?_)
  show rr_J Z 3 0 0 (rr_MQ Z 0 0 (some (-1000000001)) (W_M (mv len fa hd dd sd sg es a wr) M)) 0 [(0, .ref 0), (1, .int k), (2, .int c)] [] (W_M (mv len fa hd dd sd sg es a wr) M)
  refine rr_go hC bk_X11_note_0_2 (l' := [(0, .ref 0), (1, .int k), (2, .int c)]) (st' := [.int k, .ref 0]) (w' := (W_M (mv len fa hd dd sd sg es a wr) M)) rfl ?_
  refine rr_callVI hC (by decide +kernel) kl_11_174 fX11_isClause (m_isClause (mv len fa hd dd sd sg es a wr) M tc wd cc kc G hG k (by omega) (by omega) (by omega)) rfl rfl rfl rfl rfl (rest := []) rfl rfl ⟨Nat.zero_le _, Nat.zero_le _⟩ (Eq.refl 22) ?_
  show rr_J Z 3 0 0 _ 5 [(0, .ref 0), (1, .int k), (2, .int c)] [.int (rr_b (p_in k (nI kc)))] (W_M (mv len fa hd dd sd sg es a wr) M)
  refine rr_eqb hC (off := 16) (tgt := 21) (by decide +kernel) (fun h5 => ?_) (fun h5 => ?_)
  · refine rr_go hC bk_X11_note_21_23 (l' := [(0, .ref 0), (1, .int k), (2, .int c)]) (st' := [.int (-1000000001)]) (w' := (W_M (mv len fa hd dd sd sg es a wr) M)) rfl ?_
    exact rr_reti hC (by decide +kernel) (by rfl) (by rfl) ⟨Nat.zero_le _, Nat.zero_le _⟩
  · refine rr_go hC bk_X11_note_8_10 (l' := [(0, .ref 0), (1, .int k), (2, .int c)]) (st' := [.int (-1), .int c]) (w' := (W_M (mv len fa hd dd sd sg es a wr) M)) rfl ?_
    refine rr_icmp_eq hC (off := 14) (tgt := 24) (by decide +kernel) (fun h10 => by  rcases hn with z | z; rw [z] at h5; cases h5; exact absurd h10 z.1) (fun h10 => ?_)
    refine rr_go hC bk_X11_note_13_15 (l' := [(0, .ref 0), (1, .int k), (2, .int c)]) (st' := [.int c, .ref 0]) (w' := (W_M (mv len fa hd dd sd sg es a wr) M)) rfl ?_
    refine rr_callVI hC (by decide +kernel) kl_11_179 fX11_isCell (m_isCell (mv len fa hd dd sd sg es a wr) M tc wd cc kc G hG c (by omega) (by omega) (by omega)) rfl rfl rfl rfl rfl (rest := []) rfl rfl ⟨Nat.zero_le _, Nat.zero_le _⟩ (Eq.refl 22) ?_
    show rr_J Z 3 0 0 _ 18 [(0, .ref 0), (1, .int k), (2, .int c)] [.int (rr_b (p_in c (nI cc)))] (W_M (mv len fa hd dd sd sg es a wr) M)
    refine rr_neb hC (off := 6) (tgt := 24) (by decide +kernel) (fun h18 => by  rcases hn with z | z; rw [z] at h5; cases h5; rw [z.2] at h18; cases h18) (fun h18 => ?_)
    refine rr_go hC bk_X11_note_21_23 (l' := [(0, .ref 0), (1, .int k), (2, .int c)]) (st' := [.int (-1000000001)]) (w' := (W_M (mv len fa hd dd sd sg es a wr) M)) rfl ?_
    exact rr_reti hC (by decide +kernel) (by rfl) (by rfl) ⟨Nat.zero_le _, Nat.zero_le _⟩
theorem bk_X11_note_24_30 : rr_chk mX11_note [(.aload_n 0, 0, 0, 0), (.getfield 144, 0, 11, 23), (.bipush 20, 20, 0, 0)] 24 30 = true := by decide +kernel
theorem bk_X11_note_33_35 : rr_chk mX11_note [(.ldc 86, (-1000000004), 0, 0)] 33 35 = true := by decide +kernel
set_option maxRecDepth 100000 in
set_option maxHeartbeats 4000000 in
theorem m_noteF (len : Nat) (fa : Int32) (hd : Bool) (dd : Nat) (sd : Int32) (sg es a : Nat) (wr : Int32) (M : Nat → Nat → Int32) (tc wd cc kc : Nat) (G : Nat → Nat → Int32) (hG : m_G M G tc wd cc kc) (k : Nat) (c : Int32) (htc : tc ≤ 12) (hcc : cc ≤ 9) (hkc : kc ≤ 6) (hk : k < kc) (hc : c = -1 ∨ p_in c (nI cc) = true) (hb : es = 20) : rr_C mX11_note 6 [.ref 0, .int (nI k), .int c] (W_M (mv len fa hd dd sd sg es a wr) M) 0 0 (some (-1000000004)) (W_M (mv len fa hd dd sd sg es a wr) M) := by
  refine rr_C.of (n := 2) fX11_note.1 rfl rfl (fun Z hC => ?_)
  show rr_J Z 3 0 0 (rr_MQ Z 0 0 (some (-1000000004)) (W_M (mv len fa hd dd sd sg es a wr) M)) 0 [(0, .ref 0), (1, .int (nI k)), (2, .int c)] [] (W_M (mv len fa hd dd sd sg es a wr) M)
  refine rr_go hC bk_X11_note_0_2 (l' := [(0, .ref 0), (1, .int (nI k)), (2, .int c)]) (st' := [.int (nI k), .ref 0]) (w' := (W_M (mv len fa hd dd sd sg es a wr) M)) rfl ?_
  refine rr_callVI hC (by decide +kernel) kl_11_174 fX11_isClause (m_isClause (mv len fa hd dd sd sg es a wr) M tc wd cc kc G hG (nI k) (by omega) (by omega) (by omega)) rfl rfl rfl rfl rfl (rest := []) rfl rfl ⟨Nat.zero_le _, Nat.zero_le _⟩ (Eq.refl 22) ?_
  show rr_J Z 3 0 0 _ 5 [(0, .ref 0), (1, .int (nI k)), (2, .int c)] [.int (rr_b (p_in (nI k) (nI kc)))] (W_M (mv len fa hd dd sd sg es a wr) M)
  refine rr_eqb hC (off := 16) (tgt := 21) (by decide +kernel) (fun h5 => by  exact absurd h5 (by rw [p_in_n (by omega) (by omega)]; simp; omega)) (fun h5 => ?_)
  refine rr_go hC bk_X11_note_8_10 (l' := [(0, .ref 0), (1, .int (nI k)), (2, .int c)]) (st' := [.int (-1), .int c]) (w' := (W_M (mv len fa hd dd sd sg es a wr) M)) rfl ?_
  refine rr_icmp_eq hC (off := 14) (tgt := 24) (by decide +kernel) (fun h10 => ?_) (fun h10 => ?_)
  · refine rr_go hC bk_X11_note_24_30 (l' := [(0, .ref 0), (1, .int (nI k)), (2, .int c)]) (st' := [.int 20, .int (nI es)]) (w' := (W_M (mv len fa hd dd sd sg es a wr) M)) rfl ?_
    refine rr_icmp_ne hC (off := 6) (tgt := 36) (by decide +kernel) (fun h30 => by rw [rr_nl_eq (b := 20) (by omega) (by omega)] at h30; omega) (fun h30 => ?_)
    rw [rr_nl_eq (b := 20) (by omega) (by omega)] at h30
    refine rr_go hC bk_X11_note_33_35 (l' := [(0, .ref 0), (1, .int (nI k)), (2, .int c)]) (st' := [.int (-1000000004)]) (w' := (W_M (mv len fa hd dd sd sg es a wr) M)) rfl ?_
    exact rr_reti hC (by decide +kernel) (by rfl) (by rfl) ⟨Nat.zero_le _, Nat.zero_le _⟩
  · refine rr_go hC bk_X11_note_13_15 (l' := [(0, .ref 0), (1, .int (nI k)), (2, .int c)]) (st' := [.int c, .ref 0]) (w' := (W_M (mv len fa hd dd sd sg es a wr) M)) rfl ?_
    refine rr_callVI hC (by decide +kernel) kl_11_179 fX11_isCell (m_isCell (mv len fa hd dd sd sg es a wr) M tc wd cc kc G hG c (by omega) (by omega) (by omega)) rfl rfl rfl rfl rfl (rest := []) rfl rfl ⟨Nat.zero_le _, Nat.zero_le _⟩ (Eq.refl 22) ?_
    show rr_J Z 3 0 0 _ 18 [(0, .ref 0), (1, .int (nI k)), (2, .int c)] [.int (rr_b (p_in c (nI cc)))] (W_M (mv len fa hd dd sd sg es a wr) M)
    refine rr_neb hC (off := 6) (tgt := 24) (by decide +kernel) (fun h18 => ?_) (fun h18 => by  rcases hc with z | z; exact absurd z h10; rw [z] at h18; cases h18)
    refine rr_go hC bk_X11_note_24_30 (l' := [(0, .ref 0), (1, .int (nI k)), (2, .int c)]) (st' := [.int 20, .int (nI es)]) (w' := (W_M (mv len fa hd dd sd sg es a wr) M)) rfl ?_
    refine rr_icmp_ne hC (off := 6) (tgt := 36) (by decide +kernel) (fun h30 => by rw [rr_nl_eq (b := 20) (by omega) (by omega)] at h30; omega) (fun h30 => ?_)
    rw [rr_nl_eq (b := 20) (by omega) (by omega)] at h30
    refine rr_go hC bk_X11_note_33_35 (l' := [(0, .ref 0), (1, .int (nI k)), (2, .int c)]) (st' := [.int (-1000000004)]) (w' := (W_M (mv len fa hd dd sd sg es a wr) M)) rfl ?_
    exact rr_reti hC (by decide +kernel) (by rfl) (by rfl) ⟨Nat.zero_le _, Nat.zero_le _⟩
theorem bk_X11_note_36_47 : rr_chk mX11_note [(.aload_n 0, 0, 0, 0), (.getfield 63, 0, 11, 22), (.iconst 2, 2, 0, 0), (.aload_n 0, 0, 0, 0), (.getfield 144, 0, 11, 23), (.imul, 0, 0, 0), (.iload_n 1, 0, 1, 0)] 36 47 = true := by decide +kernel
theorem bk_X11_note_48_61 : rr_chk mX11_note [(.aload_n 0, 0, 0, 0), (.getfield 63, 0, 11, 22), (.iconst 2, 2, 0, 0), (.aload_n 0, 0, 0, 0), (.getfield 144, 0, 11, 23), (.imul, 0, 0, 0), (.iconst 1, 1, 0, 0), (.iadd, 0, 0, 0), (.iload_n 2, 0, 2, 0)] 48 61 = true := by decide +kernel
theorem bk_X11_note_62_76 : rr_chk mX11_note [(.aload_n 0, 0, 0, 0), (.dup, 0, 0, 0), (.getfield 144, 0, 11, 23), (.iconst 1, 1, 0, 0), (.iadd, 0, 0, 0), (.putfield 144, 0, 11, 23), (.aload_n 0, 0, 0, 0), (.getfield 144, 0, 11, 23)] 62 76 = true := by decide +kernel
set_option maxRecDepth 100000 in
set_option maxHeartbeats 4000000 in
theorem m_note (len : Nat) (fa : Int32) (hd : Bool) (dd : Nat) (sd : Int32) (sg es a : Nat) (wr : Int32) (M : Nat → Nat → Int32) (tc wd cc kc : Nat) (G : Nat → Nat → Int32) (hG : m_G M G tc wd cc kc) (k : Nat) (c : Int32) (htc : tc ≤ 12) (hcc : cc ≤ 9) (hkc : kc ≤ 6) (hk : k < kc) (hc : c = -1 ∨ p_in c (nI cc) = true) (hb : es < 20) : rr_C mX11_note 6 [.ref 0, .int (nI k), .int c] (W_M (mv len fa hd dd sd sg es a wr) M) 0 0 (some (nI (es + 1))) (W_M (mv len fa hd dd sd sg (es + 1) a wr) (va_up M 16 (upd (upd (M 16) (2 * es) (nI k)) ((2 * es) + 1) c))) := by
  refine rr_C.of (n := 2) fX11_note.1 rfl rfl (fun Z hC => ?_)
  show rr_J Z 3 0 0 (rr_MQ Z 0 0 (some (nI (es + 1))) (W_M (mv len fa hd dd sd sg (es + 1) a wr) (va_up M 16 (upd (upd (M 16) (2 * es) (nI k)) ((2 * es) + 1) c)))) 0 [(0, .ref 0), (1, .int (nI k)), (2, .int c)] [] (W_M (mv len fa hd dd sd sg es a wr) M)
  refine rr_go hC bk_X11_note_0_2 (l' := [(0, .ref 0), (1, .int (nI k)), (2, .int c)]) (st' := [.int (nI k), .ref 0]) (w' := (W_M (mv len fa hd dd sd sg es a wr) M)) rfl ?_
  refine rr_callVI hC (by decide +kernel) kl_11_174 fX11_isClause (m_isClause (mv len fa hd dd sd sg es a wr) M tc wd cc kc G hG (nI k) (by omega) (by omega) (by omega)) rfl rfl rfl rfl rfl (rest := []) rfl rfl ⟨Nat.zero_le _, Nat.zero_le _⟩ (Eq.refl 22) ?_
  show rr_J Z 3 0 0 _ 5 [(0, .ref 0), (1, .int (nI k)), (2, .int c)] [.int (rr_b (p_in (nI k) (nI kc)))] (W_M (mv len fa hd dd sd sg es a wr) M)
  refine rr_eqb hC (off := 16) (tgt := 21) (by decide +kernel) (fun h5 => by  exact absurd h5 (by rw [p_in_n (by omega) (by omega)]; simp; omega)) (fun h5 => ?_)
  refine rr_go hC bk_X11_note_8_10 (l' := [(0, .ref 0), (1, .int (nI k)), (2, .int c)]) (st' := [.int (-1), .int c]) (w' := (W_M (mv len fa hd dd sd sg es a wr) M)) rfl ?_
  refine rr_icmp_eq hC (off := 14) (tgt := 24) (by decide +kernel) (fun h10 => ?_) (fun h10 => ?_)
  · refine rr_go hC bk_X11_note_24_30 (l' := [(0, .ref 0), (1, .int (nI k)), (2, .int c)]) (st' := [.int 20, .int (nI es)]) (w' := (W_M (mv len fa hd dd sd sg es a wr) M)) rfl ?_
    refine rr_icmp_ne hC (off := 6) (tgt := 36) (by decide +kernel) (fun h30 => ?_) (fun h30 => by rw [rr_nl_eq (b := 20) (by omega) (by omega)] at h30; omega)
    rw [rr_nl_eq (b := 20) (by omega) (by omega)] at h30
    refine rr_go hC bk_X11_note_36_47 (l' := [(0, .ref 0), (1, .int (nI k)), (2, .int c)]) (st' := [.int (nI k), .int (2 * (nI es)), .ref 17]) (w' := (W_M (mv len fa hd dd sd sg es a wr) M)) rfl ?_
    rw [show (2 * (nI es) : Int32) = nI (2 * es) from pk_mul 2 es]
    refine rr_iast hC (2 * es) (by decide +kernel) rfl rfl (by omega) rfl (w' := (W_M (mv len fa hd dd sd sg es a wr) (va_up M 16 (upd (M 16) (2 * es) (nI k))))) rfl ?_
    show rr_J Z 3 0 0 _ 48 [(0, .ref 0), (1, .int (nI k)), (2, .int c)] [] (W_M (mv len fa hd dd sd sg es a wr) (va_up M 16 (upd (M 16) (2 * es) (nI k))))
    refine rr_go hC bk_X11_note_48_61 (l' := [(0, .ref 0), (1, .int (nI k)), (2, .int c)]) (st' := [.int c, .int ((2 * (nI es)) + 1), .ref 17]) (w' := (W_M (mv len fa hd dd sd sg es a wr) (va_up M 16 (upd (M 16) (2 * es) (nI k))))) rfl ?_
    rw [show (2 * (nI es) : Int32) = nI (2 * es) from pk_mul 2 es]
    rw [show ((nI (2 * es)) + 1 : Int32) = nI ((2 * es) + 1) from nI_add (2 * es) 1]
    refine rr_iast hC ((2 * es) + 1) (by decide +kernel) rfl rfl (by omega) rfl (w' := (W_M (mv len fa hd dd sd sg es a wr) (va_up M 16 (upd (upd (M 16) (2 * es) (nI k)) ((2 * es) + 1) c)))) rfl ?_
    show rr_J Z 3 0 0 _ 62 [(0, .ref 0), (1, .int (nI k)), (2, .int c)] [] (W_M (mv len fa hd dd sd sg es a wr) (va_up M 16 (upd (upd (M 16) (2 * es) (nI k)) ((2 * es) + 1) c)))
    refine rr_go hC bk_X11_note_62_76 (l' := [(0, .ref 0), (1, .int (nI k)), (2, .int c)]) (st' := [.int ((nI es) + 1)]) (w' := (W_M (upd (mv len fa hd dd sd sg es a wr) 6 ((nI es) + 1)) (va_up M 16 (upd (upd (M 16) (2 * es) (nI k)) ((2 * es) + 1) c)))) rfl ?_
    rw [show ((nI es) + 1 : Int32) = nI (es + 1) from nI_add es 1]
    exact rr_reti hC (by decide +kernel) (by rfl) (by rfl) ⟨Nat.zero_le _, Nat.zero_le _⟩
  · refine rr_go hC bk_X11_note_13_15 (l' := [(0, .ref 0), (1, .int (nI k)), (2, .int c)]) (st' := [.int c, .ref 0]) (w' := (W_M (mv len fa hd dd sd sg es a wr) M)) rfl ?_
    refine rr_callVI hC (by decide +kernel) kl_11_179 fX11_isCell (m_isCell (mv len fa hd dd sd sg es a wr) M tc wd cc kc G hG c (by omega) (by omega) (by omega)) rfl rfl rfl rfl rfl (rest := []) rfl rfl ⟨Nat.zero_le _, Nat.zero_le _⟩ (Eq.refl 22) ?_
    show rr_J Z 3 0 0 _ 18 [(0, .ref 0), (1, .int (nI k)), (2, .int c)] [.int (rr_b (p_in c (nI cc)))] (W_M (mv len fa hd dd sd sg es a wr) M)
    refine rr_neb hC (off := 6) (tgt := 24) (by decide +kernel) (fun h18 => ?_) (fun h18 => by  rcases hc with z | z; exact absurd z h10; rw [z] at h18; cases h18)
    refine rr_go hC bk_X11_note_24_30 (l' := [(0, .ref 0), (1, .int (nI k)), (2, .int c)]) (st' := [.int 20, .int (nI es)]) (w' := (W_M (mv len fa hd dd sd sg es a wr) M)) rfl ?_
    refine rr_icmp_ne hC (off := 6) (tgt := 36) (by decide +kernel) (fun h30 => ?_) (fun h30 => by rw [rr_nl_eq (b := 20) (by omega) (by omega)] at h30; omega)
    rw [rr_nl_eq (b := 20) (by omega) (by omega)] at h30
    refine rr_go hC bk_X11_note_36_47 (l' := [(0, .ref 0), (1, .int (nI k)), (2, .int c)]) (st' := [.int (nI k), .int (2 * (nI es)), .ref 17]) (w' := (W_M (mv len fa hd dd sd sg es a wr) M)) rfl ?_
    rw [show (2 * (nI es) : Int32) = nI (2 * es) from pk_mul 2 es]
    refine rr_iast hC (2 * es) (by decide +kernel) rfl rfl (by omega) rfl (w' := (W_M (mv len fa hd dd sd sg es a wr) (va_up M 16 (upd (M 16) (2 * es) (nI k))))) rfl ?_
    show rr_J Z 3 0 0 _ 48 [(0, .ref 0), (1, .int (nI k)), (2, .int c)] [] (W_M (mv len fa hd dd sd sg es a wr) (va_up M 16 (upd (M 16) (2 * es) (nI k))))
    refine rr_go hC bk_X11_note_48_61 (l' := [(0, .ref 0), (1, .int (nI k)), (2, .int c)]) (st' := [.int c, .int ((2 * (nI es)) + 1), .ref 17]) (w' := (W_M (mv len fa hd dd sd sg es a wr) (va_up M 16 (upd (M 16) (2 * es) (nI k))))) rfl ?_
    rw [show (2 * (nI es) : Int32) = nI (2 * es) from pk_mul 2 es]
    rw [show ((nI (2 * es)) + 1 : Int32) = nI ((2 * es) + 1) from nI_add (2 * es) 1]
    refine rr_iast hC ((2 * es) + 1) (by decide +kernel) rfl rfl (by omega) rfl (w' := (W_M (mv len fa hd dd sd sg es a wr) (va_up M 16 (upd (upd (M 16) (2 * es) (nI k)) ((2 * es) + 1) c)))) rfl ?_
    show rr_J Z 3 0 0 _ 62 [(0, .ref 0), (1, .int (nI k)), (2, .int c)] [] (W_M (mv len fa hd dd sd sg es a wr) (va_up M 16 (upd (upd (M 16) (2 * es) (nI k)) ((2 * es) + 1) c)))
    refine rr_go hC bk_X11_note_62_76 (l' := [(0, .ref 0), (1, .int (nI k)), (2, .int c)]) (st' := [.int ((nI es) + 1)]) (w' := (W_M (upd (mv len fa hd dd sd sg es a wr) 6 ((nI es) + 1)) (va_up M 16 (upd (upd (M 16) (2 * es) (nI k)) ((2 * es) + 1) c)))) rfl ?_
    rw [show ((nI es) + 1 : Int32) = nI (es + 1) from nI_add es 1]
    exact rr_reti hC (by decide +kernel) (by rfl) (by rfl) ⟨Nat.zero_le _, Nat.zero_le _⟩
theorem p_a1 (x : Int32) : (x + 1) - 1 = x := by simp
theorem bk_X11_judge_0_2 : rr_chk mX11_judge [(.iconst 0, 0, 0, 0), (.istore_n 1, 0, 1, 0)] 0 2 = true := by decide +kernel
theorem bk_X11_judge_2_7 : rr_chk mX11_judge [(.iload_n 1, 0, 1, 0), (.aload_n 0, 0, 0, 0), (.getfield 144, 0, 11, 23)] 2 7 = true := by decide +kernel
theorem bk_X11_judge_50_51 : rr_chk mX11_judge [(.iconst (-1), (-1), 0, 0)] 50 51 = true := by decide +kernel
theorem bk_X11_judge_10_23 : rr_chk mX11_judge [(.aload_n 0, 0, 0, 0), (.getfield 41, 0, 11, 12), (.iconst 4, 4, 0, 0), (.iconst 3, 3, 0, 0), (.aload_n 0, 0, 0, 0), (.getfield 63, 0, 11, 22), (.iconst 2, 2, 0, 0), (.iload_n 1, 0, 1, 0), (.imul, 0, 0, 0)] 10 23 = true := by decide +kernel
theorem bk_X11_judge_24_26 : rr_chk mX11_judge [(.imul, 0, 0, 0), (.iadd, 0, 0, 0)] 24 26 = true := by decide +kernel
theorem bk_X11_judge_27_38 : rr_chk mX11_judge [(.iconst 1, 1, 0, 0), (.isub, 0, 0, 0), (.aload_n 0, 0, 0, 0), (.getfield 63, 0, 11, 22), (.iconst 2, 2, 0, 0), (.iload_n 1, 0, 1, 0), (.imul, 0, 0, 0), (.iconst 1, 1, 0, 0), (.iadd, 0, 0, 0)] 27 38 = true := by decide +kernel
theorem bk_X11_judge_44_2 : rr_chk mX11_judge [(.iinc 1 1, 1, 1, 0), (.goto (-45), 0, 0, 0)] 44 2 = true := by decide +kernel
theorem bk_X11_judge_42_43 : rr_chk mX11_judge [(.iload_n 1, 0, 1, 0)] 42 43 = true := by decide +kernel
set_option maxRecDepth 100000 in
set_option maxHeartbeats 4000000 in
theorem m_judge (len : Nat) (fa : Int32) (hd : Bool) (dd : Nat) (sd : Int32) (sg es a : Nat) (wr : Int32) (M : Nat → Nat → Int32) (tc wd cc kc : Nat) (G : Nat → Nat → Int32) (hG : m_G M G tc wd cc kc) (q : p_Q) (hq : M 9 = en q) (B : Nat → Nat → Int32) (hes : es ≤ 20) (hB : ∀ i, i < es → ∃ k : Nat, k < 6 ∧ B 0 i = nI k ∧ M 16 (2 * i) = nI k ∧ M 16 ((2 * i) + 1) = B 1 i) : rr_C mX11_judge 6 [.ref 0] (W_M (mv len fa hd dd sd sg es a wr) M) 0 0 (some (p_fw B (q.2.2.2.2 0) 0 es)) (W_M (mv len fa hd dd sd sg es a wr) M) := by
  refine rr_C.of (n := 0) fX11_judge.1 rfl rfl (fun Z hC => ?_)
  show rr_J Z 2 0 0 (rr_MQ Z 0 0 (some (p_fw B (q.2.2.2.2 0) 0 es)) (W_M (mv len fa hd dd sd sg es a wr) M)) 0 [(0, .ref 0)] [] (W_M (mv len fa hd dd sd sg es a wr) M)
  refine rr_go hC bk_X11_judge_0_2 (l' := [(0, .ref 0), (1, .int 0)]) (st' := []) (w' := (W_M (mv len fa hd dd sd sg es a wr) M)) rfl ?_
  have lp2 : ∀ (j i : Nat), i + j = es → 0 ≤ i → p_fw B (q.2.2.2.2 0) 0 es = p_fw B (q.2.2.2.2 0) i (es - i) → rr_J Z 2 0 0 (rr_MQ Z 0 0 (some (p_fw B (q.2.2.2.2 0) 0 es)) (W_M (mv len fa hd dd sd sg es a wr) M)) 2 [(0, .ref 0), (1, .int (nI i))] [] (W_M (mv len fa hd dd sd sg es a wr) M) := by
    intro j
    induction j with
    | zero =>
      intro i hk2 hlo2 hX
      refine rr_go hC bk_X11_judge_2_7 (l' := [(0, .ref 0), (1, .int (nI i))]) (st' := [.int (nI es), .int (nI i)]) (w' := (W_M (mv len fa hd dd sd sg es a wr) M)) rfl ?_
      refine rr_icmp_ge hC (off := 43) (tgt := 50) (by decide +kernel) (fun h7 => ?_) (fun h7 => by rw [rr_nn_le (by omega) (by omega)] at h7; omega)
      rw [rr_nn_le (by omega) (by omega)] at h7
      refine rr_go hC bk_X11_judge_50_51 (l' := [(0, .ref 0), (1, .int (nI i))]) (st' := [.int (-1)]) (w' := (W_M (mv len fa hd dd sd sg es a wr) M)) rfl ?_
      exact rr_reti hC (by decide +kernel) (by rw [hX, show es - i = 0 by omega]; rfl) (by rfl) ⟨Nat.zero_le _, Nat.zero_le _⟩
    | succ j ih =>
      intro i hk2 hlo2 hX
      refine rr_go hC bk_X11_judge_2_7 (l' := [(0, .ref 0), (1, .int (nI i))]) (st' := [.int (nI es), .int (nI i)]) (w' := (W_M (mv len fa hd dd sd sg es a wr) M)) rfl ?_
      refine rr_icmp_ge hC (off := 43) (tgt := 50) (by decide +kernel) (fun h7 => by rw [rr_nn_le (by omega) (by omega)] at h7; omega) (fun h7 => ?_)
      rw [rr_nn_le (by omega) (by omega)] at h7
      refine rr_go hC bk_X11_judge_10_23 (l' := [(0, .ref 0), (1, .int (nI i))]) (st' := [.int (2 * (nI i)), .ref 17, .int 3, .int 4, .ref 10]) (w' := (W_M (mv len fa hd dd sd sg es a wr) M)) rfl ?_
      rw [show (2 * (nI i) : Int32) = nI (2 * i) from pk_mul 2 i]
      refine rr_iald hC (2 * i) (by decide +kernel) rfl rfl (by omega) rfl ?_
      show rr_J Z 2 0 0 _ 24 [(0, .ref 0), (1, .int (nI i))] [.int (M 16 (2 * i)), .int 3, .int 4, .ref 10] (W_M (mv len fa hd dd sd sg es a wr) M)
      obtain ⟨kk, hkk, hB0, hM0, hM1⟩ := hB i (by omega)
      rw [hM0]
      refine rr_go hC bk_X11_judge_24_26 (l' := [(0, .ref 0), (1, .int (nI i))]) (st' := [.int (4 + (3 * (nI kk))), .ref 10]) (w' := (W_M (mv len fa hd dd sd sg es a wr) M)) rfl ?_
      rw [show (3 * (nI kk) : Int32) = nI (3 * kk) from pk_mul 3 kk]
      rw [show (4 + (nI (3 * kk)) : Int32) = nI (4 + (3 * kk)) from nI_add 4 (3 * kk)]
      refine rr_iald hC (4 + (3 * kk)) (by decide +kernel) rfl rfl (by omega) rfl ?_
      show rr_J Z 2 0 0 _ 27 [(0, .ref 0), (1, .int (nI i))] [.int (M 9 (4 + (3 * kk)))] (W_M (mv len fa hd dd sd sg es a wr) M)
      rw [hq, en_c q hkk]
      refine rr_go hC bk_X11_judge_27_38 (l' := [(0, .ref 0), (1, .int (nI i))]) (st' := [.int ((2 * (nI i)) + 1), .ref 17, .int ((q.2.2.2.2 0 kk + 1) - 1)]) (w' := (W_M (mv len fa hd dd sd sg es a wr) M)) rfl ?_
      rw [show (2 * (nI i) : Int32) = nI (2 * i) from pk_mul 2 i]
      rw [show ((nI (2 * i)) + 1 : Int32) = nI ((2 * i) + 1) from nI_add (2 * i) 1]
      refine rr_iald hC ((2 * i) + 1) (by decide +kernel) rfl rfl (by omega) rfl ?_
      show rr_J Z 2 0 0 _ 39 [(0, .ref 0), (1, .int (nI i))] [.int (M 16 ((2 * i) + 1)), .int ((q.2.2.2.2 0 kk + 1) - 1)] (W_M (mv len fa hd dd sd sg es a wr) M)
      rw [hM1, p_a1]
      refine rr_icmp_eq hC (off := 5) (tgt := 44) (by decide +kernel) (fun h39 => ?_) (fun h39 => ?_)
      · refine rr_go hC bk_X11_judge_44_2 (l' := [(0, .ref 0), (1, .int ((nI i) + 1))]) (st' := []) (w' := (W_M (mv len fa hd dd sd sg es a wr) M)) rfl ?_
        rw [show ((nI i) + 1 : Int32) = nI (i + 1) from nI_add i 1]
        exact rr_cast (l' := [(0, .ref 0), (1, .int (nI (i + 1)))]) (by rfl) rfl (w' := (W_M (mv len fa hd dd sd sg es a wr) M)) (by rfl) (ih (i + 1) (by omega) (by omega) (hX.trans (by rw [show es - i = (es - (i + 1)) + 1 by omega, p_fw, (show (B 0 i).toNatClampNeg = kk by rw [hB0]; exact nI_clamp (by omega)), if_pos h39])))
      · refine rr_go hC bk_X11_judge_42_43 (l' := [(0, .ref 0), (1, .int (nI i))]) (st' := [.int (nI i)]) (w' := (W_M (mv len fa hd dd sd sg es a wr) M)) rfl ?_
        exact rr_reti hC (by decide +kernel) (by rw [hX, show es - i = (es - (i + 1)) + 1 by omega, p_fw, (show (B 0 i).toNatClampNeg = kk by rw [hB0]; exact nI_clamp (by omega)), if_neg h39]) (by rfl) ⟨Nat.zero_le _, Nat.zero_le _⟩
  exact rr_cast (l' := [(0, .ref 0), (1, .int (nI 0))]) (by first | rfl | (rfl)) rfl (w' := (W_M (mv len fa hd dd sd sg es a wr) M)) (by rfl) (lp2 (es - 0) 0 (by omega) (Nat.le_refl _) rfl)
theorem m_in_2 {x : Int32} (h : x < 0 ∨ 2 ≤ x) : m_in x 0 1 = false := by
  apply m_in_no
  rcases h with h | h
  · exact Or.inl h
  · right
    rw [Int32.le_iff_toInt_le, show (2 : Int32).toInt = 2 from by decide] at h
    rw [Int32.lt_iff_toInt_lt, show (1 : Int32).toInt = 1 from by decide]
    omega
theorem bk_X11_keep_0_3 : rr_chk mX11_keep [(.iload_n 1, 0, 1, 0), (.iconst 0, 0, 0, 0), (.iconst 1, 1, 0, 0)] 0 3 = true := by decide +kernel
theorem bk_X11_keep_9_11 : rr_chk mX11_keep [(.ldc 178, (-1000000001), 0, 0)] 9 11 = true := by decide +kernel
set_option maxRecDepth 100000 in
set_option maxHeartbeats 4000000 in
theorem m_keepU (len : Nat) (fa : Int32) (hd : Bool) (dd : Nat) (sd : Int32) (sg es a : Nat) (wr : Int32) (M : Nat → Nat → Int32) (tc wd cc kc : Nat) (G : Nat → Nat → Int32) (hG : m_G M G tc wd cc kc) (x : Int32) (hi : x < 0 ∨ 2 ≤ x) : rr_C mX11_keep 6 [.ref 0, .int x] (W_M (mv len fa hd dd sd sg es a wr) M) 0 0 (some (-1000000001)) (W_M (mv len fa hd dd sd sg es a wr) M) := by
  refine rr_C.of (n := 1) fX11_keep.1 rfl rfl (fun Z hC => ?_)
  show rr_J Z 2 0 0 (rr_MQ Z 0 0 (some (-1000000001)) (W_M (mv len fa hd dd sd sg es a wr) M)) 0 [(0, .ref 0), (1, .int x)] [] (W_M (mv len fa hd dd sd sg es a wr) M)
  refine rr_go hC bk_X11_keep_0_3 (l' := [(0, .ref 0), (1, .int x)]) (st' := [.int 1, .int 0, .int x]) (w' := (W_M (mv len fa hd dd sd sg es a wr) M)) rfl ?_
  refine rr_callS hC (by decide +kernel) kl_11_78 fX11_in (m_c_in x 0 1) rfl rfl [] rfl rfl (Eq.refl 0) rfl (rest := []) rfl rfl ⟨Nat.zero_le _, Nat.zero_le _⟩ (w2 := (W_M (mv len fa hd dd sd sg es a wr) M)) rfl ?_
  show rr_J Z 2 0 0 _ 6 [(0, .ref 0), (1, .int x)] [.int (rr_b (m_in x 0 1))] (W_M (mv len fa hd dd sd sg es a wr) M)
  refine rr_neb hC (off := 6) (tgt := 12) (by decide +kernel) (fun h6 => by  rw [m_in_2 hi] at h6; cases h6) (fun h6 => ?_)
  refine rr_go hC bk_X11_keep_9_11 (l' := [(0, .ref 0), (1, .int x)]) (st' := [.int (-1000000001)]) (w' := (W_M (mv len fa hd dd sd sg es a wr) M)) rfl ?_
  exact rr_reti hC (by decide +kernel) (by rfl) (by rfl) ⟨Nat.zero_le _, Nat.zero_le _⟩
theorem bk_X11_keep_12_27 : rr_chk mX11_keep [(.aload_n 0, 0, 0, 0), (.getfield 41, 0, 11, 12), (.iconst 0, 0, 0, 0), (.aload_n 0, 0, 0, 0), (.getfield 50, 0, 11, 16), (.bipush 22, 22, 0, 0), (.iload_n 1, 0, 1, 0), (.imul, 0, 0, 0), (.bipush 22, 22, 0, 0)] 12 27 = true := by decide +kernel
theorem bk_X11_keep_30_39 : rr_chk mX11_keep [(.aload_n 0, 0, 0, 0), (.getfield 53, 0, 11, 17), (.iload_n 1, 0, 1, 0), (.aload_n 0, 0, 0, 0), (.getfield 215, 0, 11, 19)] 30 39 = true := by decide +kernel
theorem bk_X11_keep_40_46 : rr_chk mX11_keep [(.aload_n 0, 0, 0, 0), (.getfield 56, 0, 11, 18), (.iload_n 1, 0, 1, 0), (.iconst 1, 1, 0, 0)] 40 46 = true := by decide +kernel
theorem bk_X11_keep_47_53 : rr_chk mX11_keep [(.aload_n 0, 0, 0, 0), (.iconst 0, 0, 0, 0), (.putfield 138, 0, 11, 15), (.iconst 1, 1, 0, 0)] 47 53 = true := by decide +kernel
set_option maxRecDepth 100000 in
set_option maxHeartbeats 4000000 in
theorem m_keep (len : Nat) (fa : Int32) (hd : Bool) (dd : Nat) (sd : Int32) (sg es a : Nat) (wr : Int32) (M : Nat → Nat → Int32) (tc wd cc kc : Nat) (G : Nat → Nat → Int32) (hG : m_G M G tc wd cc kc) (i : Nat) (hi : i < 2) : rr_C mX11_keep 6 [.ref 0, .int (nI i)] (W_M (mv len fa hd dd sd sg es a wr) M) 0 0 (some 1) (W_M (mv len fa hd 0 sd sg es a wr) (va_up (va_up (va_up M 12 (va_cpy (M 9) (M 12) 0 (22 * i) 22)) 13 (upd (M 13) i sd)) 14 (upd (M 14) i 1))) := by
  refine rr_C.of (n := 1) fX11_keep.1 rfl rfl (fun Z hC => ?_)
  show rr_J Z 2 0 0 (rr_MQ Z 0 0 (some 1) (W_M (mv len fa hd 0 sd sg es a wr) (va_up (va_up (va_up M 12 (va_cpy (M 9) (M 12) 0 (22 * i) 22)) 13 (upd (M 13) i sd)) 14 (upd (M 14) i 1)))) 0 [(0, .ref 0), (1, .int (nI i))] [] (W_M (mv len fa hd dd sd sg es a wr) M)
  refine rr_go hC bk_X11_keep_0_3 (l' := [(0, .ref 0), (1, .int (nI i))]) (st' := [.int 1, .int 0, .int (nI i)]) (w' := (W_M (mv len fa hd dd sd sg es a wr) M)) rfl ?_
  refine rr_callS hC (by decide +kernel) kl_11_78 fX11_in (m_c_in (nI i) 0 1) rfl rfl [] rfl rfl (Eq.refl 0) rfl (rest := []) rfl rfl ⟨Nat.zero_le _, Nat.zero_le _⟩ (w2 := (W_M (mv len fa hd dd sd sg es a wr) M)) rfl ?_
  show rr_J Z 2 0 0 _ 6 [(0, .ref 0), (1, .int (nI i))] [.int (rr_b (m_in (nI i) 0 1))] (W_M (mv len fa hd dd sd sg es a wr) M)
  refine rr_neb hC (off := 6) (tgt := 12) (by decide +kernel) (fun h6 => ?_) (fun h6 => by  rw [m_in_yes (by rw [rr_nl_lt (b := 0) (by omega) (by omega)]; omega) (by rw [rr_ln_lt (a := 1) (by omega) (by omega)]; omega)] at h6; cases h6)
  refine rr_go hC bk_X11_keep_12_27 (l' := [(0, .ref 0), (1, .int (nI i))]) (st' := [.int 22, .int (22 * (nI i)), .ref 13, .int 0, .ref 10]) (w' := (W_M (mv len fa hd dd sd sg es a wr) M)) rfl ?_
  rw [show (22 * (nI i) : Int32) = nI (22 * i) from pk_mul 22 i]
  refine rr_callS hC (by decide +kernel) kl_11_134 fX11_copies (m_copies22_44 (fun _ => M 9) (fun _ => M 12) 0 (22 * i) 22 (by omega) (by omega)) rfl rfl [10, 13] rfl rfl (Eq.refl 2) rfl (rest := []) rfl rfl ⟨Nat.zero_le _, Nat.zero_le _⟩ (w2 := (W_M (mv len fa hd dd sd sg es a wr) (va_up M 12 (va_cpy (M 9) (M 12) 0 (22 * i) 22)))) rfl ?_
  show rr_J Z 2 0 0 _ 30 [(0, .ref 0), (1, .int (nI i))] [] (W_M (mv len fa hd dd sd sg es a wr) (va_up M 12 (va_cpy (M 9) (M 12) 0 (22 * i) 22)))
  refine rr_go hC bk_X11_keep_30_39 (l' := [(0, .ref 0), (1, .int (nI i))]) (st' := [.int sd, .int (nI i), .ref 14]) (w' := (W_M (mv len fa hd dd sd sg es a wr) (va_up M 12 (va_cpy (M 9) (M 12) 0 (22 * i) 22)))) rfl ?_
  refine rr_iast hC i (by decide +kernel) rfl rfl (by omega) rfl (w' := (W_M (mv len fa hd dd sd sg es a wr) (va_up (va_up M 12 (va_cpy (M 9) (M 12) 0 (22 * i) 22)) 13 (upd (M 13) i sd)))) rfl ?_
  show rr_J Z 2 0 0 _ 40 [(0, .ref 0), (1, .int (nI i))] [] (W_M (mv len fa hd dd sd sg es a wr) (va_up (va_up M 12 (va_cpy (M 9) (M 12) 0 (22 * i) 22)) 13 (upd (M 13) i sd)))
  refine rr_go hC bk_X11_keep_40_46 (l' := [(0, .ref 0), (1, .int (nI i))]) (st' := [.int 1, .int (nI i), .ref 15]) (w' := (W_M (mv len fa hd dd sd sg es a wr) (va_up (va_up M 12 (va_cpy (M 9) (M 12) 0 (22 * i) 22)) 13 (upd (M 13) i sd)))) rfl ?_
  refine rr_zast hC i (by decide +kernel) rfl rfl (by omega) rfl (Or.inr rfl) (w' := (W_M (mv len fa hd dd sd sg es a wr) (va_up (va_up (va_up M 12 (va_cpy (M 9) (M 12) 0 (22 * i) 22)) 13 (upd (M 13) i sd)) 14 (upd (M 14) i 1)))) rfl ?_
  show rr_J Z 2 0 0 _ 47 [(0, .ref 0), (1, .int (nI i))] [] (W_M (mv len fa hd dd sd sg es a wr) (va_up (va_up (va_up M 12 (va_cpy (M 9) (M 12) 0 (22 * i) 22)) 13 (upd (M 13) i sd)) 14 (upd (M 14) i 1)))
  refine rr_go hC bk_X11_keep_47_53 (l' := [(0, .ref 0), (1, .int (nI i))]) (st' := [.int 1]) (w' := (W_M (upd (mv len fa hd dd sd sg es a wr) 3 0) (va_up (va_up (va_up M 12 (va_cpy (M 9) (M 12) 0 (22 * i) 22)) 13 (upd (M 13) i sd)) 14 (upd (M 14) i 1)))) rfl ?_
  exact rr_reti hC (by decide +kernel) (by rfl) (by rfl) ⟨Nat.zero_le _, Nat.zero_le _⟩
theorem bk_X11_goBack_0_3 : rr_chk mX11_goBack [(.iload_n 1, 0, 1, 0), (.iconst 0, 0, 0, 0), (.iconst 1, 1, 0, 0)] 0 3 = true := by decide +kernel
theorem bk_X11_goBack_9_11 : rr_chk mX11_goBack [(.ldc 178, (-1000000001), 0, 0)] 9 11 = true := by decide +kernel
set_option maxRecDepth 100000 in
set_option maxHeartbeats 4000000 in
theorem m_goBackU (len : Nat) (fa : Int32) (hd : Bool) (dd : Nat) (sd : Int32) (sg es a : Nat) (wr : Int32) (M : Nat → Nat → Int32) (tc wd cc kc : Nat) (G : Nat → Nat → Int32) (hG : m_G M G tc wd cc kc) (x : Int32) (hi : x < 0 ∨ 2 ≤ x) : rr_C mX11_goBack 6 [.ref 0, .int x] (W_M (mv len fa hd dd sd sg es a wr) M) 0 0 (some (-1000000001)) (W_M (mv len fa hd dd sd sg es a wr) M) := by
  refine rr_C.of (n := 1) fX11_goBack.1 rfl rfl (fun Z hC => ?_)
  show rr_J Z 2 0 0 (rr_MQ Z 0 0 (some (-1000000001)) (W_M (mv len fa hd dd sd sg es a wr) M)) 0 [(0, .ref 0), (1, .int x)] [] (W_M (mv len fa hd dd sd sg es a wr) M)
  refine rr_go hC bk_X11_goBack_0_3 (l' := [(0, .ref 0), (1, .int x)]) (st' := [.int 1, .int 0, .int x]) (w' := (W_M (mv len fa hd dd sd sg es a wr) M)) rfl ?_
  refine rr_callS hC (by decide +kernel) kl_11_78 fX11_in (m_c_in x 0 1) rfl rfl [] rfl rfl (Eq.refl 0) rfl (rest := []) rfl rfl ⟨Nat.zero_le _, Nat.zero_le _⟩ (w2 := (W_M (mv len fa hd dd sd sg es a wr) M)) rfl ?_
  show rr_J Z 2 0 0 _ 6 [(0, .ref 0), (1, .int x)] [.int (rr_b (m_in x 0 1))] (W_M (mv len fa hd dd sd sg es a wr) M)
  refine rr_neb hC (off := 6) (tgt := 12) (by decide +kernel) (fun h6 => by  rw [m_in_2 hi] at h6; cases h6) (fun h6 => ?_)
  refine rr_go hC bk_X11_goBack_9_11 (l' := [(0, .ref 0), (1, .int x)]) (st' := [.int (-1000000001)]) (w' := (W_M (mv len fa hd dd sd sg es a wr) M)) rfl ?_
  exact rr_reti hC (by decide +kernel) (by rfl) (by rfl) ⟨Nat.zero_le _, Nat.zero_le _⟩
theorem bk_X11_goBack_12_17 : rr_chk mX11_goBack [(.aload_n 0, 0, 0, 0), (.getfield 56, 0, 11, 18), (.iload_n 1, 0, 1, 0)] 12 17 = true := by decide +kernel
theorem bk_X11_goBack_21_23 : rr_chk mX11_goBack [(.ldc 190, (-1000000003), 0, 0)] 21 23 = true := by decide +kernel
set_option maxRecDepth 100000 in
set_option maxHeartbeats 4000000 in
theorem m_goBackN (len : Nat) (fa : Int32) (hd : Bool) (dd : Nat) (sd : Int32) (sg es a : Nat) (wr : Int32) (M : Nat → Nat → Int32) (tc wd cc kc : Nat) (G : Nat → Nat → Int32) (hG : m_G M G tc wd cc kc) (i : Nat) (hi : i < 2) (hk : M 14 i = 0) : rr_C mX11_goBack 6 [.ref 0, .int (nI i)] (W_M (mv len fa hd dd sd sg es a wr) M) 0 0 (some (-1000000003)) (W_M (mv len fa hd dd sd sg es a wr) M) := by
  refine rr_C.of (n := 1) fX11_goBack.1 rfl rfl (fun Z hC => ?_)
  show rr_J Z 2 0 0 (rr_MQ Z 0 0 (some (-1000000003)) (W_M (mv len fa hd dd sd sg es a wr) M)) 0 [(0, .ref 0), (1, .int (nI i))] [] (W_M (mv len fa hd dd sd sg es a wr) M)
  refine rr_go hC bk_X11_goBack_0_3 (l' := [(0, .ref 0), (1, .int (nI i))]) (st' := [.int 1, .int 0, .int (nI i)]) (w' := (W_M (mv len fa hd dd sd sg es a wr) M)) rfl ?_
  refine rr_callS hC (by decide +kernel) kl_11_78 fX11_in (m_c_in (nI i) 0 1) rfl rfl [] rfl rfl (Eq.refl 0) rfl (rest := []) rfl rfl ⟨Nat.zero_le _, Nat.zero_le _⟩ (w2 := (W_M (mv len fa hd dd sd sg es a wr) M)) rfl ?_
  show rr_J Z 2 0 0 _ 6 [(0, .ref 0), (1, .int (nI i))] [.int (rr_b (m_in (nI i) 0 1))] (W_M (mv len fa hd dd sd sg es a wr) M)
  refine rr_neb hC (off := 6) (tgt := 12) (by decide +kernel) (fun h6 => ?_) (fun h6 => by  rw [m_in_yes (by rw [rr_nl_lt (b := 0) (by omega) (by omega)]; omega) (by rw [rr_ln_lt (a := 1) (by omega) (by omega)]; omega)] at h6; cases h6)
  refine rr_go hC bk_X11_goBack_12_17 (l' := [(0, .ref 0), (1, .int (nI i))]) (st' := [.int (nI i), .ref 15]) (w' := (W_M (mv len fa hd dd sd sg es a wr) M)) rfl ?_
  refine rr_zald hC i (by decide +kernel) rfl rfl (by omega) rfl ?_
  show rr_J Z 2 0 0 _ 18 [(0, .ref 0), (1, .int (nI i))] [.int (M 14 i)] (W_M (mv len fa hd dd sd sg es a wr) M)
  refine rr_if_ne hC (off := 6) (tgt := 24) (by decide +kernel) (fun h18 => by  exact absurd hk h18) (fun h18 => ?_)
  refine rr_go hC bk_X11_goBack_21_23 (l' := [(0, .ref 0), (1, .int (nI i))]) (st' := [.int (-1000000003)]) (w' := (W_M (mv len fa hd dd sd sg es a wr) M)) rfl ?_
  exact rr_reti hC (by decide +kernel) (by rfl) (by rfl) ⟨Nat.zero_le _, Nat.zero_le _⟩
theorem bk_X11_goBack_24_39 : rr_chk mX11_goBack [(.aload_n 0, 0, 0, 0), (.getfield 50, 0, 11, 16), (.bipush 22, 22, 0, 0), (.iload_n 1, 0, 1, 0), (.imul, 0, 0, 0), (.aload_n 0, 0, 0, 0), (.getfield 41, 0, 11, 12), (.iconst 0, 0, 0, 0), (.bipush 22, 22, 0, 0)] 24 39 = true := by decide +kernel
theorem bk_X11_goBack_42_48 : rr_chk mX11_goBack [(.aload_n 0, 0, 0, 0), (.aload_n 0, 0, 0, 0), (.getfield 53, 0, 11, 17), (.iload_n 1, 0, 1, 0)] 42 48 = true := by decide +kernel
theorem bk_X11_goBack_49_58 : rr_chk mX11_goBack [(.putfield 215, 0, 11, 19), (.aload_n 0, 0, 0, 0), (.iconst 0, 0, 0, 0), (.putfield 138, 0, 11, 15), (.iconst 1, 1, 0, 0)] 49 58 = true := by decide +kernel
set_option maxRecDepth 100000 in
set_option maxHeartbeats 4000000 in
theorem m_goBack (len : Nat) (fa : Int32) (hd : Bool) (dd : Nat) (sd : Int32) (sg es a : Nat) (wr : Int32) (M : Nat → Nat → Int32) (tc wd cc kc : Nat) (G : Nat → Nat → Int32) (hG : m_G M G tc wd cc kc) (q : p_Q) (hq : M 9 = en q) (i : Nat) (r : p_Q) (hi : i < 2) (hk : ¬ M 14 i = 0) (hr : ∀ j, j < 22 → M 12 ((22 * i) + j) = en r j) : rr_C mX11_goBack 6 [.ref 0, .int (nI i)] (W_M (mv len fa hd dd sd sg es a wr) M) 0 0 (some 1) (W_M (mv len fa hd 0 (M 13 i) sg es a wr) (va_up M 9 (en r))) := by
  refine rr_C.of (n := 1) fX11_goBack.1 rfl rfl (fun Z hC => ?_)
  show rr_J Z 2 0 0 (rr_MQ Z 0 0 (some 1) (W_M (mv len fa hd 0 (M 13 i) sg es a wr) (va_up M 9 (en r)))) 0 [(0, .ref 0), (1, .int (nI i))] [] (W_M (mv len fa hd dd sd sg es a wr) M)
  refine rr_go hC bk_X11_goBack_0_3 (l' := [(0, .ref 0), (1, .int (nI i))]) (st' := [.int 1, .int 0, .int (nI i)]) (w' := (W_M (mv len fa hd dd sd sg es a wr) M)) rfl ?_
  refine rr_callS hC (by decide +kernel) kl_11_78 fX11_in (m_c_in (nI i) 0 1) rfl rfl [] rfl rfl (Eq.refl 0) rfl (rest := []) rfl rfl ⟨Nat.zero_le _, Nat.zero_le _⟩ (w2 := (W_M (mv len fa hd dd sd sg es a wr) M)) rfl ?_
  show rr_J Z 2 0 0 _ 6 [(0, .ref 0), (1, .int (nI i))] [.int (rr_b (m_in (nI i) 0 1))] (W_M (mv len fa hd dd sd sg es a wr) M)
  refine rr_neb hC (off := 6) (tgt := 12) (by decide +kernel) (fun h6 => ?_) (fun h6 => by  rw [m_in_yes (by rw [rr_nl_lt (b := 0) (by omega) (by omega)]; omega) (by rw [rr_ln_lt (a := 1) (by omega) (by omega)]; omega)] at h6; cases h6)
  refine rr_go hC bk_X11_goBack_12_17 (l' := [(0, .ref 0), (1, .int (nI i))]) (st' := [.int (nI i), .ref 15]) (w' := (W_M (mv len fa hd dd sd sg es a wr) M)) rfl ?_
  refine rr_zald hC i (by decide +kernel) rfl rfl (by omega) rfl ?_
  show rr_J Z 2 0 0 _ 18 [(0, .ref 0), (1, .int (nI i))] [.int (M 14 i)] (W_M (mv len fa hd dd sd sg es a wr) M)
  refine rr_if_ne hC (off := 6) (tgt := 24) (by decide +kernel) (fun h18 => ?_) (fun h18 => by  exact absurd h18 hk)
  refine rr_go hC bk_X11_goBack_24_39 (l' := [(0, .ref 0), (1, .int (nI i))]) (st' := [.int 22, .int 0, .ref 10, .int (22 * (nI i)), .ref 13]) (w' := (W_M (mv len fa hd dd sd sg es a wr) M)) rfl ?_
  rw [show (22 * (nI i) : Int32) = nI (22 * i) from pk_mul 22 i]
  refine rr_callS hC (by decide +kernel) kl_11_134 fX11_copies (m_copies44_22 (fun _ => M 12) (fun _ => M 9) (22 * i) 0 22 (by omega) (by omega)) rfl rfl [13, 10] rfl rfl (Eq.refl 2) rfl (rest := []) rfl rfl ⟨Nat.zero_le _, Nat.zero_le _⟩ (w2 := (W_M (mv len fa hd dd sd sg es a wr) (va_up M 9 (va_cpy (M 12) (M 9) (22 * i) 0 22)))) rfl ?_
  show rr_J Z 2 0 0 _ 42 [(0, .ref 0), (1, .int (nI i))] [] (W_M (mv len fa hd dd sd sg es a wr) (va_up M 9 (va_cpy (M 12) (M 9) (22 * i) 0 22)))
  refine rr_cast (l' := [(0, .ref 0), (1, .int (nI i))]) rfl (st' := []) rfl (w' := (W_M (mv len fa hd dd sd sg es a wr) (va_up M 9 (en r)))) (by rw [hq, en_cpr q hr]) ?_
  refine rr_go hC bk_X11_goBack_42_48 (l' := [(0, .ref 0), (1, .int (nI i))]) (st' := [.int (nI i), .ref 14, .ref 0]) (w' := (W_M (mv len fa hd dd sd sg es a wr) (va_up M 9 (en r)))) rfl ?_
  refine rr_iald hC i (by decide +kernel) rfl rfl (by omega) rfl ?_
  show rr_J Z 2 0 0 _ 49 [(0, .ref 0), (1, .int (nI i))] [.int (M 13 i), .ref 0] (W_M (mv len fa hd dd sd sg es a wr) (va_up M 9 (en r)))
  refine rr_go hC bk_X11_goBack_49_58 (l' := [(0, .ref 0), (1, .int (nI i))]) (st' := [.int 1]) (w' := (W_M (upd (upd (mv len fa hd dd sd sg es a wr) 4 (M 13 i)) 3 0) (va_up M 9 (en r)))) rfl ?_
  exact rr_reti hC (by decide +kernel) (by rfl) (by rfl) ⟨Nat.zero_le _, Nat.zero_le _⟩
