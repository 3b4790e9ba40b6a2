/-! the model's strand: law 1, tides 2, heights 3, clauses 4 -/
def m_G (M G : Nat → Nat → Int32) (tc wd cc kc : Nat) : Prop := M 1 0 = nI tc ∧ M 1 1 = nI cc ∧ M 1 2 = nI kc ∧ M 1 3 = nI wd ∧ (∀ i, i < tc → M 2 i = G 0 i) ∧ (∀ c, c < cc → M 3 c = G 1 c) ∧ (∀ k, k < kc → M 4 (4 * k) = G 2 k ∧ M 4 ((4 * k) + 1) = G 3 k ∧ M 4 ((4 * k) + 2) = G 4 k + 10 ∧ M 4 ((4 * k) + 3) = G 5 k + 10)
theorem m_in_p {k : Int32} {n : Nat} (hn : n < 100000) : m_in k 0 (nI n - 1) = p_in k (nI n) := by
  unfold m_in p_in
  have e : nI n - 1 < k ↔ nI n ≤ k := by
    rw [Int32.lt_iff_toInt_lt, Int32.le_iff_toInt_le, show (1 : Int32) = nI 1 from rfl, pk_sub_toInt (by omega) (by omega), nI_toInt (by omega)]
    omega
  simp only [e]
theorem m_set_p {k : Int32} {n : Nat} (hn : n ≤ 6) : m_in k 0 (((1 : Int32) <<< (nI n &&& 31)) - 1) = p_in k ((1 : Int32) <<< (nI n &&& 31)) := by
  rw [p_sl1 n (by omega)]
  have : 2 ^ n ≤ 2 ^ 6 := Nat.pow_le_pow_right (by decide) hn
  exact m_in_p (by omega)
theorem p_or0 (x : Int32) : x ||| 0 = x := by
  apply Int32.toBitVec_inj.mp
  simp
theorem bk_X11_isStrand_0_6 : rr_chk mX11_isStrand [(.aload_n 0, 0, 0, 0), (.getfield 17, 0, 11, 3), (.iconst 0, 0, 0, 0), (.iaload, 0, 0, 0)] 0 6 = true := by decide +kernel
theorem bk_X11_isStrand_13_14 : rr_chk mX11_isStrand [(.iconst 0, 0, 0, 0)] 13 14 = true := by decide +kernel
theorem bk_X11_isStrand_9_14 : rr_chk mX11_isStrand [(.iconst 1, 1, 0, 0), (.goto 4, 0, 0, 0)] 9 14 = true := by decide +kernel
set_option maxRecDepth 100000 in
set_option maxHeartbeats 4000000 in
theorem m_isStrand (p : Nat → Int32) (M : Nat → Nat → Int32) (tc wd cc kc : Nat) (G : Nat → Nat → Int32) (hG : m_G M G tc wd cc kc) (htc : tc ≤ 12) (hcc : cc ≤ 9) (hkc : kc ≤ 6) : rr_C mX11_isStrand 0 [.ref 0] (W_M p M) 0 0 (some (rr_b (decide (0 < tc)))) (W_M p M) := by
  refine rr_C.of (n := 0) fX11_isStrand.1 rfl rfl (fun Z hC => ?_)
  show rr_J Z 1 0 0 (rr_MQ Z 0 0 (some (rr_b (decide (0 < tc)))) (W_M p M)) 0 [(0, .ref 0)] [] (W_M p M)
  refine rr_go hC bk_X11_isStrand_0_6 (l' := [(0, .ref 0)]) (st' := [.int (M 1 0)]) (w' := (W_M p M)) rfl ?_
  rw [show (M 1 0 : Int32) = nI tc from hG.1]
  refine rr_if_le hC (off := 7) (tgt := 13) (by decide +kernel) (fun h6 => ?_) (fun h6 => ?_)
  · rw [rr_nl_le (b := 0) (by omega) (by omega)] at h6
    refine rr_go hC bk_X11_isStrand_13_14 (l' := [(0, .ref 0)]) (st' := [.int 0]) (w' := (W_M p M)) rfl ?_
    exact rr_retz hC (by decide +kernel) (Or.inl rfl) (by first | (rw [decide_eq_true (show 0 < tc by omega)]; rfl) | (rw [decide_eq_false (show ¬ 0 < tc by omega)]; rfl)) (by rfl) ⟨Nat.zero_le _, Nat.zero_le _⟩
  · rw [rr_nl_le (b := 0) (by omega) (by omega)] at h6
    refine rr_go hC bk_X11_isStrand_9_14 (l' := [(0, .ref 0)]) (st' := [.int 1]) (w' := (W_M p M)) rfl ?_
    exact rr_retz hC (by decide +kernel) (Or.inr rfl) (by first | (rw [decide_eq_true (show 0 < tc by omega)]; rfl) | (rw [decide_eq_false (show ¬ 0 < tc by omega)]; rfl)) (by rfl) ⟨Nat.zero_le _, Nat.zero_le _⟩
theorem bk_X11_isCell_0_10 : rr_chk mX11_isCell [(.iload_n 1, 0, 1, 0), (.iconst 0, 0, 0, 0), (.aload_n 0, 0, 0, 0), (.getfield 17, 0, 11, 3), (.iconst 1, 1, 0, 0), (.iaload, 0, 1, 0), (.iconst 1, 1, 0, 0), (.isub, 0, 0, 0)] 0 10 = true := by decide +kernel
set_option maxRecDepth 100000 in
set_option maxHeartbeats 4000000 in
theorem m_isCell (p : Nat → Int32) (M : Nat → Nat → Int32) (tc wd cc kc : Nat) (G : Nat → Nat → Int32) (hG : m_G M G tc wd cc kc) (k : Int32) (htc : tc ≤ 12) (hcc : cc ≤ 9) (hkc : kc ≤ 6) : rr_C mX11_isCell 1 [.ref 0, .int k] (W_M p M) 0 0 (some (rr_b (p_in k (nI cc)))) (W_M p M) := by
  refine rr_C.of (n := 1) fX11_isCell.1 rfl rfl (fun Z hC => ?_)
  show rr_J Z 2 0 0 (rr_MQ Z 0 0 (some (rr_b (p_in k (nI cc)))) (W_M p M)) 0 [(0, .ref 0), (1, .int k)] [] (W_M p M)
  refine rr_go hC bk_X11_isCell_0_10 (l' := [(0, .ref 0), (1, .int k)]) (st' := [.int ((M 1 1) - 1), .int 0, .int k]) (w' := (W_M p M)) rfl ?_
  refine rr_callS hC (by decide +kernel) kl_11_78 fX11_in (m_c_in k 0 ((M 1 1) - 1)) rfl rfl [] rfl rfl (Eq.refl 0) rfl (rest := []) rfl rfl ⟨Nat.zero_le _, Nat.zero_le _⟩ (w2 := (W_M p M)) rfl ?_
  show rr_J Z 2 0 0 _ 13 [(0, .ref 0), (1, .int k)] [.int (rr_b (m_in k 0 ((M 1 1) - 1)))] (W_M p M)
  exact rr_retz hC (by decide +kernel) (rr_b01 _) (by rw [hG.2.1, m_in_p (by omega)]) (by rfl) ⟨Nat.zero_le _, Nat.zero_le _⟩
theorem bk_X11_isClause_0_10 : rr_chk mX11_isClause [(.iload_n 1, 0, 1, 0), (.iconst 0, 0, 0, 0), (.aload_n 0, 0, 0, 0), (.getfield 17, 0, 11, 3), (.iconst 2, 2, 0, 0), (.iaload, 0, 2, 0), (.iconst 1, 1, 0, 0), (.isub, 0, 0, 0)] 0 10 = true := by decide +kernel
set_option maxRecDepth 100000 in
set_option maxHeartbeats 4000000 in
theorem m_isClause (p : Nat → Int32) (M : Nat → Nat → Int32) (tc wd cc kc : Nat) (G : Nat → Nat → Int32) (hG : m_G M G tc wd cc kc) (k : Int32) (htc : tc ≤ 12) (hcc : cc ≤ 9) (hkc : kc ≤ 6) : rr_C mX11_isClause 1 [.ref 0, .int k] (W_M p M) 0 0 (some (rr_b (p_in k (nI kc)))) (W_M p M) := by
  refine rr_C.of (n := 1) fX11_isClause.1 rfl rfl (fun Z hC => ?_)
  show rr_J Z 2 0 0 (rr_MQ Z 0 0 (some (rr_b (p_in k (nI kc)))) (W_M p M)) 0 [(0, .ref 0), (1, .int k)] [] (W_M p M)
  refine rr_go hC bk_X11_isClause_0_10 (l' := [(0, .ref 0), (1, .int k)]) (st' := [.int ((M 1 2) - 1), .int 0, .int k]) (w' := (W_M p M)) rfl ?_
  refine rr_callS hC (by decide +kernel) kl_11_78 fX11_in (m_c_in k 0 ((M 1 2) - 1)) rfl rfl [] rfl rfl (Eq.refl 0) rfl (rest := []) rfl rfl ⟨Nat.zero_le _, Nat.zero_le _⟩ (w2 := (W_M p M)) rfl ?_
  show rr_J Z 2 0 0 _ 13 [(0, .ref 0), (1, .int k)] [.int (rr_b (m_in k 0 ((M 1 2) - 1)))] (W_M p M)
  exact rr_retz hC (by decide +kernel) (rr_b01 _) (by rw [hG.2.2.1, m_in_p (by omega)]) (by rfl) ⟨Nat.zero_le _, Nat.zero_le _⟩
theorem bk_X11_areClauses_0_12 : rr_chk mX11_areClauses [(.iload_n 1, 0, 1, 0), (.iconst 0, 0, 0, 0), (.iconst 1, 1, 0, 0), (.aload_n 0, 0, 0, 0), (.getfield 17, 0, 11, 3), (.iconst 2, 2, 0, 0), (.iaload, 0, 2, 0), (.ishl, 0, 0, 0), (.iconst 1, 1, 0, 0), (.isub, 0, 0, 0)] 0 12 = true := by decide +kernel
set_option maxRecDepth 100000 in
set_option maxHeartbeats 4000000 in
theorem m_areClauses (p : Nat → Int32) (M : Nat → Nat → Int32) (tc wd cc kc : Nat) (G : Nat → Nat → Int32) (hG : m_G M G tc wd cc kc) (k : Int32) (htc : tc ≤ 12) (hcc : cc ≤ 9) (hkc : kc ≤ 6) : rr_C mX11_areClauses 1 [.ref 0, .int k] (W_M p M) 0 0 (some (rr_b (p_in k ((1 : Int32) <<< (nI kc &&& 31))))) (W_M p M) := by
  refine rr_C.of (n := 1) fX11_areClauses.1 rfl rfl (fun Z hC => ?_)
  show rr_J Z 2 0 0 (rr_MQ Z 0 0 (some (rr_b (p_in k ((1 : Int32) <<< (nI kc &&& 31))))) (W_M p M)) 0 [(0, .ref 0), (1, .int k)] [] (W_M p M)
  refine rr_go hC bk_X11_areClauses_0_12 (l' := [(0, .ref 0), (1, .int k)]) (st' := [.int ((1 <<< (M 1 2 &&& 31)) - 1), .int 0, .int k]) (w' := (W_M p M)) rfl ?_
  refine rr_callS hC (by decide +kernel) kl_11_78 fX11_in (m_c_in k 0 ((1 <<< (M 1 2 &&& 31)) - 1)) rfl rfl [] rfl rfl (Eq.refl 0) rfl (rest := []) rfl rfl ⟨Nat.zero_le _, Nat.zero_le _⟩ (w2 := (W_M p M)) rfl ?_
  show rr_J Z 2 0 0 _ 15 [(0, .ref 0), (1, .int k)] [.int (rr_b (m_in k 0 ((1 <<< (M 1 2 &&& 31)) - 1)))] (W_M p M)
  exact rr_retz hC (by decide +kernel) (rr_b01 _) (by rw [hG.2.2.1, m_set_p (by omega)]) (by rfl) ⟨Nat.zero_le _, Nat.zero_le _⟩
theorem bk_X11_tideAt_0_11 : rr_chk mX11_tideAt [(.aload_n 0, 0, 0, 0), (.getfield 20, 0, 11, 4), (.iload_n 1, 0, 1, 0), (.aload_n 0, 0, 0, 0), (.getfield 17, 0, 11, 3), (.iconst 0, 0, 0, 0), (.iaload, 0, 0, 0)] 0 11 = true := by decide +kernel
set_option maxRecDepth 100000 in
set_option maxHeartbeats 4000000 in
theorem m_tideAt (p : Nat → Int32) (M : Nat → Nat → Int32) (tc wd cc kc : Nat) (G : Nat → Nat → Int32) (hG : m_G M G tc wd cc kc) (h : Nat) (htc : tc ≤ 12) (hcc : cc ≤ 9) (hkc : kc ≤ 6) (ht : 0 < tc) (hh : h < 100000) : rr_C mX11_tideAt 0 [.ref 0, .int (nI h)] (W_M p M) 0 0 (some (p_tide (G 0) tc h)) (W_M p M) := by
  refine rr_C.of (n := 1) fX11_tideAt.1 rfl rfl (fun Z hC => ?_)
  show rr_J Z 2 0 0 (rr_MQ Z 0 0 (some (p_tide (G 0) tc h)) (W_M p M)) 0 [(0, .ref 0), (1, .int (nI h))] [] (W_M p M)
  refine rr_go hC bk_X11_tideAt_0_11 (l' := [(0, .ref 0), (1, .int (nI h))]) (st' := [.int (M 1 0), .int (nI h), .ref 3]) (w' := (W_M p M)) rfl ?_
  rw [show (M 1 0 : Int32) = nI tc from hG.1]
  refine rr_irem hC (by decide +kernel) (by rw [rr_nl_eq (b := 0) (by omega) (by omega)]; omega) ?_
  rw [rr_remn (d := tc) (by omega) (by omega) (by omega)]
  show rr_J Z 2 0 0 _ 12 [(0, .ref 0), (1, .int (nI h))] [.int (nI (h % tc)), .ref 3] (W_M p M)
  refine rr_iald hC (h % tc) (by decide +kernel) rfl rfl (Nat.lt_of_lt_of_le (Nat.mod_lt _ (by omega)) htc) rfl ?_
  show rr_J Z 2 0 0 _ 13 [(0, .ref 0), (1, .int (nI h))] [.int (M 2 (h % tc))] (W_M p M)
  exact rr_reti hC (by decide +kernel) (by unfold p_tide; rw [if_neg (by omega)]; exact hG.2.2.2.2.1 _ (Nat.mod_lt _ (by omega))) (by rfl) ⟨Nat.zero_le _, Nat.zero_le _⟩
theorem bk_X11_isWet_0_2 : rr_chk mX11_isWet [(.aload_n 0, 0, 0, 0), (.iload_n 2, 0, 2, 0)] 0 2 = true := by decide +kernel
theorem bk_X11_isWet_5_10 : rr_chk mX11_isWet [(.aload_n 0, 0, 0, 0), (.getfield 23, 0, 11, 5), (.iload_n 1, 0, 1, 0)] 5 10 = true := by decide +kernel
theorem bk_X11_isWet_18_19 : rr_chk mX11_isWet [(.iconst 0, 0, 0, 0)] 18 19 = true := by decide +kernel
theorem bk_X11_isWet_14_19 : rr_chk mX11_isWet [(.iconst 1, 1, 0, 0), (.goto 4, 0, 0, 0)] 14 19 = true := by decide +kernel
set_option maxRecDepth 100000 in
set_option maxHeartbeats 4000000 in
theorem m_isWet (p : Nat → Int32) (M : Nat → Nat → Int32) (tc wd cc kc : Nat) (G : Nat → Nat → Int32) (hG : m_G M G tc wd cc kc) (c h : Nat) (htc : tc ≤ 12) (hcc : cc ≤ 9) (hkc : kc ≤ 6) (ht : 0 < tc) (hc : c < cc) (hh : h < 100000) : rr_C mX11_isWet 1 [.ref 0, .int (nI c), .int (nI h)] (W_M p M) 0 0 (some (rr_b (p_wet G tc c h))) (W_M p M) := by
  refine rr_C.of (n := 2) fX11_isWet.1 rfl rfl (fun Z hC => ?_)
  show rr_J Z 3 0 0 (rr_MQ Z 0 0 (some (rr_b (p_wet G tc c h))) (W_M p M)) 0 [(0, .ref 0), (1, .int (nI c)), (2, .int (nI h))] [] (W_M p M)
  refine rr_go hC bk_X11_isWet_0_2 (l' := [(0, .ref 0), (1, .int (nI c)), (2, .int (nI h))]) (st' := [.int (nI h), .ref 0]) (w' := (W_M p M)) rfl ?_
  refine rr_callVI hC (by decide +kernel) kl_11_147 fX11_tideAt (m_tideAt p M tc wd cc kc G hG h (by omega) (by omega) (by omega) (by omega) (by omega)) rfl rfl rfl rfl rfl (rest := []) rfl rfl ⟨Nat.zero_le _, Nat.zero_le _⟩ (Eq.refl 22) ?_
  show rr_J Z 3 0 0 _ 5 [(0, .ref 0), (1, .int (nI c)), (2, .int (nI h))] [.int (p_tide (G 0) tc h)] (W_M p M)
  refine rr_go hC bk_X11_isWet_5_10 (l' := [(0, .ref 0), (1, .int (nI c)), (2, .int (nI h))]) (st' := [.int (nI c), .ref 4, .int (p_tide (G 0) tc h)]) (w' := (W_M p M)) rfl ?_
  refine rr_iald hC c (by decide +kernel) rfl rfl (by omega) rfl ?_
  show rr_J Z 3 0 0 _ 11 [(0, .ref 0), (1, .int (nI c)), (2, .int (nI h))] [.int (M 3 c), .int (p_tide (G 0) tc h)] (W_M p M)
  refine rr_icmp_lt hC (off := 7) (tgt := 18) (by decide +kernel) (fun h11 => ?_) (fun h11 => ?_)
  · refine rr_go hC bk_X11_isWet_18_19 (l' := [(0, .ref 0), (1, .int (nI c)), (2, .int (nI h))]) (st' := [.int 0]) (w' := (W_M p M)) rfl ?_
    exact rr_retz hC (by decide +kernel) (Or.inl rfl) (by unfold p_wet; rw [← hG.2.2.2.2.2.1 c hc]; first | (rw [decide_eq_true h11]; rfl) | (rw [decide_eq_false h11]; rfl)) (by rfl) ⟨Nat.zero_le _, Nat.zero_le _⟩
  · refine rr_go hC bk_X11_isWet_14_19 (l' := [(0, .ref 0), (1, .int (nI c)), (2, .int (nI h))]) (st' := [.int 1]) (w' := (W_M p M)) rfl ?_
    exact rr_retz hC (by decide +kernel) (Or.inr rfl) (by unfold p_wet; rw [← hG.2.2.2.2.2.1 c hc]; first | (rw [decide_eq_true h11]; rfl) | (rw [decide_eq_false h11]; rfl)) (by rfl) ⟨Nat.zero_le _, Nat.zero_le _⟩
theorem bk_X11_wetAt_0_4 : rr_chk mX11_wetAt [(.iconst 0, 0, 0, 0), (.istore_n 2, 0, 2, 0), (.iconst 0, 0, 0, 0), (.istore_n 3, 0, 3, 0)] 0 4 = true := by decide +kernel
theorem bk_X11_wetAt_4_11 : rr_chk mX11_wetAt [(.iload_n 3, 0, 3, 0), (.aload_n 0, 0, 0, 0), (.getfield 17, 0, 11, 3), (.iconst 1, 1, 0, 0), (.iaload, 0, 1, 0)] 4 11 = true := by decide +kernel
theorem bk_X11_wetAt_39_40 : rr_chk mX11_wetAt [(.iload_n 2, 0, 2, 0)] 39 40 = true := by decide +kernel
theorem bk_X11_wetAt_14_18 : rr_chk mX11_wetAt [(.iload_n 2, 0, 2, 0), (.aload_n 0, 0, 0, 0), (.iload_n 3, 0, 3, 0), (.iload_n 1, 0, 1, 0)] 14 18 = true := by decide +kernel
theorem bk_X11_wetAt_30_4 : rr_chk mX11_wetAt [(.iconst 0, 0, 0, 0), (.ior, 0, 0, 0), (.istore_n 2, 0, 2, 0), (.iinc 3 1, 1, 3, 0), (.goto (-32), 0, 0, 0)] 30 4 = true := by decide +kernel
theorem bk_X11_wetAt_24_4 : rr_chk mX11_wetAt [(.iconst 1, 1, 0, 0), (.iload_n 3, 0, 3, 0), (.ishl, 0, 0, 0), (.goto 4, 0, 0, 0), (.ior, 0, 0, 0), (.istore_n 2, 0, 2, 0), (.iinc 3 1, 1, 3, 0), (.goto (-32), 0, 0, 0)] 24 4 = true := by decide +kernel
set_option maxRecDepth 100000 in
set_option maxHeartbeats 4000000 in
theorem m_wetAt (p : Nat → Int32) (M : Nat → Nat → Int32) (tc wd cc kc : Nat) (G : Nat → Nat → Int32) (hG : m_G M G tc wd cc kc) (h : Nat) (htc : tc ≤ 12) (hcc : cc ≤ 9) (hkc : kc ≤ 6) (ht : 0 < tc) (hh : h < 100000) : rr_C mX11_wetAt 2 [.ref 0, .int (nI h)] (W_M p M) 0 0 (some (p_wets G tc h cc)) (W_M p M) := by
  refine rr_C.of (n := 1) fX11_wetAt.1 rfl rfl (fun Z hC => ?_)
  show rr_J Z 4 0 0 (rr_MQ Z 0 0 (some (p_wets G tc h cc)) (W_M p M)) 0 [(0, .ref 0), (1, .int (nI h))] [] (W_M p M)
  refine rr_go hC bk_X11_wetAt_0_4 (l' := [(0, .ref 0), (1, .int (nI h)), (2, .int 0), (3, .int 0)]) (st' := []) (w' := (W_M p M)) rfl ?_
  have lp4 : ∀ (j c : Nat), c + j = cc → 0 ≤ c → rr_J Z 4 0 0 (rr_MQ Z 0 0 (some (p_wets G tc h cc)) (W_M p M)) 4 [(0, .ref 0), (1, .int (nI h)), (2, .int (p_wets G tc h c)), (3, .int (nI c))] [] (W_M p M) := by
    intro j
    induction j with
    | zero =>
      intro c hk4 hlo4
      refine rr_go hC bk_X11_wetAt_4_11 (l' := [(0, .ref 0), (1, .int (nI h)), (2, .int (p_wets G tc h c)), (3, .int (nI c))]) (st' := [.int (M 1 1), .int (nI c)]) (w' := (W_M p M)) rfl ?_
      rw [show (M 1 1 : Int32) = nI cc from hG.2.1]
      refine rr_icmp_ge hC (off := 28) (tgt := 39) (by decide +kernel) (fun h11 => ?_) (fun h11 => by rw [rr_nn_le (by omega) (by omega)] at h11; omega)
      rw [rr_nn_le (by omega) (by omega)] at h11
      refine rr_go hC bk_X11_wetAt_39_40 (l' := [(0, .ref 0), (1, .int (nI h)), (2, .int (p_wets G tc h c)), (3, .int (nI c))]) (st' := [.int (p_wets G tc h c)]) (w' := (W_M p M)) rfl ?_
      exact rr_reti hC (by decide +kernel) (by rw [show c = cc by omega]) (by rfl) ⟨Nat.zero_le _, Nat.zero_le _⟩
    | succ j ih =>
      intro c hk4 hlo4
      refine rr_go hC bk_X11_wetAt_4_11 (l' := [(0, .ref 0), (1, .int (nI h)), (2, .int (p_wets G tc h c)), (3, .int (nI c))]) (st' := [.int (M 1 1), .int (nI c)]) (w' := (W_M p M)) rfl ?_
      rw [show (M 1 1 : Int32) = nI cc from hG.2.1]
      refine rr_icmp_ge hC (off := 28) (tgt := 39) (by decide +kernel) (fun h11 => by rw [rr_nn_le (by omega) (by omega)] at h11; omega) (fun h11 => ?_)
      rw [rr_nn_le (by omega) (by omega)] at h11
      refine rr_go hC bk_X11_wetAt_14_18 (l' := [(0, .ref 0), (1, .int (nI h)), (2, .int (p_wets G tc h c)), (3, .int (nI c))]) (st' := [.int (nI h), .int (nI c), .ref 0, .int (p_wets G tc h c)]) (w' := (W_M p M)) rfl ?_
      refine rr_callVI hC (by decide +kernel) kl_11_151 fX11_isWet (m_isWet p M tc wd cc kc G hG c h (by omega) (by omega) (by omega) (by omega) (by omega) (by omega)) rfl rfl rfl rfl rfl (rest := [.int (p_wets G tc h c)]) rfl rfl ⟨Nat.zero_le _, Nat.zero_le _⟩ (Eq.refl 22) ?_
      show rr_J Z 4 0 0 _ 21 [(0, .ref 0), (1, .int (nI h)), (2, .int (p_wets G tc h c)), (3, .int (nI c))] [.int (rr_b (p_wet G tc c h)), .int (p_wets G tc h c)] (W_M p M)
      refine rr_eqb hC (off := 9) (tgt := 30) (by decide +kernel) (fun h21 => ?_) (fun h21 => ?_)
      · refine rr_go hC bk_X11_wetAt_30_4 (l' := [(0, .ref 0), (1, .int (nI h)), (2, .int ((p_wets G tc h c) ||| 0)), (3, .int ((nI c) + 1))]) (st' := []) (w' := (W_M p M)) rfl ?_
        rw [show ((nI c) + 1 : Int32) = nI (c + 1) from nI_add c 1]
        exact rr_cast (l' := [(0, .ref 0), (1, .int (nI h)), (2, .int (p_wets G tc h (c + 1))), (3, .int (nI (c + 1)))]) (by simp [p_wets, p_or0, *]) rfl (w' := (W_M p M)) (by rfl) (ih (c + 1) (by omega) (by omega))
      · refine rr_go hC bk_X11_wetAt_24_4 (l' := [(0, .ref 0), (1, .int (nI h)), (2, .int ((p_wets G tc h c) ||| (1 <<< (nI c &&& 31)))), (3, .int ((nI c) + 1))]) (st' := []) (w' := (W_M p M)) rfl ?_
        rw [show ((nI c) + 1 : Int32) = nI (c + 1) from nI_add c 1]
        exact rr_cast (l' := [(0, .ref 0), (1, .int (nI h)), (2, .int (p_wets G tc h (c + 1))), (3, .int (nI (c + 1)))]) (by simp [p_wets, p_or0, *]) rfl (w' := (W_M p M)) (by rfl) (ih (c + 1) (by omega) (by omega))
  exact rr_cast (l' := [(0, .ref 0), (1, .int (nI h)), (2, .int (p_wets G tc h 0)), (3, .int (nI 0))]) (by first | rfl | (rfl)) rfl (w' := (W_M p M)) (by rfl) (lp4 (cc - 0) 0 (by omega) (Nat.le_refl _))
