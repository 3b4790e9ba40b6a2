/-! the model: hoursOf -/
theorem bk_X11_hoursOf_0_4 : rr_chk mX11_hoursOf [(.iconst 0, 0, 0, 0), (.istore_n 2, 0, 2, 0), (.iconst 0, 0, 0, 0), (.istore_n 3, 0, 3, 0)] 0 4 = true := by decide +kernel
theorem bk_X11_hoursOf_4_11 : rr_chk mX11_hoursOf [(.iload_n 3, 0, 3, 0), (.aload_n 0, 0, 0, 0), (.getfield 17, 0, 11, 3), (.iconst 2, 2, 0, 0), (.iaload, 0, 2, 0)] 4 11 = true := by decide +kernel
theorem bk_X11_hoursOf_43_44 : rr_chk mX11_hoursOf [(.iload_n 2, 0, 2, 0)] 43 44 = true := by decide +kernel
theorem bk_X11_hoursOf_14_17 : rr_chk mX11_hoursOf [(.iload_n 2, 0, 2, 0), (.iload_n 1, 0, 1, 0), (.iload_n 3, 0, 3, 0)] 14 17 = true := by decide +kernel
theorem bk_X11_hoursOf_34_4 : rr_chk mX11_hoursOf [(.iconst 0, 0, 0, 0), (.iadd, 0, 0, 0), (.istore_n 2, 0, 2, 0), (.iinc 3 1, 1, 3, 0), (.goto (-36), 0, 0, 0)] 34 4 = true := by decide +kernel
theorem bk_X11_hoursOf_23_30 : rr_chk mX11_hoursOf [(.aload_n 0, 0, 0, 0), (.getfield 26, 0, 11, 6), (.iconst 4, 4, 0, 0), (.iload_n 3, 0, 3, 0), (.imul, 0, 0, 0)] 23 30 = true := by decide +kernel
theorem bk_X11_hoursOf_31_4 : rr_chk mX11_hoursOf [(.goto 4, 0, 0, 0), (.iadd, 0, 0, 0), (.istore_n 2, 0, 2, 0), (.iinc 3 1, 1, 3, 0), (.goto (-36), 0, 0, 0)] 31 4 = true := by decide +kernel
set_option maxRecDepth 100000 in
set_option maxHeartbeats 4000000 in
theorem m_hoursOf (p : Nat → Int32) (M : Nat → Nat → Int32) (tc wd cc kc : Nat) (G : Nat → Nat → Int32) (hG : m_G M G tc wd cc kc) (set : Int32) (htc : tc ≤ 12) (hcc : cc ≤ 9) (hkc : kc ≤ 6) : rr_C mX11_hoursOf 1 [.ref 0, .int set] (W_M p M) 0 0 (some (p_sum set (G 2) kc)) (W_M p M) := by
  refine rr_C.of (n := 1) fX11_hoursOf.1 rfl rfl (fun Z hC => ?_)
  show rr_J Z 4 0 0 (rr_MQ Z 0 0 (some (p_sum set (G 2) kc)) (W_M p M)) 0 [(0, .ref 0), (1, .int set)] [] (W_M p M)
  refine rr_go hC bk_X11_hoursOf_0_4 (l' := [(0, .ref 0), (1, .int set), (2, .int 0), (3, .int 0)]) (st' := []) (w' := (W_M p M)) rfl ?_
  have lp4 : ∀ (j k : Nat), k + j = kc → 0 ≤ k → rr_J Z 4 0 0 (rr_MQ Z 0 0 (some (p_sum set (G 2) kc)) (W_M p M)) 4 [(0, .ref 0), (1, .int set), (2, .int (p_sum set (G 2) k)), (3, .int (nI k))] [] (W_M p M) := by
    intro j
    induction j with
    | zero =>
      intro k hk4 hlo4
      refine rr_go hC bk_X11_hoursOf_4_11 (l' := [(0, .ref 0), (1, .int set), (2, .int (p_sum set (G 2) k)), (3, .int (nI k))]) (st' := [.int (M 1 2), .int (nI k)]) (w' := (W_M p M)) rfl ?_
      rw [show (M 1 2 : Int32) = nI kc from hG.2.2.1]
      refine rr_icmp_ge hC (off := 32) (tgt := 43) (by decide +kernel) (fun h11 => ?_) (fun h11 => by rw [rr_nn_le (by omega) (by omega)] at h11; omega)
      rw [rr_nn_le (by omega) (by omega)] at h11
      refine rr_go hC bk_X11_hoursOf_43_44 (l' := [(0, .ref 0), (1, .int set), (2, .int (p_sum set (G 2) k)), (3, .int (nI k))]) (st' := [.int (p_sum set (G 2) k)]) (w' := (W_M p M)) rfl ?_
      exact rr_reti hC (by decide +kernel) (by rw [show k = kc by omega]) (by rfl) ⟨Nat.zero_le _, Nat.zero_le _⟩
    | succ j ih =>
      intro k hk4 hlo4
      refine rr_go hC bk_X11_hoursOf_4_11 (l' := [(0, .ref 0), (1, .int set), (2, .int (p_sum set (G 2) k)), (3, .int (nI k))]) (st' := [.int (M 1 2), .int (nI k)]) (w' := (W_M p M)) rfl ?_
      rw [show (M 1 2 : Int32) = nI kc from hG.2.2.1]
      refine rr_icmp_ge hC (off := 32) (tgt := 43) (by decide +kernel) (fun h11 => by rw [rr_nn_le (by omega) (by omega)] at h11; omega) (fun h11 => ?_)
      rw [rr_nn_le (by omega) (by omega)] at h11
      refine rr_go hC bk_X11_hoursOf_14_17 (l' := [(0, .ref 0), (1, .int set), (2, .int (p_sum set (G 2) k)), (3, .int (nI k))]) (st' := [.int (nI k), .int set, .int (p_sum set (G 2) k)]) (w' := (W_M p M)) rfl ?_
      refine rr_callS hC (by decide +kernel) kl_11_159 fX11_has (m_c_has set (nI k)) rfl rfl [] rfl rfl (Eq.refl 0) rfl (rest := [.int (p_sum set (G 2) k)]) rfl rfl ⟨Nat.zero_le _, Nat.zero_le _⟩ (w2 := (W_M p M)) rfl ?_
      show rr_J Z 4 0 0 _ 20 [(0, .ref 0), (1, .int set), (2, .int (p_sum set (G 2) k)), (3, .int (nI k))] [.int (rr_b (m_has set (nI k))), .int (p_sum set (G 2) k)] (W_M p M)
      refine rr_eqb hC (off := 14) (tgt := 34) (by decide +kernel) (fun h20 => ?_) (fun h20 => ?_)
      · refine rr_go hC bk_X11_hoursOf_34_4 (l' := [(0, .ref 0), (1, .int set), (2, .int ((p_sum set (G 2) k) + 0)), (3, .int ((nI k) + 1))]) (st' := []) (w' := (W_M p M)) rfl ?_
        rw [show ((nI k) + 1 : Int32) = nI (k + 1) from nI_add k 1]
        exact rr_cast (l' := [(0, .ref 0), (1, .int set), (2, .int (p_sum set (G 2) (k + 1))), (3, .int (nI (k + 1)))]) (by first | (rw [show p_sum set (G 2) (k + 1) = p_sum set (G 2) k + G 2 k from if_neg (by rw [m_has_p] at h20; simpa using h20)]; done) | (rw [Int32.add_zero, show p_sum set (G 2) (k + 1) = p_sum set (G 2) k from if_pos (by rw [m_has_p] at h20; simpa using h20)]; done)) rfl (w' := (W_M p M)) (by rfl) (ih (k + 1) (by omega) (by omega))
      · refine rr_go hC bk_X11_hoursOf_23_30 (l' := [(0, .ref 0), (1, .int set), (2, .int (p_sum set (G 2) k)), (3, .int (nI k))]) (st' := [.int (4 * (nI k)), .ref 5, .int (p_sum set (G 2) k)]) (w' := (W_M p M)) rfl ?_
        rw [show (4 * (nI k) : Int32) = nI (4 * k) from pk_mul 4 k]
        refine rr_iald hC (4 * k) (by decide +kernel) rfl rfl (by omega) rfl ?_
        show rr_J Z 4 0 0 _ 31 [(0, .ref 0), (1, .int set), (2, .int (p_sum set (G 2) k)), (3, .int (nI k))] [.int (M 4 (4 * k)), .int (p_sum set (G 2) k)] (W_M p M)
        rw [(hG.2.2.2.2.2.2 k (show k < kc by omega)).1]
        refine rr_go hC bk_X11_hoursOf_31_4 (l' := [(0, .ref 0), (1, .int set), (2, .int ((p_sum set (G 2) k) + (G 2 k))), (3, .int ((nI k) + 1))]) (st' := []) (w' := (W_M p M)) rfl ?_
        rw [show ((nI k) + 1 : Int32) = nI (k + 1) from nI_add k 1]
        exact rr_cast (l' := [(0, .ref 0), (1, .int set), (2, .int (p_sum set (G 2) (k + 1))), (3, .int (nI (k + 1)))]) (by first | (rw [show p_sum set (G 2) (k + 1) = p_sum set (G 2) k + G 2 k from if_neg (by rw [m_has_p] at h20; simpa using h20)]; done) | (rw [Int32.add_zero, show p_sum set (G 2) (k + 1) = p_sum set (G 2) k from if_pos (by rw [m_has_p] at h20; simpa using h20)]; done)) rfl (w' := (W_M p M)) (by rfl) (ih (k + 1) (by omega) (by omega))
  exact rr_cast (l' := [(0, .ref 0), (1, .int set), (2, .int (p_sum set (G 2) 0)), (3, .int (nI 0))]) (by first | rfl | (rfl)) rfl (w' := (W_M p M)) (by rfl) (lp4 (kc - 0) 0 (by omega) (Nat.le_refl _))
