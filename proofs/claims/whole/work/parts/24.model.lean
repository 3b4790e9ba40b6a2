/-! the model: worth, mayBe -/
theorem p_a10 (x : Int32) : (x + 10) - 10 = x := by simp
theorem p_i0 {x : Int32} : x + 1 = 0 ↔ x = -1 := by
  have e : (0 : Int32) = (-1) + 1 := by decide
  rw [e]
  exact p_i1
def m_may (q : p_Q) (G : Nat → Nat → Int32) (tc k c : Nat) : Bool := decide (q.2.2.2.2 0 k = -1) && (!p_wet G tc c q.1 && decide (p_cin (q.2.2.2.2 0) (nI c) 0 6 = -1))
theorem bk_X11_worth_0_5 : rr_chk mX11_worth [(.iconst 0, 0, 0, 0), (.istore_n 3, 0, 3, 0), (.iconst 0, 0, 0, 0), (.istore 4, 0, 4, 0)] 0 5 = true := by decide +kernel
theorem bk_X11_worth_5_13 : rr_chk mX11_worth [(.iload 4, 0, 4, 0), (.aload_n 0, 0, 0, 0), (.getfield 17, 0, 11, 3), (.iconst 2, 2, 0, 0), (.iaload, 0, 2, 0)] 5 13 = true := by decide +kernel
theorem bk_X11_worth_54_55 : rr_chk mX11_worth [(.iload_n 3, 0, 3, 0)] 54 55 = true := by decide +kernel
theorem bk_X11_worth_16_20 : rr_chk mX11_worth [(.iload_n 3, 0, 3, 0), (.iload_n 1, 0, 1, 0), (.iload 4, 0, 4, 0)] 16 20 = true := by decide +kernel
theorem bk_X11_worth_45_5 : rr_chk mX11_worth [(.iconst 0, 0, 0, 0), (.iadd, 0, 0, 0), (.istore_n 3, 0, 3, 0), (.iinc 4 1, 1, 4, 0), (.goto (-46), 0, 0, 0)] 45 5 = true := by decide +kernel
theorem bk_X11_worth_26_38 : rr_chk mX11_worth [(.aload_n 0, 0, 0, 0), (.getfield 26, 0, 11, 6), (.iconst 4, 4, 0, 0), (.iload 4, 0, 4, 0), (.imul, 0, 0, 0), (.iconst 2, 2, 0, 0), (.iadd, 0, 0, 0), (.iload_n 2, 0, 2, 0), (.iadd, 0, 0, 0)] 26 38 = true := by decide +kernel
theorem bk_X11_worth_39_5 : rr_chk mX11_worth [(.bipush 10, 10, 0, 0), (.isub, 0, 0, 0), (.goto 4, 0, 0, 0), (.iadd, 0, 0, 0), (.istore_n 3, 0, 3, 0), (.iinc 4 1, 1, 4, 0), (.goto (-46), 0, 0, 0)] 39 5 = true := by decide +kernel
set_option maxRecDepth 100000 in
set_option maxHeartbeats 4000000 in
theorem m_worth0 (p : Nat → Int32) (M : Nat → Nat → Int32) (tc wd cc kc : Nat) (G : Nat → Nat → Int32) (hG : m_G M G tc wd cc kc) (set : Int32) (htc : tc ≤ 12) (hcc : cc ≤ 9) (hkc : kc ≤ 6) : rr_C mX11_worth 1 [.ref 0, .int set, .int 0] (W_M p M) 0 0 (some (p_sum set (G 4) kc)) (W_M p M) := by
  refine rr_C.of (n := 2) fX11_worth.1 rfl rfl (fun Z hC => ?_)
  show rr_J Z 5 0 0 (rr_MQ Z 0 0 (some (p_sum set (G 4) kc)) (W_M p M)) 0 [(0, .ref 0), (1, .int set), (2, .int 0)] [] (W_M p M)
  refine rr_go hC bk_X11_worth_0_5 (l' := [(0, .ref 0), (1, .int set), (2, .int 0), (3, .int 0), (4, .int 0)]) (st' := []) (w' := (W_M p M)) rfl ?_
  have lp5 : ∀ (j k : Nat), k + j = kc → 0 ≤ k → rr_J Z 5 0 0 (rr_MQ Z 0 0 (some (p_sum set (G 4) kc)) (W_M p M)) 5 [(0, .ref 0), (1, .int set), (2, .int 0), (3, .int (p_sum set (G 4) k)), (4, .int (nI k))] [] (W_M p M) := by
    intro j
    induction j with
    | zero =>
      intro k hk5 hlo5
      refine rr_go hC bk_X11_worth_5_13 (l' := [(0, .ref 0), (1, .int set), (2, .int 0), (3, .int (p_sum set (G 4) k)), (4, .int (nI k))]) (st' := [.int (M 1 2), .int (nI k)]) (w' := (W_M p M)) rfl ?_
      rw [show (M 1 2 : Int32) = nI kc from hG.2.2.1]
      refine rr_icmp_ge hC (off := 41) (tgt := 54) (by decide +kernel) (fun h13 => ?_) (fun h13 => by rw [rr_nn_le (by omega) (by omega)] at h13; omega)
      rw [rr_nn_le (by omega) (by omega)] at h13
      refine rr_go hC bk_X11_worth_54_55 (l' := [(0, .ref 0), (1, .int set), (2, .int 0), (3, .int (p_sum set (G 4) k)), (4, .int (nI k))]) (st' := [.int (p_sum set (G 4) k)]) (w' := (W_M p M)) rfl ?_
      exact rr_reti hC (by decide +kernel) (by rw [show k = kc by omega]) (by rfl) ⟨Nat.zero_le _, Nat.zero_le _⟩
    | succ j ih =>
      intro k hk5 hlo5
      refine rr_go hC bk_X11_worth_5_13 (l' := [(0, .ref 0), (1, .int set), (2, .int 0), (3, .int (p_sum set (G 4) k)), (4, .int (nI k))]) (st' := [.int (M 1 2), .int (nI k)]) (w' := (W_M p M)) rfl ?_
      rw [show (M 1 2 : Int32) = nI kc from hG.2.2.1]
      refine rr_icmp_ge hC (off := 41) (tgt := 54) (by decide +kernel) (fun h13 => by rw [rr_nn_le (by omega) (by omega)] at h13; omega) (fun h13 => ?_)
      rw [rr_nn_le (by omega) (by omega)] at h13
      refine rr_go hC bk_X11_worth_16_20 (l' := [(0, .ref 0), (1, .int set), (2, .int 0), (3, .int (p_sum set (G 4) k)), (4, .int (nI k))]) (st' := [.int (nI k), .int set, .int (p_sum set (G 4) k)]) (w' := (W_M p M)) rfl ?_
      refine rr_callS hC (by decide +kernel) kl_11_159 fX11_has (m_c_has set (nI k)) rfl rfl [] rfl rfl (Eq.refl 0) rfl (rest := [.int (p_sum set (G 4) k)]) rfl rfl ⟨Nat.zero_le _, Nat.zero_le _⟩ (w2 := (W_M p M)) rfl ?_
      show rr_J Z 5 0 0 _ 23 [(0, .ref 0), (1, .int set), (2, .int 0), (3, .int (p_sum set (G 4) k)), (4, .int (nI k))] [.int (rr_b (m_has set (nI k))), .int (p_sum set (G 4) k)] (W_M p M)
      refine rr_eqb hC (off := 22) (tgt := 45) (by decide +kernel) (fun h23 => ?_) (fun h23 => ?_)
      · refine rr_go hC bk_X11_worth_45_5 (l' := [(0, .ref 0), (1, .int set), (2, .int 0), (3, .int ((p_sum set (G 4) k) + 0)), (4, .int ((nI k) + 1))]) (st' := []) (w' := (W_M p M)) rfl ?_
        rw [show ((nI k) + 1 : Int32) = nI (k + 1) from nI_add k 1]
        exact rr_cast (l' := [(0, .ref 0), (1, .int set), (2, .int 0), (3, .int (p_sum set (G 4) (k + 1))), (4, .int (nI (k + 1)))]) (by first | (rw [p_a10, show p_sum set (G 4) (k + 1) = p_sum set (G 4) k + G 4 k from if_neg (by rw [m_has_p] at h23; simpa using h23)]; done) | (rw [Int32.add_zero, show p_sum set (G 4) (k + 1) = p_sum set (G 4) k from if_pos (by rw [m_has_p] at h23; simpa using h23)]; done)) rfl (w' := (W_M p M)) (by rfl) (ih (k + 1) (by omega) (by omega))
      · refine rr_go hC bk_X11_worth_26_38 (l' := [(0, .ref 0), (1, .int set), (2, .int 0), (3, .int (p_sum set (G 4) k)), (4, .int (nI k))]) (st' := [.int (((4 * (nI k)) + 2) + 0), .ref 5, .int (p_sum set (G 4) k)]) (w' := (W_M p M)) rfl ?_
        rw [show (4 * (nI k) : Int32) = nI (4 * k) from pk_mul 4 k]
        rw [show ((nI (4 * k)) + 2 : Int32) = nI ((4 * k) + 2) from nI_add (4 * k) 2]
        rw [show ((nI ((4 * k) + 2)) + 0 : Int32) = nI (((4 * k) + 2) + 0) from nI_add ((4 * k) + 2) 0]
        refine rr_iald hC (((4 * k) + 2) + 0) (by decide +kernel) rfl rfl (by omega) rfl ?_
        show rr_J Z 5 0 0 _ 39 [(0, .ref 0), (1, .int set), (2, .int 0), (3, .int (p_sum set (G 4) k)), (4, .int (nI k))] [.int (M 4 (((4 * k) + 2) + 0)), .int (p_sum set (G 4) k)] (W_M p M)
        rw [show M 4 (((4 * k) + 2) + 0) = G 4 k + 10 from (hG.2.2.2.2.2.2 k (show k < kc by omega)).2.2.1]
        refine rr_go hC bk_X11_worth_39_5 (l' := [(0, .ref 0), (1, .int set), (2, .int 0), (3, .int ((p_sum set (G 4) k) + ((G 4 k + 10) - 10))), (4, .int ((nI k) + 1))]) (st' := []) (w' := (W_M p M)) rfl ?_
        rw [show ((nI k) + 1 : Int32) = nI (k + 1) from nI_add k 1]
        exact rr_cast (l' := [(0, .ref 0), (1, .int set), (2, .int 0), (3, .int (p_sum set (G 4) (k + 1))), (4, .int (nI (k + 1)))]) (by first | (rw [p_a10, show p_sum set (G 4) (k + 1) = p_sum set (G 4) k + G 4 k from if_neg (by rw [m_has_p] at h23; simpa using h23)]; done) | (rw [Int32.add_zero, show p_sum set (G 4) (k + 1) = p_sum set (G 4) k from if_pos (by rw [m_has_p] at h23; simpa using h23)]; done)) rfl (w' := (W_M p M)) (by rfl) (ih (k + 1) (by omega) (by omega))
  exact rr_cast (l' := [(0, .ref 0), (1, .int set), (2, .int 0), (3, .int (p_sum set (G 4) 0)), (4, .int (nI 0))]) (by first | rfl | (rfl)) rfl (w' := (W_M p M)) (by rfl) (lp5 (kc - 0) 0 (by omega) (Nat.le_refl _))
set_option maxRecDepth 100000 in
set_option maxHeartbeats 4000000 in
theorem m_worth1 (p : Nat → Int32) (M : Nat → Nat → Int32) (tc wd cc kc : Nat) (G : Nat → Nat → Int32) (hG : m_G M G tc wd cc kc) (set : Int32) (htc : tc ≤ 12) (hcc : cc ≤ 9) (hkc : kc ≤ 6) : rr_C mX11_worth 1 [.ref 0, .int set, .int 1] (W_M p M) 0 0 (some (p_sum set (G 5) kc)) (W_M p M) := by
  refine rr_C.of (n := 2) fX11_worth.1 rfl rfl (fun Z hC => ?_)
  show rr_J Z 5 0 0 (rr_MQ Z 0 0 (some (p_sum set (G 5) kc)) (W_M p M)) 0 [(0, .ref 0), (1, .int set), (2, .int 1)] [] (W_M p M)
  refine rr_go hC bk_X11_worth_0_5 (l' := [(0, .ref 0), (1, .int set), (2, .int 1), (3, .int 0), (4, .int 0)]) (st' := []) (w' := (W_M p M)) rfl ?_
  have lp5 : ∀ (j k : Nat), k + j = kc → 0 ≤ k → rr_J Z 5 0 0 (rr_MQ Z 0 0 (some (p_sum set (G 5) kc)) (W_M p M)) 5 [(0, .ref 0), (1, .int set), (2, .int 1), (3, .int (p_sum set (G 5) k)), (4, .int (nI k))] [] (W_M p M) := by
    intro j
    induction j with
    | zero =>
      intro k hk5 hlo5
      refine rr_go hC bk_X11_worth_5_13 (l' := [(0, .ref 0), (1, .int set), (2, .int 1), (3, .int (p_sum set (G 5) k)), (4, .int (nI k))]) (st' := [.int (M 1 2), .int (nI k)]) (w' := (W_M p M)) rfl ?_
      rw [show (M 1 2 : Int32) = nI kc from hG.2.2.1]
      refine rr_icmp_ge hC (off := 41) (tgt := 54) (by decide +kernel) (fun h13 => ?_) (fun h13 => by rw [rr_nn_le (by omega) (by omega)] at h13; omega)
      rw [rr_nn_le (by omega) (by omega)] at h13
      refine rr_go hC bk_X11_worth_54_55 (l' := [(0, .ref 0), (1, .int set), (2, .int 1), (3, .int (p_sum set (G 5) k)), (4, .int (nI k))]) (st' := [.int (p_sum set (G 5) k)]) (w' := (W_M p M)) rfl ?_
      exact rr_reti hC (by decide +kernel) (by rw [show k = kc by omega]) (by rfl) ⟨Nat.zero_le _, Nat.zero_le _⟩
    | succ j ih =>
      intro k hk5 hlo5
      refine rr_go hC bk_X11_worth_5_13 (l' := [(0, .ref 0), (1, .int set), (2, .int 1), (3, .int (p_sum set (G 5) k)), (4, .int (nI k))]) (st' := [.int (M 1 2), .int (nI k)]) (w' := (W_M p M)) rfl ?_
      rw [show (M 1 2 : Int32) = nI kc from hG.2.2.1]
      refine rr_icmp_ge hC (off := 41) (tgt := 54) (by decide +kernel) (fun h13 => by rw [rr_nn_le (by omega) (by omega)] at h13; omega) (fun h13 => ?_)
      rw [rr_nn_le (by omega) (by omega)] at h13
      refine rr_go hC bk_X11_worth_16_20 (l' := [(0, .ref 0), (1, .int set), (2, .int 1), (3, .int (p_sum set (G 5) k)), (4, .int (nI k))]) (st' := [.int (nI k), .int set, .int (p_sum set (G 5) k)]) (w' := (W_M p M)) rfl ?_
      refine rr_callS hC (by decide +kernel) kl_11_159 fX11_has (m_c_has set (nI k)) rfl rfl [] rfl rfl (Eq.refl 0) rfl (rest := [.int (p_sum set (G 5) k)]) rfl rfl ⟨Nat.zero_le _, Nat.zero_le _⟩ (w2 := (W_M p M)) rfl ?_
      show rr_J Z 5 0 0 _ 23 [(0, .ref 0), (1, .int set), (2, .int 1), (3, .int (p_sum set (G 5) k)), (4, .int (nI k))] [.int (rr_b (m_has set (nI k))), .int (p_sum set (G 5) k)] (W_M p M)
      refine rr_eqb hC (off := 22) (tgt := 45) (by decide +kernel) (fun h23 => ?_) (fun h23 => ?_)
      · refine rr_go hC bk_X11_worth_45_5 (l' := [(0, .ref 0), (1, .int set), (2, .int 1), (3, .int ((p_sum set (G 5) k) + 0)), (4, .int ((nI k) + 1))]) (st' := []) (w' := (W_M p M)) rfl ?_
        rw [show ((nI k) + 1 : Int32) = nI (k + 1) from nI_add k 1]
        exact rr_cast (l' := [(0, .ref 0), (1, .int set), (2, .int 1), (3, .int (p_sum set (G 5) (k + 1))), (4, .int (nI (k + 1)))]) (by first | (rw [p_a10, show p_sum set (G 5) (k + 1) = p_sum set (G 5) k + G 5 k from if_neg (by rw [m_has_p] at h23; simpa using h23)]; done) | (rw [Int32.add_zero, show p_sum set (G 5) (k + 1) = p_sum set (G 5) k from if_pos (by rw [m_has_p] at h23; simpa using h23)]; done)) rfl (w' := (W_M p M)) (by rfl) (ih (k + 1) (by omega) (by omega))
      · refine rr_go hC bk_X11_worth_26_38 (l' := [(0, .ref 0), (1, .int set), (2, .int 1), (3, .int (p_sum set (G 5) k)), (4, .int (nI k))]) (st' := [.int (((4 * (nI k)) + 2) + 1), .ref 5, .int (p_sum set (G 5) k)]) (w' := (W_M p M)) rfl ?_
        rw [show (4 * (nI k) : Int32) = nI (4 * k) from pk_mul 4 k]
        rw [show ((nI (4 * k)) + 2 : Int32) = nI ((4 * k) + 2) from nI_add (4 * k) 2]
        rw [show ((nI ((4 * k) + 2)) + 1 : Int32) = nI (((4 * k) + 2) + 1) from nI_add ((4 * k) + 2) 1]
        refine rr_iald hC (((4 * k) + 2) + 1) (by decide +kernel) rfl rfl (by omega) rfl ?_
        show rr_J Z 5 0 0 _ 39 [(0, .ref 0), (1, .int set), (2, .int 1), (3, .int (p_sum set (G 5) k)), (4, .int (nI k))] [.int (M 4 (((4 * k) + 2) + 1)), .int (p_sum set (G 5) k)] (W_M p M)
        rw [show M 4 (((4 * k) + 2) + 1) = G 5 k + 10 from (hG.2.2.2.2.2.2 k (show k < kc by omega)).2.2.2]
        refine rr_go hC bk_X11_worth_39_5 (l' := [(0, .ref 0), (1, .int set), (2, .int 1), (3, .int ((p_sum set (G 5) k) + ((G 5 k + 10) - 10))), (4, .int ((nI k) + 1))]) (st' := []) (w' := (W_M p M)) rfl ?_
        rw [show ((nI k) + 1 : Int32) = nI (k + 1) from nI_add k 1]
        exact rr_cast (l' := [(0, .ref 0), (1, .int set), (2, .int 1), (3, .int (p_sum set (G 5) (k + 1))), (4, .int (nI (k + 1)))]) (by first | (rw [p_a10, show p_sum set (G 5) (k + 1) = p_sum set (G 5) k + G 5 k from if_neg (by rw [m_has_p] at h23; simpa using h23)]; done) | (rw [Int32.add_zero, show p_sum set (G 5) (k + 1) = p_sum set (G 5) k from if_pos (by rw [m_has_p] at h23; simpa using h23)]; done)) rfl (w' := (W_M p M)) (by rfl) (ih (k + 1) (by omega) (by omega))
  exact rr_cast (l' := [(0, .ref 0), (1, .int set), (2, .int 1), (3, .int (p_sum set (G 5) 0)), (4, .int (nI 0))]) (by first | rfl | (rfl)) rfl (w' := (W_M p M)) (by rfl) (lp5 (kc - 0) 0 (by omega) (Nat.le_refl _))
theorem bk_X11_mayBe_0_6 : rr_chk mX11_mayBe [(.aload_n 1, 0, 1, 0), (.iconst 4, 4, 0, 0), (.iconst 3, 3, 0, 0), (.iload_n 2, 0, 2, 0), (.imul, 0, 0, 0), (.iadd, 0, 0, 0)] 0 6 = true := by decide +kernel
theorem bk_X11_mayBe_34_35 : rr_chk mX11_mayBe [(.iconst 0, 0, 0, 0)] 34 35 = true := by decide +kernel
theorem bk_X11_mayBe_10_15 : rr_chk mX11_mayBe [(.aload_n 0, 0, 0, 0), (.iload_n 3, 0, 3, 0), (.aload_n 1, 0, 1, 0), (.iconst 0, 0, 0, 0), (.iaload, 0, 0, 0)] 10 15 = true := by decide +kernel
theorem bk_X11_mayBe_21_23 : rr_chk mX11_mayBe [(.aload_n 1, 0, 1, 0), (.iload_n 3, 0, 3, 0)] 21 23 = true := by decide +kernel
theorem bk_X11_mayBe_26_27 : rr_chk mX11_mayBe [(.iconst (-1), (-1), 0, 0)] 26 27 = true := by decide +kernel
theorem bk_X11_mayBe_30_35 : rr_chk mX11_mayBe [(.iconst 1, 1, 0, 0), (.goto 4, 0, 0, 0)] 30 35 = true := by decide +kernel
set_option maxRecDepth 100000 in
set_option maxHeartbeats 4000000 in
theorem m_mayBe_now (p : Nat → Int32) (M : Nat → Nat → Int32) (tc wd cc kc : Nat) (G : Nat → Nat → Int32) (hG : m_G M G tc wd cc kc) (q : p_Q) (hq : M 9 = en q) (k c : Nat) (htc : tc ≤ 12) (hcc : cc ≤ 9) (hkc : kc ≤ 6) (ht : 0 < tc) (hk : k < 6) (hc : c < cc) (hh : q.1 < 100000) : rr_C mX11_mayBe 2 [.ref 0, .ref 10, .int (nI k), .int (nI c)] (W_M p M) 0 0 (some (rr_b (m_may q G tc k c))) (W_M p M) := by
  refine rr_C.of (n := 3) fX11_mayBe.1 rfl rfl (fun Z hC => ?_)
  show rr_J Z 4 0 0 (rr_MQ Z 0 0 (some (rr_b (m_may q G tc k c))) (W_M p M)) 0 [(0, .ref 0), (1, .ref 10), (2, .int (nI k)), (3, .int (nI c))] [] (W_M p M)
  refine rr_go hC bk_X11_mayBe_0_6 (l' := [(0, .ref 0), (1, .ref 10), (2, .int (nI k)), (3, .int (nI c))]) (st' := [.int (4 + (3 * (nI k))), .ref 10]) (w' := (W_M p M)) rfl ?_
  rw [show (3 * (nI k) : Int32) = nI (3 * k) from pk_mul 3 k]
  rw [show (4 + (nI (3 * k)) : Int32) = nI (4 + (3 * k)) from nI_add 4 (3 * k)]
  refine rr_iald hC (4 + (3 * k)) (by decide +kernel) rfl rfl (by omega) rfl ?_
  show rr_J Z 4 0 0 _ 7 [(0, .ref 0), (1, .ref 10), (2, .int (nI k)), (3, .int (nI c))] [.int (M 9 (4 + (3 * k)))] (W_M p M)
  rw [hq, en_c q (show k < 6 by omega)]
  refine rr_if_ne hC (off := 27) (tgt := 34) (by decide +kernel) (fun h7 => ?_) (fun h7 => ?_)
  · refine rr_go hC bk_X11_mayBe_34_35 (l' := [(0, .ref 0), (1, .ref 10), (2, .int (nI k)), (3, .int (nI c))]) (st' := [.int 0]) (w' := (W_M p M)) rfl ?_
    exact rr_retz hC (by decide +kernel) (Or.inl rfl) (by unfold m_may; first | (rw [decide_eq_false (fun z => h7 (p_i0.mpr z))]; rfl) | (rw [decide_eq_true (p_i0.mp h7), h18]; rfl) | (rw [decide_eq_true (p_i0.mp h7), h18, decide_eq_false h27]; rfl) | (rw [decide_eq_true (p_i0.mp h7), h18, decide_eq_true h27]; rfl)) (by rfl) ⟨Nat.zero_le _, Nat.zero_le _⟩
  · refine rr_go hC bk_X11_mayBe_10_15 (l' := [(0, .ref 0), (1, .ref 10), (2, .int (nI k)), (3, .int (nI c))]) (st' := [.int (M 9 0), .int (nI c), .ref 0]) (w' := (W_M p M)) rfl ?_
    rw [show (M 9 0 : Int32) = nI q.1 from (by rw [hq]; rfl)]
    refine rr_callVI hC (by decide +kernel) kl_11_151 fX11_isWet (m_isWet p M tc wd cc kc G hG c q.1 (by omega) (by omega) (by omega) (by omega) (by omega) (by omega)) rfl rfl rfl rfl rfl (rest := []) rfl rfl ⟨Nat.zero_le _, Nat.zero_le _⟩ (Eq.refl 22) ?_
    show rr_J Z 4 0 0 _ 18 [(0, .ref 0), (1, .ref 10), (2, .int (nI k)), (3, .int (nI c))] [.int (rr_b (p_wet G tc c q.1))] (W_M p M)
    refine rr_neb hC (off := 16) (tgt := 34) (by decide +kernel) (fun h18 => ?_) (fun h18 => ?_)
    · refine rr_go hC bk_X11_mayBe_34_35 (l' := [(0, .ref 0), (1, .ref 10), (2, .int (nI k)), (3, .int (nI c))]) (st' := [.int 0]) (w' := (W_M p M)) rfl ?_
      exact rr_retz hC (by decide +kernel) (Or.inl rfl) (by unfold m_may; first | (rw [decide_eq_false (fun z => h7 (p_i0.mpr z))]; rfl) | (rw [decide_eq_true (p_i0.mp h7), h18]; rfl) | (rw [decide_eq_true (p_i0.mp h7), h18, decide_eq_false h27]; rfl) | (rw [decide_eq_true (p_i0.mp h7), h18, decide_eq_true h27]; rfl)) (by rfl) ⟨Nat.zero_le _, Nat.zero_le _⟩
    · refine rr_go hC bk_X11_mayBe_21_23 (l' := [(0, .ref 0), (1, .ref 10), (2, .int (nI k)), (3, .int (nI c))]) (st' := [.int (nI c), .ref 10]) (w' := (W_M p M)) rfl ?_
      refine rr_callS hC (by decide +kernel) kl_11_182 fX11_clauseIn (m_clauseIn (fun _ => M 9) q hq c) rfl rfl [10] rfl rfl (Eq.refl 1) rfl (rest := []) rfl rfl ⟨Nat.zero_le _, Nat.zero_le _⟩ (w2 := (W_M p M)) rfl ?_
      show rr_J Z 4 0 0 _ 26 [(0, .ref 0), (1, .ref 10), (2, .int (nI k)), (3, .int (nI c))] [.int (p_cin (q.2.2.2.2 0) (nI c) 0 6)] (W_M p M)
      refine rr_go hC bk_X11_mayBe_26_27 (l' := [(0, .ref 0), (1, .ref 10), (2, .int (nI k)), (3, .int (nI c))]) (st' := [.int (-1), .int (p_cin (q.2.2.2.2 0) (nI c) 0 6)]) (w' := (W_M p M)) rfl ?_
      refine rr_icmp_ne hC (off := 7) (tgt := 34) (by decide +kernel) (fun h27 => ?_) (fun h27 => ?_)
      · refine rr_go hC bk_X11_mayBe_34_35 (l' := [(0, .ref 0), (1, .ref 10), (2, .int (nI k)), (3, .int (nI c))]) (st' := [.int 0]) (w' := (W_M p M)) rfl ?_
        exact rr_retz hC (by decide +kernel) (Or.inl rfl) (by unfold m_may; first | (rw [decide_eq_false (fun z => h7 (p_i0.mpr z))]; rfl) | (rw [decide_eq_true (p_i0.mp h7), h18]; rfl) | (rw [decide_eq_true (p_i0.mp h7), h18, decide_eq_false h27]; rfl) | (rw [decide_eq_true (p_i0.mp h7), h18, decide_eq_true h27]; rfl)) (by rfl) ⟨Nat.zero_le _, Nat.zero_le _⟩
      · refine rr_go hC bk_X11_mayBe_30_35 (l' := [(0, .ref 0), (1, .ref 10), (2, .int (nI k)), (3, .int (nI c))]) (st' := [.int 1]) (w' := (W_M p M)) rfl ?_
        exact rr_retz hC (by decide +kernel) (Or.inr rfl) (by unfold m_may; first | (rw [decide_eq_false (fun z => h7 (p_i0.mpr z))]; rfl) | (rw [decide_eq_true (p_i0.mp h7), h18]; rfl) | (rw [decide_eq_true (p_i0.mp h7), h18, decide_eq_false h27]; rfl) | (rw [decide_eq_true (p_i0.mp h7), h18, decide_eq_true h27]; rfl)) (by rfl) ⟨Nat.zero_le _, Nat.zero_le _⟩
set_option maxRecDepth 100000 in
set_option maxHeartbeats 4000000 in
theorem m_mayBe_tried (p : Nat → Int32) (M : Nat → Nat → Int32) (tc wd cc kc : Nat) (G : Nat → Nat → Int32) (hG : m_G M G tc wd cc kc) (q : p_Q) (hq : M 10 = en q) (k c : Nat) (htc : tc ≤ 12) (hcc : cc ≤ 9) (hkc : kc ≤ 6) (ht : 0 < tc) (hk : k < 6) (hc : c < cc) (hh : q.1 < 100000) : rr_C mX11_mayBe 2 [.ref 0, .ref 11, .int (nI k), .int (nI c)] (W_M p M) 0 0 (some (rr_b (m_may q G tc k c))) (W_M p M) := by
  refine rr_C.of (n := 3) fX11_mayBe.1 rfl rfl (fun Z hC => ?_)
  show rr_J Z 4 0 0 (rr_MQ Z 0 0 (some (rr_b (m_may q G tc k c))) (W_M p M)) 0 [(0, .ref 0), (1, .ref 11), (2, .int (nI k)), (3, .int (nI c))] [] (W_M p M)
  refine rr_go hC bk_X11_mayBe_0_6 (l' := [(0, .ref 0), (1, .ref 11), (2, .int (nI k)), (3, .int (nI c))]) (st' := [.int (4 + (3 * (nI k))), .ref 11]) (w' := (W_M p M)) rfl ?_
  rw [show (3 * (nI k) : Int32) = nI (3 * k) from pk_mul 3 k]
  rw [show (4 + (nI (3 * k)) : Int32) = nI (4 + (3 * k)) from nI_add 4 (3 * k)]
  refine rr_iald hC (4 + (3 * k)) (by decide +kernel) rfl rfl (by omega) rfl ?_
  show rr_J Z 4 0 0 _ 7 [(0, .ref 0), (1, .ref 11), (2, .int (nI k)), (3, .int (nI c))] [.int (M 10 (4 + (3 * k)))] (W_M p M)
  rw [hq, en_c q (show k < 6 by omega)]
  refine rr_if_ne hC (off := 27) (tgt := 34) (by decide +kernel) (fun h7 => ?_) (fun h7 => ?_)
  · refine rr_go hC bk_X11_mayBe_34_35 (l' := [(0, .ref 0), (1, .ref 11), (2, .int (nI k)), (3, .int (nI c))]) (st' := [.int 0]) (w' := (W_M p M)) rfl ?_
    exact rr_retz hC (by decide +kernel) (Or.inl rfl) (by unfold m_may; first | (rw [decide_eq_false (fun z => h7 (p_i0.mpr z))]; rfl) | (rw [decide_eq_true (p_i0.mp h7), h18]; rfl) | (rw [decide_eq_true (p_i0.mp h7), h18, decide_eq_false h27]; rfl) | (rw [decide_eq_true (p_i0.mp h7), h18, decide_eq_true h27]; rfl)) (by rfl) ⟨Nat.zero_le _, Nat.zero_le _⟩
  · refine rr_go hC bk_X11_mayBe_10_15 (l' := [(0, .ref 0), (1, .ref 11), (2, .int (nI k)), (3, .int (nI c))]) (st' := [.int (M 10 0), .int (nI c), .ref 0]) (w' := (W_M p M)) rfl ?_
    rw [show (M 10 0 : Int32) = nI q.1 from (by rw [hq]; rfl)]
    refine rr_callVI hC (by decide +kernel) kl_11_151 fX11_isWet (m_isWet p M tc wd cc kc G hG c q.1 (by omega) (by omega) (by omega) (by omega) (by omega) (by omega)) rfl rfl rfl rfl rfl (rest := []) rfl rfl ⟨Nat.zero_le _, Nat.zero_le _⟩ (Eq.refl 22) ?_
    show rr_J Z 4 0 0 _ 18 [(0, .ref 0), (1, .ref 11), (2, .int (nI k)), (3, .int (nI c))] [.int (rr_b (p_wet G tc c q.1))] (W_M p M)
    refine rr_neb hC (off := 16) (tgt := 34) (by decide +kernel) (fun h18 => ?_) (fun h18 => ?_)
    · refine rr_go hC bk_X11_mayBe_34_35 (l' := [(0, .ref 0), (1, .ref 11), (2, .int (nI k)), (3, .int (nI c))]) (st' := [.int 0]) (w' := (W_M p M)) rfl ?_
      exact rr_retz hC (by decide +kernel) (Or.inl rfl) (by unfold m_may; first | (rw [decide_eq_false (fun z => h7 (p_i0.mpr z))]; rfl) | (rw [decide_eq_true (p_i0.mp h7), h18]; rfl) | (rw [decide_eq_true (p_i0.mp h7), h18, decide_eq_false h27]; rfl) | (rw [decide_eq_true (p_i0.mp h7), h18, decide_eq_true h27]; rfl)) (by rfl) ⟨Nat.zero_le _, Nat.zero_le _⟩
    · refine rr_go hC bk_X11_mayBe_21_23 (l' := [(0, .ref 0), (1, .ref 11), (2, .int (nI k)), (3, .int (nI c))]) (st' := [.int (nI c), .ref 11]) (w' := (W_M p M)) rfl ?_
      refine rr_callS hC (by decide +kernel) kl_11_182 fX11_clauseIn (m_clauseIn (fun _ => M 10) q hq c) rfl rfl [11] rfl rfl (Eq.refl 1) rfl (rest := []) rfl rfl ⟨Nat.zero_le _, Nat.zero_le _⟩ (w2 := (W_M p M)) rfl ?_
      show rr_J Z 4 0 0 _ 26 [(0, .ref 0), (1, .ref 11), (2, .int (nI k)), (3, .int (nI c))] [.int (p_cin (q.2.2.2.2 0) (nI c) 0 6)] (W_M p M)
      refine rr_go hC bk_X11_mayBe_26_27 (l' := [(0, .ref 0), (1, .ref 11), (2, .int (nI k)), (3, .int (nI c))]) (st' := [.int (-1), .int (p_cin (q.2.2.2.2 0) (nI c) 0 6)]) (w' := (W_M p M)) rfl ?_
      refine rr_icmp_ne hC (off := 7) (tgt := 34) (by decide +kernel) (fun h27 => ?_) (fun h27 => ?_)
      · refine rr_go hC bk_X11_mayBe_34_35 (l' := [(0, .ref 0), (1, .ref 11), (2, .int (nI k)), (3, .int (nI c))]) (st' := [.int 0]) (w' := (W_M p M)) rfl ?_
        exact rr_retz hC (by decide +kernel) (Or.inl rfl) (by unfold m_may; first | (rw [decide_eq_false (fun z => h7 (p_i0.mpr z))]; rfl) | (rw [decide_eq_true (p_i0.mp h7), h18]; rfl) | (rw [decide_eq_true (p_i0.mp h7), h18, decide_eq_false h27]; rfl) | (rw [decide_eq_true (p_i0.mp h7), h18, decide_eq_true h27]; rfl)) (by rfl) ⟨Nat.zero_le _, Nat.zero_le _⟩
      · refine rr_go hC bk_X11_mayBe_30_35 (l' := [(0, .ref 0), (1, .ref 11), (2, .int (nI k)), (3, .int (nI c))]) (st' := [.int 1]) (w' := (W_M p M)) rfl ?_
        exact rr_retz hC (by decide +kernel) (Or.inr rfl) (by unfold m_may; first | (rw [decide_eq_false (fun z => h7 (p_i0.mpr z))]; rfl) | (rw [decide_eq_true (p_i0.mp h7), h18]; rfl) | (rw [decide_eq_true (p_i0.mp h7), h18, decide_eq_false h27]; rfl) | (rw [decide_eq_true (p_i0.mp h7), h18, decide_eq_true h27]; rfl)) (by rfl) ⟨Nat.zero_le _, Nat.zero_le _⟩
