/-! the model: feed, tries, draw, opens, areas of few instructions -/
theorem m_in_no {x lo hi : Int32} (h : x < lo ∨ hi < x) : m_in x lo hi = false := by
  unfold m_in
  rcases h with h | h <;> simp [h]
theorem m_in_yes {x lo hi : Int32} (h1 : ¬ x < lo) (h2 : ¬ hi < x) : m_in x lo hi = true := by
  unfold m_in
  simp [h1, h2]
theorem bk_X11_feed_0_5 : rr_chk mX11_feed [(.iload_n 1, 0, 1, 0), (.iconst 0, 0, 0, 0), (.sipush 255, 255, 0, 0)] 0 5 = true := by decide +kernel
theorem bk_X11_feed_11_13 : rr_chk mX11_feed [(.ldc 82, (-1000000002), 0, 0)] 11 13 = true := by decide +kernel
set_option maxRecDepth 100000 in
set_option maxHeartbeats 4000000 in
theorem m_feedO (len : Nat) (fa : Int32) (hd : Bool) (dd : Nat) (sd : Int32) (sg es a : Nat) (wr : Int32) (M : Nat → Nat → Int32) (x : Int32) (hx : x < 0 ∨ 255 < x) : rr_C mX11_feed 1 [.ref 0, .int x] (W_M (mv len fa hd dd sd sg es a wr) M) 0 0 (some (-1000000002)) (W_M (mv len fa hd dd sd sg es a wr) M) := by
  refine rr_C.of (n := 1) fX11_feed.1 rfl rfl (fun Z hC => ?_)
  show rr_J Z 2 0 0 (rr_MQ Z 0 0 (some (-1000000002)) (W_M (mv len fa hd dd sd sg es a wr) M)) 0 [(0, .ref 0), (1, .int x)] [] (W_M (mv len fa hd dd sd sg es a wr) M)
  refine rr_go hC bk_X11_feed_0_5 (l' := [(0, .ref 0), (1, .int x)]) (st' := [.int 255, .int 0, .int x]) (w' := (W_M (mv len fa hd dd sd sg es a wr) M)) rfl ?_
  refine rr_callS hC (by decide +kernel) kl_11_78 fX11_in (m_c_in x 0 255) rfl rfl [] rfl rfl (Eq.refl 0) rfl (rest := []) rfl rfl ⟨Nat.zero_le _, Nat.zero_le _⟩ (w2 := (W_M (mv len fa hd dd sd sg es a wr) M)) rfl ?_
  show rr_J Z 2 0 0 _ 8 [(0, .ref 0), (1, .int x)] [.int (rr_b (m_in x 0 255))] (W_M (mv len fa hd dd sd sg es a wr) M)
  refine rr_neb hC (off := 6) (tgt := 14) (by decide +kernel) (fun h8 => by  rw [m_in_no hx] at h8; cases h8) (fun h8 => ?_)
  refine rr_go hC bk_X11_feed_11_13 (l' := [(0, .ref 0), (1, .int x)]) (st' := [.int (-1000000002)]) (w' := (W_M (mv len fa hd dd sd sg es a wr) M)) rfl ?_
  exact rr_reti hC (by decide +kernel) (by rfl) (by rfl) ⟨Nat.zero_le _, Nat.zero_le _⟩
theorem bk_X11_feed_14_21 : rr_chk mX11_feed [(.aload_n 0, 0, 0, 0), (.getfield 83, 0, 11, 1), (.sipush 240, 240, 0, 0)] 14 21 = true := by decide +kernel
theorem bk_X11_feed_24_26 : rr_chk mX11_feed [(.ldc 86, (-1000000004), 0, 0)] 24 26 = true := by decide +kernel
set_option maxRecDepth 100000 in
set_option maxHeartbeats 4000000 in
theorem m_feedF (len : Nat) (fa : Int32) (hd : Bool) (dd : Nat) (sd : Int32) (sg es a : Nat) (wr : Int32) (M : Nat → Nat → Int32) (n : Nat) (hn : n ≤ 255) (hlen : len = 240) : rr_C mX11_feed 1 [.ref 0, .int (nI n)] (W_M (mv len fa hd dd sd sg es a wr) M) 0 0 (some (-1000000004)) (W_M (mv len fa hd dd sd sg es a wr) M) := by
  refine rr_C.of (n := 1) fX11_feed.1 rfl rfl (fun Z hC => ?_)
  show rr_J Z 2 0 0 (rr_MQ Z 0 0 (some (-1000000004)) (W_M (mv len fa hd dd sd sg es a wr) M)) 0 [(0, .ref 0), (1, .int (nI n))] [] (W_M (mv len fa hd dd sd sg es a wr) M)
  refine rr_go hC bk_X11_feed_0_5 (l' := [(0, .ref 0), (1, .int (nI n))]) (st' := [.int 255, .int 0, .int (nI n)]) (w' := (W_M (mv len fa hd dd sd sg es a wr) M)) rfl ?_
  refine rr_callS hC (by decide +kernel) kl_11_78 fX11_in (m_c_in (nI n) 0 255) rfl rfl [] rfl rfl (Eq.refl 0) rfl (rest := []) rfl rfl ⟨Nat.zero_le _, Nat.zero_le _⟩ (w2 := (W_M (mv len fa hd dd sd sg es a wr) M)) rfl ?_
  show rr_J Z 2 0 0 _ 8 [(0, .ref 0), (1, .int (nI n))] [.int (rr_b (m_in (nI n) 0 255))] (W_M (mv len fa hd dd sd sg es a wr) M)
  refine rr_neb hC (off := 6) (tgt := 14) (by decide +kernel) (fun h8 => ?_) (fun h8 => by  rw [m_in_yes (by rw [rr_nl_lt (b := 0) (by omega) (by omega)]; omega) (by rw [rr_ln_lt (a := 255) (by omega) (by omega)]; omega)] at h8; cases h8)
  refine rr_go hC bk_X11_feed_14_21 (l' := [(0, .ref 0), (1, .int (nI n))]) (st' := [.int 240, .int (nI len)]) (w' := (W_M (mv len fa hd dd sd sg es a wr) M)) rfl ?_
  refine rr_icmp_ne hC (off := 6) (tgt := 27) (by decide +kernel) (fun h21 => by rw [rr_nl_eq (b := 240) (by omega) (by omega)] at h21; omega) (fun h21 => ?_)
  rw [rr_nl_eq (b := 240) (by omega) (by omega)] at h21
  refine rr_go hC bk_X11_feed_24_26 (l' := [(0, .ref 0), (1, .int (nI n))]) (st' := [.int (-1000000004)]) (w' := (W_M (mv len fa hd dd sd sg es a wr) M)) rfl ?_
  exact rr_reti hC (by decide +kernel) (by rfl) (by rfl) ⟨Nat.zero_le _, Nat.zero_le _⟩
theorem bk_X11_feed_27_36 : rr_chk mX11_feed [(.aload_n 0, 0, 0, 0), (.getfield 7, 0, 11, 0), (.aload_n 0, 0, 0, 0), (.getfield 83, 0, 11, 1), (.iload_n 1, 0, 1, 0)] 27 36 = true := by decide +kernel
theorem bk_X11_feed_37_51 : rr_chk mX11_feed [(.aload_n 0, 0, 0, 0), (.dup, 0, 0, 0), (.getfield 83, 0, 11, 1), (.iconst 1, 1, 0, 0), (.iadd, 0, 0, 0), (.putfield 83, 0, 11, 1), (.aload_n 0, 0, 0, 0), (.getfield 83, 0, 11, 1)] 37 51 = true := by decide +kernel
set_option maxRecDepth 100000 in
set_option maxHeartbeats 4000000 in
theorem m_feed (len : Nat) (fa : Int32) (hd : Bool) (dd : Nat) (sd : Int32) (sg es a : Nat) (wr : Int32) (M : Nat → Nat → Int32) (n : Nat) (hn : n ≤ 255) (hlen : len < 240) : rr_C mX11_feed 1 [.ref 0, .int (nI n)] (W_M (mv len fa hd dd sd sg es a wr) M) 0 0 (some (nI (len + 1))) (W_M (mv (len + 1) fa hd dd sd sg es a wr) (va_up M 0 (upd (M 0) len (nI n)))) := by
  refine rr_C.of (n := 1) fX11_feed.1 rfl rfl (fun Z hC => ?_)
  show rr_J Z 2 0 0 (rr_MQ Z 0 0 (some (nI (len + 1))) (W_M (mv (len + 1) fa hd dd sd sg es a wr) (va_up M 0 (upd (M 0) len (nI n))))) 0 [(0, .ref 0), (1, .int (nI n))] [] (W_M (mv len fa hd dd sd sg es a wr) M)
  refine rr_go hC bk_X11_feed_0_5 (l' := [(0, .ref 0), (1, .int (nI n))]) (st' := [.int 255, .int 0, .int (nI n)]) (w' := (W_M (mv len fa hd dd sd sg es a wr) M)) rfl ?_
  refine rr_callS hC (by decide +kernel) kl_11_78 fX11_in (m_c_in (nI n) 0 255) rfl rfl [] rfl rfl (Eq.refl 0) rfl (rest := []) rfl rfl ⟨Nat.zero_le _, Nat.zero_le _⟩ (w2 := (W_M (mv len fa hd dd sd sg es a wr) M)) rfl ?_
  show rr_J Z 2 0 0 _ 8 [(0, .ref 0), (1, .int (nI n))] [.int (rr_b (m_in (nI n) 0 255))] (W_M (mv len fa hd dd sd sg es a wr) M)
  refine rr_neb hC (off := 6) (tgt := 14) (by decide +kernel) (fun h8 => ?_) (fun h8 => by  rw [m_in_yes (by rw [rr_nl_lt (b := 0) (by omega) (by omega)]; omega) (by rw [rr_ln_lt (a := 255) (by omega) (by omega)]; omega)] at h8; cases h8)
  refine rr_go hC bk_X11_feed_14_21 (l' := [(0, .ref 0), (1, .int (nI n))]) (st' := [.int 240, .int (nI len)]) (w' := (W_M (mv len fa hd dd sd sg es a wr) M)) rfl ?_
  refine rr_icmp_ne hC (off := 6) (tgt := 27) (by decide +kernel) (fun h21 => ?_) (fun h21 => by rw [rr_nl_eq (b := 240) (by omega) (by omega)] at h21; omega)
  rw [rr_nl_eq (b := 240) (by omega) (by omega)] at h21
  refine rr_go hC bk_X11_feed_27_36 (l' := [(0, .ref 0), (1, .int (nI n))]) (st' := [.int (nI n), .int (nI len), .ref 1]) (w' := (W_M (mv len fa hd dd sd sg es a wr) M)) rfl ?_
  refine rr_iast hC len (by decide +kernel) rfl rfl (by omega) rfl (w' := (W_M (mv len fa hd dd sd sg es a wr) (va_up M 0 (upd (M 0) len (nI n))))) rfl ?_
  show rr_J Z 2 0 0 _ 37 [(0, .ref 0), (1, .int (nI n))] [] (W_M (mv len fa hd dd sd sg es a wr) (va_up M 0 (upd (M 0) len (nI n))))
  refine rr_go hC bk_X11_feed_37_51 (l' := [(0, .ref 0), (1, .int (nI n))]) (st' := [.int ((nI len) + 1)]) (w' := (W_M (upd (mv len fa hd dd sd sg es a wr) 0 ((nI len) + 1)) (va_up M 0 (upd (M 0) len (nI n))))) rfl ?_
  rw [show ((nI len) + 1 : Int32) = nI (len + 1) from nI_add len 1]
  exact rr_reti hC (by decide +kernel) (by rfl) (by rfl) ⟨Nat.zero_le _, Nat.zero_le _⟩
theorem bk_X11_tries_0_12 : rr_chk mX11_tries [(.aload_n 0, 0, 0, 0), (.getfield 41, 0, 11, 12), (.iconst 0, 0, 0, 0), (.aload_n 0, 0, 0, 0), (.getfield 44, 0, 11, 13), (.iconst 0, 0, 0, 0), (.bipush 22, 22, 0, 0)] 0 12 = true := by decide +kernel
set_option maxRecDepth 100000 in
set_option maxHeartbeats 4000000 in
theorem m_tries (len : Nat) (fa : Int32) (hd : Bool) (dd : Nat) (sd : Int32) (sg es a : Nat) (wr : Int32) (M : Nat → Nat → Int32) : rr_C mX11_tries 1 [.ref 0] (W_M (mv len fa hd dd sd sg es a wr) M) 0 0 none (W_M (mv len fa hd dd sd sg es a wr) (va_up M 10 (va_cpy (M 9) (M 10) 0 0 22))) := by
  refine rr_C.of (n := 0) fX11_tries.1 rfl rfl (fun Z hC => ?_)
  show rr_J Z 1 0 0 (rr_MQ Z 0 0 none (W_M (mv len fa hd dd sd sg es a wr) (va_up M 10 (va_cpy (M 9) (M 10) 0 0 22)))) 0 [(0, .ref 0)] [] (W_M (mv len fa hd dd sd sg es a wr) M)
  refine rr_go hC bk_X11_tries_0_12 (l' := [(0, .ref 0)]) (st' := [.int 22, .int 0, .ref 11, .int 0, .ref 10]) (w' := (W_M (mv len fa hd dd sd sg es a wr) M)) rfl ?_
  refine rr_callS hC (by decide +kernel) kl_11_134 fX11_copies (m_copies22_22 (fun _ => M 9) (fun _ => M 10) 0 0 22 (by omega) (by omega)) rfl rfl [10, 11] rfl rfl (Eq.refl 2) rfl (rest := []) rfl rfl ⟨Nat.zero_le _, Nat.zero_le _⟩ (w2 := (W_M (mv len fa hd dd sd sg es a wr) (va_up M 10 (va_cpy (M 9) (M 10) 0 0 22)))) rfl ?_
  show rr_J Z 1 0 0 _ 15 [(0, .ref 0)] [] (W_M (mv len fa hd dd sd sg es a wr) (va_up M 10 (va_cpy (M 9) (M 10) 0 0 22)))
  exact rr_retv hC (by decide +kernel) (by rfl) ⟨Nat.zero_le _, Nat.zero_le _⟩
theorem bk_X11_opens_0_1 : rr_chk mX11_opens [(.iload_n 1, 0, 1, 0)] 0 1 = true := by decide +kernel
theorem bk_X11_opens_4_6 : rr_chk mX11_opens [(.aload_n 0, 0, 0, 0), (.iconst 3, 3, 0, 0)] 4 6 = true := by decide +kernel
theorem bk_X11_opens_9_15 : rr_chk mX11_opens [(.aload_n 0, 0, 0, 0), (.dup, 0, 0, 0), (.getfield 87, 0, 11, 24), (.iload_n 1, 0, 1, 0)] 9 15 = true := by decide +kernel
theorem bk_X11_opens_18_28 : rr_chk mX11_opens [(.iconst 0, 0, 0, 0), (.goto 4, 0, 0, 0), (.iadd, 0, 0, 0), (.putfield 87, 0, 11, 24), (.iload_n 1, 0, 1, 0)] 18 28 = true := by decide +kernel
theorem bk_X11_opens_35_36 : rr_chk mX11_opens [(.iconst 0, 0, 0, 0)] 35 36 = true := by decide +kernel
set_option maxRecDepth 100000 in
set_option maxHeartbeats 4000000 in
theorem m_opensF (len : Nat) (fa : Int32) (hd : Bool) (dd : Nat) (sd : Int32) (sg es a : Nat) (wr : Int32) (M : Nat → Nat → Int32) (hlen : len ≤ 240) (ha : a ≤ 10000) : rr_C mX11_opens 1 [.ref 0, .int (rr_b true)] (W_M (mv len fa hd dd sd sg es a wr) M) 0 0 (some (rr_b false)) (W_M (mv len fa hd dd sd sg es a (if wr = 0 then 3 else wr)) M) := by
  refine rr_C.of (n := 1) fX11_opens.1 rfl rfl (fun Z hC => ?_)
  show rr_J Z 2 0 0 (rr_MQ Z 0 0 (some (rr_b false)) (W_M (mv len fa hd dd sd sg es a (if wr = 0 then 3 else wr)) M)) 0 [(0, .ref 0), (1, .int (rr_b true))] [] (W_M (mv len fa hd dd sd sg es a wr) M)
  refine rr_go hC bk_X11_opens_0_1 (l' := [(0, .ref 0), (1, .int (rr_b true))]) (st' := [.int (rr_b true)]) (w' := (W_M (mv len fa hd dd sd sg es a wr) M)) rfl ?_
  refine rr_eqb hC (off := 8) (tgt := 9) (by decide +kernel) (fun h1 => by  cases h1) (fun h1 => ?_)
  refine rr_go hC bk_X11_opens_4_6 (l' := [(0, .ref 0), (1, .int (rr_b true))]) (st' := [.int 3, .ref 0]) (w' := (W_M (mv len fa hd dd sd sg es a wr) M)) rfl ?_
  refine rr_callVI hC (by decide +kernel) kl_11_100 fX11_fails (m_fails len fa hd dd sd sg es a wr M 3) rfl rfl rfl rfl rfl (rest := []) rfl rfl ⟨Nat.zero_le _, Nat.zero_le _⟩ (Eq.refl 22) ?_
  show rr_J Z 2 0 0 _ 9 [(0, .ref 0), (1, .int (rr_b true))] [] (W_M (mv len fa hd dd sd sg es a (if wr = 0 then 3 else wr)) M)
  refine rr_go hC bk_X11_opens_9_15 (l' := [(0, .ref 0), (1, .int (rr_b true))]) (st' := [.int (rr_b true), .int (nI a), .ref 0]) (w' := (W_M (mv len fa hd dd sd sg es a (if wr = 0 then 3 else wr)) M)) rfl ?_
  refine rr_eqb hC (off := 7) (tgt := 22) (by decide +kernel) (fun h15 => by  cases h15) (fun h15 => ?_)
  refine rr_go hC bk_X11_opens_18_28 (l' := [(0, .ref 0), (1, .int (rr_b true))]) (st' := [.int (rr_b true)]) (w' := (W_M (upd (mv len fa hd dd sd sg es a (if wr = 0 then 3 else wr)) 7 ((nI a) + 0)) M)) rfl ?_
  rw [show ((nI a) + 0 : Int32) = nI (a + 0) from nI_add a 0]
  refine rr_neb hC (off := 7) (tgt := 35) (by decide +kernel) (fun h28 => ?_) (fun h28 => by  cases h28)
  refine rr_go hC bk_X11_opens_35_36 (l' := [(0, .ref 0), (1, .int (rr_b true))]) (st' := [.int 0]) (w' := (W_M (upd (mv len fa hd dd sd sg es a (if wr = 0 then 3 else wr)) 7 (nI (a + 0))) M)) rfl ?_
  exact rr_retz hC (by decide +kernel) (Or.inl rfl) (by rfl) (by rfl) ⟨Nat.zero_le _, Nat.zero_le _⟩
theorem bk_X11_opens_22_28 : rr_chk mX11_opens [(.iconst 1, 1, 0, 0), (.iadd, 0, 0, 0), (.putfield 87, 0, 11, 24), (.iload_n 1, 0, 1, 0)] 22 28 = true := by decide +kernel
theorem bk_X11_opens_31_36 : rr_chk mX11_opens [(.iconst 1, 1, 0, 0), (.goto 4, 0, 0, 0)] 31 36 = true := by decide +kernel
set_option maxRecDepth 100000 in
set_option maxHeartbeats 4000000 in
theorem m_opens (len : Nat) (fa : Int32) (hd : Bool) (dd : Nat) (sd : Int32) (sg es a : Nat) (wr : Int32) (M : Nat → Nat → Int32) (hlen : len ≤ 240) (ha : a ≤ 10000) : rr_C mX11_opens 1 [.ref 0, .int (rr_b false)] (W_M (mv len fa hd dd sd sg es a wr) M) 0 0 (some (rr_b true)) (W_M (mv len fa hd dd sd sg es (a + 1) wr) M) := by
  refine rr_C.of (n := 1) fX11_opens.1 rfl rfl (fun Z hC => ?_)
  show rr_J Z 2 0 0 (rr_MQ Z 0 0 (some (rr_b true)) (W_M (mv len fa hd dd sd sg es (a + 1) wr) M)) 0 [(0, .ref 0), (1, .int (rr_b false))] [] (W_M (mv len fa hd dd sd sg es a wr) M)
  refine rr_go hC bk_X11_opens_0_1 (l' := [(0, .ref 0), (1, .int (rr_b false))]) (st' := [.int (rr_b false)]) (w' := (W_M (mv len fa hd dd sd sg es a wr) M)) rfl ?_
  refine rr_eqb hC (off := 8) (tgt := 9) (by decide +kernel) (fun h1 => ?_) (fun h1 => by  cases h1)
  refine rr_go hC bk_X11_opens_9_15 (l' := [(0, .ref 0), (1, .int (rr_b false))]) (st' := [.int (rr_b false), .int (nI a), .ref 0]) (w' := (W_M (mv len fa hd dd sd sg es a wr) M)) rfl ?_
  refine rr_eqb hC (off := 7) (tgt := 22) (by decide +kernel) (fun h15 => ?_) (fun h15 => by  cases h15)
  refine rr_go hC bk_X11_opens_22_28 (l' := [(0, .ref 0), (1, .int (rr_b false))]) (st' := [.int (rr_b false)]) (w' := (W_M (upd (mv len fa hd dd sd sg es a wr) 7 ((nI a) + 1)) M)) rfl ?_
  rw [show ((nI a) + 1 : Int32) = nI (a + 1) from nI_add a 1]
  refine rr_neb hC (off := 7) (tgt := 35) (by decide +kernel) (fun h28 => by  cases h28) (fun h28 => ?_)
  refine rr_go hC bk_X11_opens_31_36 (l' := [(0, .ref 0), (1, .int (rr_b false))]) (st' := [.int 1]) (w' := (W_M (upd (mv len fa hd dd sd sg es a wr) 7 (nI (a + 1))) M)) rfl ?_
  exact rr_retz hC (by decide +kernel) (Or.inr rfl) (by rfl) (by rfl) ⟨Nat.zero_le _, Nat.zero_le _⟩
