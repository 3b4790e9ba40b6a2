/-! the model's word and number; feed -/
theorem m_fg (x : Int32) : m_in x 48 57 = p_fg x := rfl
theorem m_lk_lt {f : Nat → Int32} {len a : Nat} (h : p_fg (m_lk f len a) = true) : a < len ∧ m_lk f len a = f a := by
  by_cases e : a < len
  · exact ⟨e, if_pos e⟩
  · unfold m_lk at h
    rw [if_neg e] at h
    exact absurd h (by decide)
theorem bk_X11_word_0_1 : rr_chk mX11_word [(.aload_n 0, 0, 0, 0)] 0 1 = true := by decide +kernel
theorem bk_X11_word_4_8 : rr_chk mX11_word [(.aload_n 0, 0, 0, 0), (.getfield 90, 0, 11, 25)] 4 8 = true := by decide +kernel
set_option maxRecDepth 100000 in
set_option maxHeartbeats 4000000 in
theorem m_wordW (len : Nat) (fa : Int32) (hd : Bool) (dd : Nat) (sd : Int32) (sg es a : Nat) (wr : Int32) (M : Nat → Nat → Int32) (x : Int32) (hlen : len ≤ 240) (ha : a ≤ 10000) (hw : ¬ wr = 0) : rr_C mX11_word 2 [.ref 0, .int x] (W_M (mv len fa hd dd sd sg es a wr) M) 0 0 none (W_M (mv len fa hd dd sd sg es a wr) M) := by
  refine rr_C.of (n := 1) fX11_word.1 rfl rfl (fun Z hC => ?_)
  show rr_J Z 2 0 0 (rr_MQ Z 0 0 none (W_M (mv len fa hd dd sd sg es a wr) M)) 0 [(0, .ref 0), (1, .int x)] [] (W_M (mv len fa hd dd sd sg es a wr) M)
  refine rr_go hC bk_X11_word_0_1 (l' := [(0, .ref 0), (1, .int x)]) (st' := [.ref 0]) (w' := (W_M (mv len fa hd dd sd sg es a wr) M)) rfl ?_
  refine rr_callVI hC (by decide +kernel) kl_11_97 fX11_skips (m_skipsW len fa hd dd sd sg es a wr M (by omega) (by omega) hw) rfl rfl rfl rfl rfl (rest := []) rfl rfl ⟨Nat.zero_le _, Nat.zero_le _⟩ (Eq.refl 22) ?_
  show rr_J Z 2 0 0 _ 4 [(0, .ref 0), (1, .int x)] [] (W_M (mv len fa hd dd sd sg es a wr) M)
  refine rr_go hC bk_X11_word_4_8 (l' := [(0, .ref 0), (1, .int x)]) (st' := [.int wr]) (w' := (W_M (mv len fa hd dd sd sg es a wr) M)) rfl ?_
  refine rr_if_ne hC (off := 29) (tgt := 37) (by decide +kernel) (fun h8 => ?_) (fun h8 => by  exact absurd h8 hw)
  exact rr_retv hC (by decide +kernel) (by rfl) ⟨Nat.zero_le _, Nat.zero_le _⟩
theorem bk_X11_word_11_12 : rr_chk mX11_word [(.aload_n 0, 0, 0, 0)] 11 12 = true := by decide +kernel
theorem bk_X11_word_15_16 : rr_chk mX11_word [(.iload_n 1, 0, 1, 0)] 15 16 = true := by decide +kernel
theorem bk_X11_word_19_37 : rr_chk mX11_word [(.aload_n 0, 0, 0, 0), (.dup, 0, 0, 0), (.getfield 87, 0, 11, 24), (.iconst 1, 1, 0, 0), (.iadd, 0, 0, 0), (.putfield 87, 0, 11, 24), (.goto 8, 0, 0, 0)] 19 37 = true := by decide +kernel
set_option maxRecDepth 100000 in
set_option maxHeartbeats 4000000 in
theorem m_wordY (len : Nat) (fa : Int32) (hd : Bool) (dd : Nat) (sd : Int32) (sg es a : Nat) (M : Nat → Nat → Int32) (x : Int32) (hlen : len ≤ 240) (ha : a ≤ 10000) (hx : p_nl (M 0) len a = x) : rr_C mX11_word 2 [.ref 0, .int x] (W_M (mv len fa hd dd sd sg es a 0) M) 0 0 none (W_M (mv len fa hd dd sd sg es (p_sk (M 0) len a + 1) 0) M) := by
  refine rr_C.of (n := 1) fX11_word.1 rfl rfl (fun Z hC => ?_)
  show rr_J Z 2 0 0 (rr_MQ Z 0 0 none (W_M (mv len fa hd dd sd sg es (p_sk (M 0) len a + 1) 0) M)) 0 [(0, .ref 0), (1, .int x)] [] (W_M (mv len fa hd dd sd sg es a 0) M)
  refine rr_go hC bk_X11_word_0_1 (l' := [(0, .ref 0), (1, .int x)]) (st' := [.ref 0]) (w' := (W_M (mv len fa hd dd sd sg es a 0) M)) rfl ?_
  refine rr_callVI hC (by decide +kernel) kl_11_97 fX11_skips (m_skips len fa hd dd sd sg es a M (by omega) (by omega)) rfl rfl rfl rfl rfl (rest := []) rfl rfl ⟨Nat.zero_le _, Nat.zero_le _⟩ (Eq.refl 22) ?_
  show rr_J Z 2 0 0 _ 4 [(0, .ref 0), (1, .int x)] [] (W_M (mv len fa hd dd sd sg es (p_sk (M 0) len a) 0) M)
  have hskm1 := p_sk_le (M 0) len a
  refine rr_go hC bk_X11_word_4_8 (l' := [(0, .ref 0), (1, .int x)]) (st' := [.int 0]) (w' := (W_M (mv len fa hd dd sd sg es (p_sk (M 0) len a) 0) M)) rfl ?_
  refine rr_if_ne hC (off := 29) (tgt := 37) (by decide +kernel) (fun h8 => by  exact absurd rfl h8) (fun h8 => ?_)
  refine rr_go hC bk_X11_word_11_12 (l' := [(0, .ref 0), (1, .int x)]) (st' := [.ref 0]) (w' := (W_M (mv len fa hd dd sd sg es (p_sk (M 0) len a) 0) M)) rfl ?_
  refine rr_callVI hC (by decide +kernel) kl_11_93 fX11_look (m_look len fa hd dd sd sg es (p_sk (M 0) len a) 0 M (by omega) (by omega)) rfl rfl rfl rfl rfl (rest := []) rfl rfl ⟨Nat.zero_le _, Nat.zero_le _⟩ (Eq.refl 22) ?_
  show rr_J Z 2 0 0 _ 15 [(0, .ref 0), (1, .int x)] [.int (m_lk (M 0) len (p_sk (M 0) len a))] (W_M (mv len fa hd dd sd sg es (p_sk (M 0) len a) 0) M)
  refine rr_go hC bk_X11_word_15_16 (l' := [(0, .ref 0), (1, .int x)]) (st' := [.int x, .int (m_lk (M 0) len (p_sk (M 0) len a))]) (w' := (W_M (mv len fa hd dd sd sg es (p_sk (M 0) len a) 0) M)) rfl ?_
  refine rr_icmp_ne hC (off := 16) (tgt := 32) (by decide +kernel) (fun h16 => by  exact absurd hx h16) (fun h16 => ?_)
  refine rr_go hC bk_X11_word_19_37 (l' := [(0, .ref 0), (1, .int x)]) (st' := []) (w' := (W_M (upd (mv len fa hd dd sd sg es (p_sk (M 0) len a) 0) 7 ((nI (p_sk (M 0) len a)) + 1)) M)) rfl ?_
  rw [show ((nI (p_sk (M 0) len a)) + 1 : Int32) = nI ((p_sk (M 0) len a) + 1) from nI_add (p_sk (M 0) len a) 1]
  exact rr_retv hC (by decide +kernel) (by rfl) ⟨Nat.zero_le _, Nat.zero_le _⟩
theorem bk_X11_word_32_34 : rr_chk mX11_word [(.aload_n 0, 0, 0, 0), (.iconst 1, 1, 0, 0)] 32 34 = true := by decide +kernel
set_option maxRecDepth 100000 in
set_option maxHeartbeats 4000000 in
theorem m_wordN (len : Nat) (fa : Int32) (hd : Bool) (dd : Nat) (sd : Int32) (sg es a : Nat) (M : Nat → Nat → Int32) (x : Int32) (hlen : len ≤ 240) (ha : a ≤ 10000) (hx : ¬ p_nl (M 0) len a = x) : rr_C mX11_word 2 [.ref 0, .int x] (W_M (mv len fa hd dd sd sg es a 0) M) 0 0 none (W_M (mv len fa hd dd sd sg es (p_sk (M 0) len a) 1) M) := by
  refine rr_C.of (n := 1) fX11_word.1 rfl rfl (fun Z hC => ?_)
  show rr_J Z 2 0 0 (rr_MQ Z 0 0 none (W_M (mv len fa hd dd sd sg es (p_sk (M 0) len a) 1) M)) 0 [(0, .ref 0), (1, .int x)] [] (W_M (mv len fa hd dd sd sg es a 0) M)
  refine rr_go hC bk_X11_word_0_1 (l' := [(0, .ref 0), (1, .int x)]) (st' := [.ref 0]) (w' := (W_M (mv len fa hd dd sd sg es a 0) M)) rfl ?_
  refine rr_callVI hC (by decide +kernel) kl_11_97 fX11_skips (m_skips len fa hd dd sd sg es a M (by omega) (by omega)) rfl rfl rfl rfl rfl (rest := []) rfl rfl ⟨Nat.zero_le _, Nat.zero_le _⟩ (Eq.refl 22) ?_
  show rr_J Z 2 0 0 _ 4 [(0, .ref 0), (1, .int x)] [] (W_M (mv len fa hd dd sd sg es (p_sk (M 0) len a) 0) M)
  have hskm1 := p_sk_le (M 0) len a
  refine rr_go hC bk_X11_word_4_8 (l' := [(0, .ref 0), (1, .int x)]) (st' := [.int 0]) (w' := (W_M (mv len fa hd dd sd sg es (p_sk (M 0) len a) 0) M)) rfl ?_
  refine rr_if_ne hC (off := 29) (tgt := 37) (by decide +kernel) (fun h8 => by  exact absurd rfl h8) (fun h8 => ?_)
  refine rr_go hC bk_X11_word_11_12 (l' := [(0, .ref 0), (1, .int x)]) (st' := [.ref 0]) (w' := (W_M (mv len fa hd dd sd sg es (p_sk (M 0) len a) 0) M)) rfl ?_
  refine rr_callVI hC (by decide +kernel) kl_11_93 fX11_look (m_look len fa hd dd sd sg es (p_sk (M 0) len a) 0 M (by omega) (by omega)) rfl rfl rfl rfl rfl (rest := []) rfl rfl ⟨Nat.zero_le _, Nat.zero_le _⟩ (Eq.refl 22) ?_
  show rr_J Z 2 0 0 _ 15 [(0, .ref 0), (1, .int x)] [.int (m_lk (M 0) len (p_sk (M 0) len a))] (W_M (mv len fa hd dd sd sg es (p_sk (M 0) len a) 0) M)
  refine rr_go hC bk_X11_word_15_16 (l' := [(0, .ref 0), (1, .int x)]) (st' := [.int x, .int (m_lk (M 0) len (p_sk (M 0) len a))]) (w' := (W_M (mv len fa hd dd sd sg es (p_sk (M 0) len a) 0) M)) rfl ?_
  refine rr_icmp_ne hC (off := 16) (tgt := 32) (by decide +kernel) (fun h16 => ?_) (fun h16 => by  exact absurd h16 hx)
  refine rr_go hC bk_X11_word_32_34 (l' := [(0, .ref 0), (1, .int x)]) (st' := [.int 1, .ref 0]) (w' := (W_M (mv len fa hd dd sd sg es (p_sk (M 0) len a) 0) M)) rfl ?_
  refine rr_callVI hC (by decide +kernel) kl_11_100 fX11_fails (m_fails len fa hd dd sd sg es (p_sk (M 0) len a) 0 M 1) rfl rfl rfl rfl rfl (rest := []) rfl rfl ⟨Nat.zero_le _, Nat.zero_le _⟩ (Eq.refl 22) ?_
  show rr_J Z 2 0 0 _ 37 [(0, .ref 0), (1, .int x)] [] (W_M (mv len fa hd dd sd sg es (p_sk (M 0) len a) (if 0 = 0 then 1 else 0)) M)
  exact rr_retv hC (by decide +kernel) (by rw [if_pos rfl]) ⟨Nat.zero_le _, Nat.zero_le _⟩
theorem bk_X11_number_0_1 : rr_chk mX11_number [(.aload_n 0, 0, 0, 0)] 0 1 = true := by decide +kernel
theorem bk_X11_number_4_8 : rr_chk mX11_number [(.aload_n 0, 0, 0, 0), (.getfield 90, 0, 11, 25)] 4 8 = true := by decide +kernel
theorem bk_X11_number_11_12 : rr_chk mX11_number [(.iconst 0, 0, 0, 0)] 11 12 = true := by decide +kernel
set_option maxRecDepth 100000 in
set_option maxHeartbeats 4000000 in
theorem m_numberW (len : Nat) (fa : Int32) (hd : Bool) (dd : Nat) (sd : Int32) (sg es a : Nat) (wr : Int32) (M : Nat → Nat → Int32) (lo hi : Int32) (hlen : len ≤ 240) (ha : a ≤ 10000) (hw : ¬ wr = 0) : rr_C mX11_number 2 [.ref 0, .int lo, .int hi] (W_M (mv len fa hd dd sd sg es a wr) M) 0 0 (some 0) (W_M (mv len fa hd dd sd sg es a wr) M) := by
  refine rr_C.of (n := 2) fX11_number.1 rfl rfl (fun Z hC => ?_)
  show rr_J Z 5 0 0 (rr_MQ Z 0 0 (some 0) (W_M (mv len fa hd dd sd sg es a wr) M)) 0 [(0, .ref 0), (1, .int lo), (2, .int hi)] [] (W_M (mv len fa hd dd sd sg es a wr) M)
  refine rr_go hC bk_X11_number_0_1 (l' := [(0, .ref 0), (1, .int lo), (2, .int hi)]) (st' := [.ref 0]) (w' := (W_M (mv len fa hd dd sd sg es a wr) M)) rfl ?_
  refine rr_callVI hC (by decide +kernel) kl_11_97 fX11_skips (m_skipsW len fa hd dd sd sg es a wr M (by omega) (by omega) hw) rfl rfl rfl rfl rfl (rest := []) rfl rfl ⟨Nat.zero_le _, Nat.zero_le _⟩ (Eq.refl 22) ?_
  show rr_J Z 5 0 0 _ 4 [(0, .ref 0), (1, .int lo), (2, .int hi)] [] (W_M (mv len fa hd dd sd sg es a wr) M)
  refine rr_go hC bk_X11_number_4_8 (l' := [(0, .ref 0), (1, .int lo), (2, .int hi)]) (st' := [.int wr]) (w' := (W_M (mv len fa hd dd sd sg es a wr) M)) rfl ?_
  refine rr_if_eq hC (off := 5) (tgt := 13) (by decide +kernel) (fun h8 => by  exact absurd h8 hw) (fun h8 => ?_)
  refine rr_go hC bk_X11_number_11_12 (l' := [(0, .ref 0), (1, .int lo), (2, .int hi)]) (st' := [.int 0]) (w' := (W_M (mv len fa hd dd sd sg es a wr) M)) rfl ?_
  exact rr_reti hC (by decide +kernel) (by rfl) (by rfl) ⟨Nat.zero_le _, Nat.zero_le _⟩
theorem bk_X11_number_13_14 : rr_chk mX11_number [(.aload_n 0, 0, 0, 0)] 13 14 = true := by decide +kernel
theorem bk_X11_number_17_21 : rr_chk mX11_number [(.bipush 48, 48, 0, 0), (.bipush 57, 57, 0, 0)] 17 21 = true := by decide +kernel
theorem bk_X11_number_27_29 : rr_chk mX11_number [(.aload_n 0, 0, 0, 0), (.iconst 1, 1, 0, 0)] 27 29 = true := by decide +kernel
theorem bk_X11_number_32_33 : rr_chk mX11_number [(.iconst 0, 0, 0, 0)] 32 33 = true := by decide +kernel
set_option maxRecDepth 100000 in
set_option maxHeartbeats 4000000 in
theorem m_number1 (len : Nat) (fa : Int32) (hd : Bool) (dd : Nat) (sd : Int32) (sg es a : Nat) (M : Nat → Nat → Int32) (lo hi : Int32) (hlen : len ≤ 240) (ha : a ≤ 10000) (hb : p_fg (p_nl (M 0) len a) = false) : rr_C mX11_number 2 [.ref 0, .int lo, .int hi] (W_M (mv len fa hd dd sd sg es a 0) M) 0 0 (some 0) (W_M (mv len fa hd dd sd sg es (p_sk (M 0) len a) 1) M) := by
  refine rr_C.of (n := 2) fX11_number.1 rfl rfl (fun Z hC => ?_)
  show rr_J Z 5 0 0 (rr_MQ Z 0 0 (some 0) (W_M (mv len fa hd dd sd sg es (p_sk (M 0) len a) 1) M)) 0 [(0, .ref 0), (1, .int lo), (2, .int hi)] [] (W_M (mv len fa hd dd sd sg es a 0) M)
  refine rr_go hC bk_X11_number_0_1 (l' := [(0, .ref 0), (1, .int lo), (2, .int hi)]) (st' := [.ref 0]) (w' := (W_M (mv len fa hd dd sd sg es a 0) M)) rfl ?_
  refine rr_callVI hC (by decide +kernel) kl_11_97 fX11_skips (m_skips len fa hd dd sd sg es a M (by omega) (by omega)) rfl rfl rfl rfl rfl (rest := []) rfl rfl ⟨Nat.zero_le _, Nat.zero_le _⟩ (Eq.refl 22) ?_
  show rr_J Z 5 0 0 _ 4 [(0, .ref 0), (1, .int lo), (2, .int hi)] [] (W_M (mv len fa hd dd sd sg es (p_sk (M 0) len a) 0) M)
  have hskm1 := p_sk_le (M 0) len a
  refine rr_go hC bk_X11_number_4_8 (l' := [(0, .ref 0), (1, .int lo), (2, .int hi)]) (st' := [.int 0]) (w' := (W_M (mv len fa hd dd sd sg es (p_sk (M 0) len a) 0) M)) rfl ?_
  refine rr_if_eq hC (off := 5) (tgt := 13) (by decide +kernel) (fun h8 => ?_) (fun h8 => by  exact absurd rfl h8)
  refine rr_go hC bk_X11_number_13_14 (l' := [(0, .ref 0), (1, .int lo), (2, .int hi)]) (st' := [.ref 0]) (w' := (W_M (mv len fa hd dd sd sg es (p_sk (M 0) len a) 0) M)) rfl ?_
  refine rr_callVI hC (by decide +kernel) kl_11_93 fX11_look (m_look len fa hd dd sd sg es (p_sk (M 0) len a) 0 M (by omega) (by omega)) rfl rfl rfl rfl rfl (rest := []) rfl rfl ⟨Nat.zero_le _, Nat.zero_le _⟩ (Eq.refl 22) ?_
  show rr_J Z 5 0 0 _ 17 [(0, .ref 0), (1, .int lo), (2, .int hi)] [.int (m_lk (M 0) len (p_sk (M 0) len a))] (W_M (mv len fa hd dd sd sg es (p_sk (M 0) len a) 0) M)
  refine rr_go hC bk_X11_number_17_21 (l' := [(0, .ref 0), (1, .int lo), (2, .int hi)]) (st' := [.int 57, .int 48, .int (m_lk (M 0) len (p_sk (M 0) len a))]) (w' := (W_M (mv len fa hd dd sd sg es (p_sk (M 0) len a) 0) M)) rfl ?_
  refine rr_callS hC (by decide +kernel) kl_11_78 fX11_in (m_c_in (m_lk (M 0) len (p_sk (M 0) len a)) 48 57) rfl rfl [] rfl rfl (Eq.refl 0) rfl (rest := []) rfl rfl ⟨Nat.zero_le _, Nat.zero_le _⟩ (w2 := (W_M (mv len fa hd dd sd sg es (p_sk (M 0) len a) 0) M)) rfl ?_
  show rr_J Z 5 0 0 _ 24 [(0, .ref 0), (1, .int lo), (2, .int hi)] [.int (rr_b (m_in (m_lk (M 0) len (p_sk (M 0) len a)) 48 57))] (W_M (mv len fa hd dd sd sg es (p_sk (M 0) len a) 0) M)
  refine rr_neb hC (off := 10) (tgt := 34) (by decide +kernel) (fun h24 => by  rw [m_fg, m_lk_sk, hb] at h24; cases h24) (fun h24 => ?_)
  refine rr_go hC bk_X11_number_27_29 (l' := [(0, .ref 0), (1, .int lo), (2, .int hi)]) (st' := [.int 1, .ref 0]) (w' := (W_M (mv len fa hd dd sd sg es (p_sk (M 0) len a) 0) M)) rfl ?_
  refine rr_callVI hC (by decide +kernel) kl_11_100 fX11_fails (m_fails len fa hd dd sd sg es (p_sk (M 0) len a) 0 M 1) rfl rfl rfl rfl rfl (rest := []) rfl rfl ⟨Nat.zero_le _, Nat.zero_le _⟩ (Eq.refl 22) ?_
  show rr_J Z 5 0 0 _ 32 [(0, .ref 0), (1, .int lo), (2, .int hi)] [] (W_M (mv len fa hd dd sd sg es (p_sk (M 0) len a) (if 0 = 0 then 1 else 0)) M)
  refine rr_go hC bk_X11_number_32_33 (l' := [(0, .ref 0), (1, .int lo), (2, .int hi)]) (st' := [.int 0]) (w' := (W_M (mv len fa hd dd sd sg es (p_sk (M 0) len a) (if 0 = 0 then 1 else 0)) M)) rfl ?_
  exact rr_reti hC (by decide +kernel) (by rfl) (by rw [if_pos rfl]) ⟨Nat.zero_le _, Nat.zero_le _⟩
theorem bk_X11_number_34_42 : rr_chk mX11_number [(.aload_n 0, 0, 0, 0), (.getfield 87, 0, 11, 24), (.istore_n 3, 0, 3, 0), (.iconst 0, 0, 0, 0), (.istore 4, 0, 4, 0)] 34 42 = true := by decide +kernel
theorem bk_X11_number_42_43 : rr_chk mX11_number [(.aload_n 0, 0, 0, 0)] 42 43 = true := by decide +kernel
theorem bk_X11_number_46_50 : rr_chk mX11_number [(.bipush 48, 48, 0, 0), (.bipush 57, 57, 0, 0)] 46 50 = true := by decide +kernel
theorem bk_X11_number_99_106 : rr_chk mX11_number [(.aload_n 0, 0, 0, 0), (.getfield 87, 0, 11, 24), (.iload_n 3, 0, 3, 0), (.isub, 0, 0, 0), (.iconst 3, 3, 0, 0)] 99 106 = true := by decide +kernel
theorem bk_X11_number_109_113 : rr_chk mX11_number [(.iload 4, 0, 4, 0), (.iload_n 1, 0, 1, 0), (.iload_n 2, 0, 2, 0)] 109 113 = true := by decide +kernel
theorem bk_X11_number_129_131 : rr_chk mX11_number [(.iload 4, 0, 4, 0)] 129 131 = true := by decide +kernel
theorem bk_X11_number_56_63 : rr_chk mX11_number [(.aload_n 0, 0, 0, 0), (.getfield 87, 0, 11, 24), (.iload_n 3, 0, 3, 0), (.isub, 0, 0, 0), (.iconst 3, 3, 0, 0)] 56 63 = true := by decide +kernel
theorem bk_X11_number_82_42 : rr_chk mX11_number [(.iload 4, 0, 4, 0), (.istore 4, 0, 4, 0), (.aload_n 0, 0, 0, 0), (.dup, 0, 0, 0), (.getfield 87, 0, 11, 24), (.iconst 1, 1, 0, 0), (.iadd, 0, 0, 0), (.putfield 87, 0, 11, 24), (.goto (-54), 0, 0, 0)] 82 42 = true := by decide +kernel
theorem bk_X11_number_66_72 : rr_chk mX11_number [(.bipush 10, 10, 0, 0), (.iload 4, 0, 4, 0), (.imul, 0, 0, 0), (.aload_n 0, 0, 0, 0)] 66 72 = true := by decide +kernel
theorem bk_X11_number_75_42 : rr_chk mX11_number [(.iadd, 0, 0, 0), (.bipush 48, 48, 0, 0), (.isub, 0, 0, 0), (.goto 5, 0, 0, 0), (.istore 4, 0, 4, 0), (.aload_n 0, 0, 0, 0), (.dup, 0, 0, 0), (.getfield 87, 0, 11, 24), (.iconst 1, 1, 0, 0), (.iadd, 0, 0, 0), (.putfield 87, 0, 11, 24), (.goto (-54), 0, 0, 0)] 75 42 = true := by decide +kernel
set_option maxRecDepth 100000 in
set_option maxHeartbeats 4000000 in
theorem m_number0 (len : Nat) (fa : Int32) (hd : Bool) (dd : Nat) (sd : Int32) (sg es a : Nat) (M : Nat → Nat → Int32) (lo hi : Int32) (hlen : len ≤ 240) (ha : a ≤ 10000) (hb : p_fg (p_nl (M 0) len a) = true) (hr : ¬ (3 < p_fe (M 0) len (p_sk (M 0) len a) - (p_sk (M 0) len a) ∨ m_in (p_nv (M 0) len a) lo hi = false)) : rr_C mX11_number 2 [.ref 0, .int lo, .int hi] (W_M (mv len fa hd dd sd sg es a 0) M) 0 0 (some (p_nv (M 0) len a)) (W_M (mv len fa hd dd sd sg es (p_fe (M 0) len (p_sk (M 0) len a)) 0) M) := by
  refine rr_C.of (n := 2) fX11_number.1 rfl rfl (fun Z hC => ?_)
  show rr_J Z 5 0 0 (rr_MQ Z 0 0 (some (p_nv (M 0) len a)) (W_M (mv len fa hd dd sd sg es (p_fe (M 0) len (p_sk (M 0) len a)) 0) M)) 0 [(0, .ref 0), (1, .int lo), (2, .int hi)] [] (W_M (mv len fa hd dd sd sg es a 0) M)
  have hal := p_fg_lt hb
  refine rr_go hC bk_X11_number_0_1 (l' := [(0, .ref 0), (1, .int lo), (2, .int hi)]) (st' := [.ref 0]) (w' := (W_M (mv len fa hd dd sd sg es a 0) M)) rfl ?_
  refine rr_callVI hC (by decide +kernel) kl_11_97 fX11_skips (m_skips len fa hd dd sd sg es a M (by omega) (by omega)) rfl rfl rfl rfl rfl (rest := []) rfl rfl ⟨Nat.zero_le _, Nat.zero_le _⟩ (Eq.refl 22) ?_
  show rr_J Z 5 0 0 _ 4 [(0, .ref 0), (1, .int lo), (2, .int hi)] [] (W_M (mv len fa hd dd sd sg es (p_sk (M 0) len a) 0) M)
  have hskm1 := p_sk_le (M 0) len a
  refine rr_go hC bk_X11_number_4_8 (l' := [(0, .ref 0), (1, .int lo), (2, .int hi)]) (st' := [.int 0]) (w' := (W_M (mv len fa hd dd sd sg es (p_sk (M 0) len a) 0) M)) rfl ?_
  refine rr_if_eq hC (off := 5) (tgt := 13) (by decide +kernel) (fun h8 => ?_) (fun h8 => by  exact absurd rfl h8)
  refine rr_go hC bk_X11_number_13_14 (l' := [(0, .ref 0), (1, .int lo), (2, .int hi)]) (st' := [.ref 0]) (w' := (W_M (mv len fa hd dd sd sg es (p_sk (M 0) len a) 0) M)) rfl ?_
  refine rr_callVI hC (by decide +kernel) kl_11_93 fX11_look (m_look len fa hd dd sd sg es (p_sk (M 0) len a) 0 M (by omega) (by omega)) rfl rfl rfl rfl rfl (rest := []) rfl rfl ⟨Nat.zero_le _, Nat.zero_le _⟩ (Eq.refl 22) ?_
  show rr_J Z 5 0 0 _ 17 [(0, .ref 0), (1, .int lo), (2, .int hi)] [.int (m_lk (M 0) len (p_sk (M 0) len a))] (W_M (mv len fa hd dd sd sg es (p_sk (M 0) len a) 0) M)
  refine rr_go hC bk_X11_number_17_21 (l' := [(0, .ref 0), (1, .int lo), (2, .int hi)]) (st' := [.int 57, .int 48, .int (m_lk (M 0) len (p_sk (M 0) len a))]) (w' := (W_M (mv len fa hd dd sd sg es (p_sk (M 0) len a) 0) M)) rfl ?_
  refine rr_callS hC (by decide +kernel) kl_11_78 fX11_in (m_c_in (m_lk (M 0) len (p_sk (M 0) len a)) 48 57) rfl rfl [] rfl rfl (Eq.refl 0) rfl (rest := []) rfl rfl ⟨Nat.zero_le _, Nat.zero_le _⟩ (w2 := (W_M (mv len fa hd dd sd sg es (p_sk (M 0) len a) 0) M)) rfl ?_
  show rr_J Z 5 0 0 _ 24 [(0, .ref 0), (1, .int lo), (2, .int hi)] [.int (rr_b (m_in (m_lk (M 0) len (p_sk (M 0) len a)) 48 57))] (W_M (mv len fa hd dd sd sg es (p_sk (M 0) len a) 0) M)
  refine rr_neb hC (off := 10) (tgt := 34) (by decide +kernel) (fun h24 => ?_) (fun h24 => by  rw [m_fg, m_lk_sk, hb] at h24; cases h24)
  refine rr_go hC bk_X11_number_34_42 (l' := [(0, .ref 0), (1, .int lo), (2, .int hi), (3, .int (nI (p_sk (M 0) len a))), (4, .int 0)]) (st' := []) (w' := (W_M (mv len fa hd dd sd sg es (p_sk (M 0) len a) 0) M)) rfl ?_
  have lp42 : ∀ (j i : Nat), i + j = len → (p_sk (M 0) len a) ≤ i → p_fe (M 0) len (p_sk (M 0) len a) = p_fe (M 0) len i → rr_J Z 5 0 0 (rr_MQ Z 0 0 (some (p_nv (M 0) len a)) (W_M (mv len fa hd dd sd sg es (p_fe (M 0) len (p_sk (M 0) len a)) 0) M)) 42 [(0, .ref 0), (1, .int lo), (2, .int hi), (3, .int (nI (p_sk (M 0) len a))), (4, .int (p_val (M 0) (p_sk (M 0) len a) (i - (p_sk (M 0) len a))))] [] (W_M (mv len fa hd dd sd sg es i 0) M) := by
    intro j
    induction j with
    | zero =>
      intro i hk42 hlo42 hq
      refine rr_go hC bk_X11_number_42_43 (l' := [(0, .ref 0), (1, .int lo), (2, .int hi), (3, .int (nI (p_sk (M 0) len a))), (4, .int (p_val (M 0) (p_sk (M 0) len a) (i - (p_sk (M 0) len a))))]) (st' := [.ref 0]) (w' := (W_M (mv len fa hd dd sd sg es i 0) M)) rfl ?_
      refine rr_callVI hC (by decide +kernel) kl_11_93 fX11_look (m_look len fa hd dd sd sg es i 0 M (by omega) (by omega)) rfl rfl rfl rfl rfl (rest := []) rfl rfl ⟨Nat.zero_le _, Nat.zero_le _⟩ (Eq.refl 22) ?_
      show rr_J Z 5 0 0 _ 46 [(0, .ref 0), (1, .int lo), (2, .int hi), (3, .int (nI (p_sk (M 0) len a))), (4, .int (p_val (M 0) (p_sk (M 0) len a) (i - (p_sk (M 0) len a))))] [.int (m_lk (M 0) len i)] (W_M (mv len fa hd dd sd sg es i 0) M)
      refine rr_go hC bk_X11_number_46_50 (l' := [(0, .ref 0), (1, .int lo), (2, .int hi), (3, .int (nI (p_sk (M 0) len a))), (4, .int (p_val (M 0) (p_sk (M 0) len a) (i - (p_sk (M 0) len a))))]) (st' := [.int 57, .int 48, .int (m_lk (M 0) len i)]) (w' := (W_M (mv len fa hd dd sd sg es i 0) M)) rfl ?_
      refine rr_callS hC (by decide +kernel) kl_11_78 fX11_in (m_c_in (m_lk (M 0) len i) 48 57) rfl rfl [] rfl rfl (Eq.refl 0) rfl (rest := []) rfl rfl ⟨Nat.zero_le _, Nat.zero_le _⟩ (w2 := (W_M (mv len fa hd dd sd sg es i 0) M)) rfl ?_
      show rr_J Z 5 0 0 _ 53 [(0, .ref 0), (1, .int lo), (2, .int hi), (3, .int (nI (p_sk (M 0) len a))), (4, .int (p_val (M 0) (p_sk (M 0) len a) (i - (p_sk (M 0) len a))))] [.int (rr_b (m_in (m_lk (M 0) len i) 48 57))] (W_M (mv len fa hd dd sd sg es i 0) M)
      refine rr_eqb hC (off := 46) (tgt := 99) (by decide +kernel) (fun h53 => ?_) (fun h53 => by  rw [m_fg] at h53; have := (m_lk_lt h53).1; omega)
      have hfe : p_fe (M 0) len (p_sk (M 0) len a) = i := hq.trans (by first | exact p_fe_end (by omega) | exact p_fe_stop (by omega) (by rw [m_fg] at h53; unfold m_lk at h53; rw [if_pos (by omega)] at h53; exact h53))
      have hnv : p_nv (M 0) len a = p_val (M 0) (p_sk (M 0) len a) (i - (p_sk (M 0) len a)) := by unfold p_nv; rw [hfe]
      refine rr_go hC bk_X11_number_99_106 (l' := [(0, .ref 0), (1, .int lo), (2, .int hi), (3, .int (nI (p_sk (M 0) len a))), (4, .int (p_val (M 0) (p_sk (M 0) len a) (i - (p_sk (M 0) len a))))]) (st' := [.int 3, .int ((nI i) - (nI (p_sk (M 0) len a)))]) (w' := (W_M (mv len fa hd dd sd sg es i 0) M)) rfl ?_
      rw [show ((nI i) - (nI (p_sk (M 0) len a)) : Int32) = nI (i - (p_sk (M 0) len a)) from pk_sub (a := i) (b := p_sk (M 0) len a) (by omega)]
      refine rr_icmp_gt hC (off := 13) (tgt := 119) (by decide +kernel) (fun h106 => by rw [rr_ln_lt (a := 3) (by omega) (by omega)] at h106; rw [hfe] at hr; exact absurd (Or.inl h106) hr) (fun h106 => ?_)
      rw [rr_ln_lt (a := 3) (by omega) (by omega)] at h106
      refine rr_go hC bk_X11_number_109_113 (l' := [(0, .ref 0), (1, .int lo), (2, .int hi), (3, .int (nI (p_sk (M 0) len a))), (4, .int (p_val (M 0) (p_sk (M 0) len a) (i - (p_sk (M 0) len a))))]) (st' := [.int hi, .int lo, .int (p_val (M 0) (p_sk (M 0) len a) (i - (p_sk (M 0) len a)))]) (w' := (W_M (mv len fa hd dd sd sg es i 0) M)) rfl ?_
      refine rr_callS hC (by decide +kernel) kl_11_78 fX11_in (m_c_in (p_val (M 0) (p_sk (M 0) len a) (i - (p_sk (M 0) len a))) lo hi) rfl rfl [] rfl rfl (Eq.refl 0) rfl (rest := []) rfl rfl ⟨Nat.zero_le _, Nat.zero_le _⟩ (w2 := (W_M (mv len fa hd dd sd sg es i 0) M)) rfl ?_
      show rr_J Z 5 0 0 _ 116 [(0, .ref 0), (1, .int lo), (2, .int hi), (3, .int (nI (p_sk (M 0) len a))), (4, .int (p_val (M 0) (p_sk (M 0) len a) (i - (p_sk (M 0) len a))))] [.int (rr_b (m_in (p_val (M 0) (p_sk (M 0) len a) (i - (p_sk (M 0) len a))) lo hi))] (W_M (mv len fa hd dd sd sg es i 0) M)
      refine rr_neb hC (off := 13) (tgt := 129) (by decide +kernel) (fun h116 => ?_) (fun h116 => by  rw [hfe, hnv] at hr; exact absurd (Or.inr h116) hr)
      refine rr_go hC bk_X11_number_129_131 (l' := [(0, .ref 0), (1, .int lo), (2, .int hi), (3, .int (nI (p_sk (M 0) len a))), (4, .int (p_val (M 0) (p_sk (M 0) len a) (i - (p_sk (M 0) len a))))]) (st' := [.int (p_val (M 0) (p_sk (M 0) len a) (i - (p_sk (M 0) len a)))]) (w' := (W_M (mv len fa hd dd sd sg es i 0) M)) rfl ?_
      exact rr_reti hC (by decide +kernel) (by rw [hnv]) (by rw [hfe]) ⟨Nat.zero_le _, Nat.zero_le _⟩
    | succ j ih =>
      intro i hk42 hlo42 hq
      refine rr_go hC bk_X11_number_42_43 (l' := [(0, .ref 0), (1, .int lo), (2, .int hi), (3, .int (nI (p_sk (M 0) len a))), (4, .int (p_val (M 0) (p_sk (M 0) len a) (i - (p_sk (M 0) len a))))]) (st' := [.ref 0]) (w' := (W_M (mv len fa hd dd sd sg es i 0) M)) rfl ?_
      refine rr_callVI hC (by decide +kernel) kl_11_93 fX11_look (m_look len fa hd dd sd sg es i 0 M (by omega) (by omega)) rfl rfl rfl rfl rfl (rest := []) rfl rfl ⟨Nat.zero_le _, Nat.zero_le _⟩ (Eq.refl 22) ?_
      show rr_J Z 5 0 0 _ 46 [(0, .ref 0), (1, .int lo), (2, .int hi), (3, .int (nI (p_sk (M 0) len a))), (4, .int (p_val (M 0) (p_sk (M 0) len a) (i - (p_sk (M 0) len a))))] [.int (m_lk (M 0) len i)] (W_M (mv len fa hd dd sd sg es i 0) M)
      refine rr_go hC bk_X11_number_46_50 (l' := [(0, .ref 0), (1, .int lo), (2, .int hi), (3, .int (nI (p_sk (M 0) len a))), (4, .int (p_val (M 0) (p_sk (M 0) len a) (i - (p_sk (M 0) len a))))]) (st' := [.int 57, .int 48, .int (m_lk (M 0) len i)]) (w' := (W_M (mv len fa hd dd sd sg es i 0) M)) rfl ?_
      refine rr_callS hC (by decide +kernel) kl_11_78 fX11_in (m_c_in (m_lk (M 0) len i) 48 57) rfl rfl [] rfl rfl (Eq.refl 0) rfl (rest := []) rfl rfl ⟨Nat.zero_le _, Nat.zero_le _⟩ (w2 := (W_M (mv len fa hd dd sd sg es i 0) M)) rfl ?_
      show rr_J Z 5 0 0 _ 53 [(0, .ref 0), (1, .int lo), (2, .int hi), (3, .int (nI (p_sk (M 0) len a))), (4, .int (p_val (M 0) (p_sk (M 0) len a) (i - (p_sk (M 0) len a))))] [.int (rr_b (m_in (m_lk (M 0) len i) 48 57))] (W_M (mv len fa hd dd sd sg es i 0) M)
      refine rr_eqb hC (off := 46) (tgt := 99) (by decide +kernel) (fun h53 => ?_) (fun h53 => ?_)
      · have hfe : p_fe (M 0) len (p_sk (M 0) len a) = i := hq.trans (by first | exact p_fe_end (by omega) | exact p_fe_stop (by omega) (by rw [m_fg] at h53; unfold m_lk at h53; rw [if_pos (by omega)] at h53; exact h53))
        have hnv : p_nv (M 0) len a = p_val (M 0) (p_sk (M 0) len a) (i - (p_sk (M 0) len a)) := by unfold p_nv; rw [hfe]
        refine rr_go hC bk_X11_number_99_106 (l' := [(0, .ref 0), (1, .int lo), (2, .int hi), (3, .int (nI (p_sk (M 0) len a))), (4, .int (p_val (M 0) (p_sk (M 0) len a) (i - (p_sk (M 0) len a))))]) (st' := [.int 3, .int ((nI i) - (nI (p_sk (M 0) len a)))]) (w' := (W_M (mv len fa hd dd sd sg es i 0) M)) rfl ?_
        rw [show ((nI i) - (nI (p_sk (M 0) len a)) : Int32) = nI (i - (p_sk (M 0) len a)) from pk_sub (a := i) (b := p_sk (M 0) len a) (by omega)]
        refine rr_icmp_gt hC (off := 13) (tgt := 119) (by decide +kernel) (fun h106 => by rw [rr_ln_lt (a := 3) (by omega) (by omega)] at h106; rw [hfe] at hr; exact absurd (Or.inl h106) hr) (fun h106 => ?_)
        rw [rr_ln_lt (a := 3) (by omega) (by omega)] at h106
        refine rr_go hC bk_X11_number_109_113 (l' := [(0, .ref 0), (1, .int lo), (2, .int hi), (3, .int (nI (p_sk (M 0) len a))), (4, .int (p_val (M 0) (p_sk (M 0) len a) (i - (p_sk (M 0) len a))))]) (st' := [.int hi, .int lo, .int (p_val (M 0) (p_sk (M 0) len a) (i - (p_sk (M 0) len a)))]) (w' := (W_M (mv len fa hd dd sd sg es i 0) M)) rfl ?_
        refine rr_callS hC (by decide +kernel) kl_11_78 fX11_in (m_c_in (p_val (M 0) (p_sk (M 0) len a) (i - (p_sk (M 0) len a))) lo hi) rfl rfl [] rfl rfl (Eq.refl 0) rfl (rest := []) rfl rfl ⟨Nat.zero_le _, Nat.zero_le _⟩ (w2 := (W_M (mv len fa hd dd sd sg es i 0) M)) rfl ?_
        show rr_J Z 5 0 0 _ 116 [(0, .ref 0), (1, .int lo), (2, .int hi), (3, .int (nI (p_sk (M 0) len a))), (4, .int (p_val (M 0) (p_sk (M 0) len a) (i - (p_sk (M 0) len a))))] [.int (rr_b (m_in (p_val (M 0) (p_sk (M 0) len a) (i - (p_sk (M 0) len a))) lo hi))] (W_M (mv len fa hd dd sd sg es i 0) M)
        refine rr_neb hC (off := 13) (tgt := 129) (by decide +kernel) (fun h116 => ?_) (fun h116 => by  rw [hfe, hnv] at hr; exact absurd (Or.inr h116) hr)
        refine rr_go hC bk_X11_number_129_131 (l' := [(0, .ref 0), (1, .int lo), (2, .int hi), (3, .int (nI (p_sk (M 0) len a))), (4, .int (p_val (M 0) (p_sk (M 0) len a) (i - (p_sk (M 0) len a))))]) (st' := [.int (p_val (M 0) (p_sk (M 0) len a) (i - (p_sk (M 0) len a)))]) (w' := (W_M (mv len fa hd dd sd sg es i 0) M)) rfl ?_
        exact rr_reti hC (by decide +kernel) (by rw [hnv]) (by rw [hfe]) ⟨Nat.zero_le _, Nat.zero_le _⟩
      · obtain ⟨hil, hlk⟩ := m_lk_lt (by rw [m_fg] at h53; exact h53)
        refine rr_go hC bk_X11_number_56_63 (l' := [(0, .ref 0), (1, .int lo), (2, .int hi), (3, .int (nI (p_sk (M 0) len a))), (4, .int (p_val (M 0) (p_sk (M 0) len a) (i - (p_sk (M 0) len a))))]) (st' := [.int 3, .int ((nI i) - (nI (p_sk (M 0) len a)))]) (w' := (W_M (mv len fa hd dd sd sg es i 0) M)) rfl ?_
        rw [show ((nI i) - (nI (p_sk (M 0) len a)) : Int32) = nI (i - (p_sk (M 0) len a)) from pk_sub (a := i) (b := p_sk (M 0) len a) (by omega)]
        refine rr_icmp_ge hC (off := 19) (tgt := 82) (by decide +kernel) (fun h63 => ?_) (fun h63 => ?_)
        · rw [rr_ln_le (a := 3) (by omega) (by omega)] at h63
          refine rr_go hC bk_X11_number_82_42 (l' := [(0, .ref 0), (1, .int lo), (2, .int hi), (3, .int (nI (p_sk (M 0) len a))), (4, .int (p_val (M 0) (p_sk (M 0) len a) (i - (p_sk (M 0) len a))))]) (st' := []) (w' := (W_M (upd (mv len fa hd dd sd sg es i 0) 7 ((nI i) + 1)) M)) rfl ?_
          rw [show ((nI i) + 1 : Int32) = nI (i + 1) from nI_add i 1]
          exact rr_cast (l' := [(0, .ref 0), (1, .int lo), (2, .int hi), (3, .int (nI (p_sk (M 0) len a))), (4, .int (p_val (M 0) (p_sk (M 0) len a) ((i + 1) - (p_sk (M 0) len a))))]) (by rw [show i + 1 - (p_sk (M 0) len a) = (i - (p_sk (M 0) len a)) + 1 by omega]; simp only [p_val]; first | (rw [if_pos (by omega), show (p_sk (M 0) len a) + (i - (p_sk (M 0) len a)) = i by omega, hlk, Int32.mul_comm]; done) | (rw [if_neg (by omega)]; done)) rfl (w' := (W_M (mv len fa hd dd sd sg es (i + 1) 0) M)) (by rfl) (ih (i + 1) (by omega) (by omega) (hq.trans (p_fe_go (by omega) (by rw [m_fg] at h53; rw [hlk] at h53; exact h53))))
        · rw [rr_ln_le (a := 3) (by omega) (by omega)] at h63
          refine rr_go hC bk_X11_number_66_72 (l' := [(0, .ref 0), (1, .int lo), (2, .int hi), (3, .int (nI (p_sk (M 0) len a))), (4, .int (p_val (M 0) (p_sk (M 0) len a) (i - (p_sk (M 0) len a))))]) (st' := [.ref 0, .int (10 * (p_val (M 0) (p_sk (M 0) len a) (i - (p_sk (M 0) len a))))]) (w' := (W_M (mv len fa hd dd sd sg es i 0) M)) rfl ?_
          refine rr_callVI hC (by decide +kernel) kl_11_93 fX11_look (m_look len fa hd dd sd sg es i 0 M (by omega) (by omega)) rfl rfl rfl rfl rfl (rest := [.int (10 * (p_val (M 0) (p_sk (M 0) len a) (i - (p_sk (M 0) len a))))]) rfl rfl ⟨Nat.zero_le _, Nat.zero_le _⟩ (Eq.refl 22) ?_
          show rr_J Z 5 0 0 _ 75 [(0, .ref 0), (1, .int lo), (2, .int hi), (3, .int (nI (p_sk (M 0) len a))), (4, .int (p_val (M 0) (p_sk (M 0) len a) (i - (p_sk (M 0) len a))))] [.int (m_lk (M 0) len i), .int (10 * (p_val (M 0) (p_sk (M 0) len a) (i - (p_sk (M 0) len a))))] (W_M (mv len fa hd dd sd sg es i 0) M)
          refine rr_go hC bk_X11_number_75_42 (l' := [(0, .ref 0), (1, .int lo), (2, .int hi), (3, .int (nI (p_sk (M 0) len a))), (4, .int (((10 * (p_val (M 0) (p_sk (M 0) len a) (i - (p_sk (M 0) len a)))) + (m_lk (M 0) len i)) - 48))]) (st' := []) (w' := (W_M (upd (mv len fa hd dd sd sg es i 0) 7 ((nI i) + 1)) M)) rfl ?_
          rw [show ((nI i) + 1 : Int32) = nI (i + 1) from nI_add i 1]
          exact rr_cast (l' := [(0, .ref 0), (1, .int lo), (2, .int hi), (3, .int (nI (p_sk (M 0) len a))), (4, .int (p_val (M 0) (p_sk (M 0) len a) ((i + 1) - (p_sk (M 0) len a))))]) (by rw [show i + 1 - (p_sk (M 0) len a) = (i - (p_sk (M 0) len a)) + 1 by omega]; simp only [p_val]; first | (rw [if_pos (by omega), show (p_sk (M 0) len a) + (i - (p_sk (M 0) len a)) = i by omega, hlk, Int32.mul_comm]; done) | (rw [if_neg (by omega)]; done)) rfl (w' := (W_M (mv len fa hd dd sd sg es (i + 1) 0) M)) (by rfl) (ih (i + 1) (by omega) (by omega) (hq.trans (p_fe_go (by omega) (by rw [m_fg] at h53; rw [hlk] at h53; exact h53))))
  exact rr_cast (l' := [(0, .ref 0), (1, .int lo), (2, .int hi), (3, .int (nI (p_sk (M 0) len a))), (4, .int (p_val (M 0) (p_sk (M 0) len a) ((p_sk (M 0) len a) - (p_sk (M 0) len a))))]) (by first | rfl | (rw [Nat.sub_self]; rfl)) rfl (w' := (W_M (mv len fa hd dd sd sg es (p_sk (M 0) len a) 0) M)) (by rfl) (lp42 (len - (p_sk (M 0) len a)) (p_sk (M 0) len a) (by omega) (Nat.le_refl _) rfl)
theorem bk_X11_number_119_126 : rr_chk mX11_number [(.aload_n 0, 0, 0, 0), (.iload_n 3, 0, 3, 0), (.putfield 87, 0, 11, 24), (.aload_n 0, 0, 0, 0), (.iconst 2, 2, 0, 0)] 119 126 = true := by decide +kernel
set_option maxRecDepth 100000 in
set_option maxHeartbeats 4000000 in
theorem m_number2 (len : Nat) (fa : Int32) (hd : Bool) (dd : Nat) (sd : Int32) (sg es a : Nat) (M : Nat → Nat → Int32) (lo hi : Int32) (hlen : len ≤ 240) (ha : a ≤ 10000) (hb : p_fg (p_nl (M 0) len a) = true) (hr : (3 < p_fe (M 0) len (p_sk (M 0) len a) - (p_sk (M 0) len a) ∨ m_in (p_nv (M 0) len a) lo hi = false)) : rr_C mX11_number 2 [.ref 0, .int lo, .int hi] (W_M (mv len fa hd dd sd sg es a 0) M) 0 0 (some (p_nv (M 0) len a)) (W_M (mv len fa hd dd sd sg es (p_sk (M 0) len a) 2) M) := by
  refine rr_C.of (n := 2) fX11_number.1 rfl rfl (fun Z hC => ?_)
  show rr_J Z 5 0 0 (rr_MQ Z 0 0 (some (p_nv (M 0) len a)) (W_M (mv len fa hd dd sd sg es (p_sk (M 0) len a) 2) M)) 0 [(0, .ref 0), (1, .int lo), (2, .int hi)] [] (W_M (mv len fa hd dd sd sg es a 0) M)
  have hal := p_fg_lt hb
  refine rr_go hC bk_X11_number_0_1 (l' := [(0, .ref 0), (1, .int lo), (2, .int hi)]) (st' := [.ref 0]) (w' := (W_M (mv len fa hd dd sd sg es a 0) M)) rfl ?_
  refine rr_callVI hC (by decide +kernel) kl_11_97 fX11_skips (m_skips len fa hd dd sd sg es a M (by omega) (by omega)) rfl rfl rfl rfl rfl (rest := []) rfl rfl ⟨Nat.zero_le _, Nat.zero_le _⟩ (Eq.refl 22) ?_
  show rr_J Z 5 0 0 _ 4 [(0, .ref 0), (1, .int lo), (2, .int hi)] [] (W_M (mv len fa hd dd sd sg es (p_sk (M 0) len a) 0) M)
  have hskm1 := p_sk_le (M 0) len a
  refine rr_go hC bk_X11_number_4_8 (l' := [(0, .ref 0), (1, .int lo), (2, .int hi)]) (st' := [.int 0]) (w' := (W_M (mv len fa hd dd sd sg es (p_sk (M 0) len a) 0) M)) rfl ?_
  refine rr_if_eq hC (off := 5) (tgt := 13) (by decide +kernel) (fun h8 => ?_) (fun h8 => by  exact absurd rfl h8)
  refine rr_go hC bk_X11_number_13_14 (l' := [(0, .ref 0), (1, .int lo), (2, .int hi)]) (st' := [.ref 0]) (w' := (W_M (mv len fa hd dd sd sg es (p_sk (M 0) len a) 0) M)) rfl ?_
  refine rr_callVI hC (by decide +kernel) kl_11_93 fX11_look (m_look len fa hd dd sd sg es (p_sk (M 0) len a) 0 M (by omega) (by omega)) rfl rfl rfl rfl rfl (rest := []) rfl rfl ⟨Nat.zero_le _, Nat.zero_le _⟩ (Eq.refl 22) ?_
  show rr_J Z 5 0 0 _ 17 [(0, .ref 0), (1, .int lo), (2, .int hi)] [.int (m_lk (M 0) len (p_sk (M 0) len a))] (W_M (mv len fa hd dd sd sg es (p_sk (M 0) len a) 0) M)
  refine rr_go hC bk_X11_number_17_21 (l' := [(0, .ref 0), (1, .int lo), (2, .int hi)]) (st' := [.int 57, .int 48, .int (m_lk (M 0) len (p_sk (M 0) len a))]) (w' := (W_M (mv len fa hd dd sd sg es (p_sk (M 0) len a) 0) M)) rfl ?_
  refine rr_callS hC (by decide +kernel) kl_11_78 fX11_in (m_c_in (m_lk (M 0) len (p_sk (M 0) len a)) 48 57) rfl rfl [] rfl rfl (Eq.refl 0) rfl (rest := []) rfl rfl ⟨Nat.zero_le _, Nat.zero_le _⟩ (w2 := (W_M (mv len fa hd dd sd sg es (p_sk (M 0) len a) 0) M)) rfl ?_
  show rr_J Z 5 0 0 _ 24 [(0, .ref 0), (1, .int lo), (2, .int hi)] [.int (rr_b (m_in (m_lk (M 0) len (p_sk (M 0) len a)) 48 57))] (W_M (mv len fa hd dd sd sg es (p_sk (M 0) len a) 0) M)
  refine rr_neb hC (off := 10) (tgt := 34) (by decide +kernel) (fun h24 => ?_) (fun h24 => by  rw [m_fg, m_lk_sk, hb] at h24; cases h24)
  refine rr_go hC bk_X11_number_34_42 (l' := [(0, .ref 0), (1, .int lo), (2, .int hi), (3, .int (nI (p_sk (M 0) len a))), (4, .int 0)]) (st' := []) (w' := (W_M (mv len fa hd dd sd sg es (p_sk (M 0) len a) 0) M)) rfl ?_
  have lp42 : ∀ (j i : Nat), i + j = len → (p_sk (M 0) len a) ≤ i → p_fe (M 0) len (p_sk (M 0) len a) = p_fe (M 0) len i → rr_J Z 5 0 0 (rr_MQ Z 0 0 (some (p_nv (M 0) len a)) (W_M (mv len fa hd dd sd sg es (p_sk (M 0) len a) 2) M)) 42 [(0, .ref 0), (1, .int lo), (2, .int hi), (3, .int (nI (p_sk (M 0) len a))), (4, .int (p_val (M 0) (p_sk (M 0) len a) (i - (p_sk (M 0) len a))))] [] (W_M (mv len fa hd dd sd sg es i 0) M) := by
    intro j
    induction j with
    | zero =>
      intro i hk42 hlo42 hq
      refine rr_go hC bk_X11_number_42_43 (l' := [(0, .ref 0), (1, .int lo), (2, .int hi), (3, .int (nI (p_sk (M 0) len a))), (4, .int (p_val (M 0) (p_sk (M 0) len a) (i - (p_sk (M 0) len a))))]) (st' := [.ref 0]) (w' := (W_M (mv len fa hd dd sd sg es i 0) M)) rfl ?_
      refine rr_callVI hC (by decide +kernel) kl_11_93 fX11_look (m_look len fa hd dd sd sg es i 0 M (by omega) (by omega)) rfl rfl rfl rfl rfl (rest := []) rfl rfl ⟨Nat.zero_le _, Nat.zero_le _⟩ (Eq.refl 22) ?_
      show rr_J Z 5 0 0 _ 46 [(0, .ref 0), (1, .int lo), (2, .int hi), (3, .int (nI (p_sk (M 0) len a))), (4, .int (p_val (M 0) (p_sk (M 0) len a) (i - (p_sk (M 0) len a))))] [.int (m_lk (M 0) len i)] (W_M (mv len fa hd dd sd sg es i 0) M)
      refine rr_go hC bk_X11_number_46_50 (l' := [(0, .ref 0), (1, .int lo), (2, .int hi), (3, .int (nI (p_sk (M 0) len a))), (4, .int (p_val (M 0) (p_sk (M 0) len a) (i - (p_sk (M 0) len a))))]) (st' := [.int 57, .int 48, .int (m_lk (M 0) len i)]) (w' := (W_M (mv len fa hd dd sd sg es i 0) M)) rfl ?_
      refine rr_callS hC (by decide +kernel) kl_11_78 fX11_in (m_c_in (m_lk (M 0) len i) 48 57) rfl rfl [] rfl rfl (Eq.refl 0) rfl (rest := []) rfl rfl ⟨Nat.zero_le _, Nat.zero_le _⟩ (w2 := (W_M (mv len fa hd dd sd sg es i 0) M)) rfl ?_
      show rr_J Z 5 0 0 _ 53 [(0, .ref 0), (1, .int lo), (2, .int hi), (3, .int (nI (p_sk (M 0) len a))), (4, .int (p_val (M 0) (p_sk (M 0) len a) (i - (p_sk (M 0) len a))))] [.int (rr_b (m_in (m_lk (M 0) len i) 48 57))] (W_M (mv len fa hd dd sd sg es i 0) M)
      refine rr_eqb hC (off := 46) (tgt := 99) (by decide +kernel) (fun h53 => ?_) (fun h53 => by  rw [m_fg] at h53; have := (m_lk_lt h53).1; omega)
      have hfe : p_fe (M 0) len (p_sk (M 0) len a) = i := hq.trans (by first | exact p_fe_end (by omega) | exact p_fe_stop (by omega) (by rw [m_fg] at h53; unfold m_lk at h53; rw [if_pos (by omega)] at h53; exact h53))
      have hnv : p_nv (M 0) len a = p_val (M 0) (p_sk (M 0) len a) (i - (p_sk (M 0) len a)) := by unfold p_nv; rw [hfe]
      refine rr_go hC bk_X11_number_99_106 (l' := [(0, .ref 0), (1, .int lo), (2, .int hi), (3, .int (nI (p_sk (M 0) len a))), (4, .int (p_val (M 0) (p_sk (M 0) len a) (i - (p_sk (M 0) len a))))]) (st' := [.int 3, .int ((nI i) - (nI (p_sk (M 0) len a)))]) (w' := (W_M (mv len fa hd dd sd sg es i 0) M)) rfl ?_
      rw [show ((nI i) - (nI (p_sk (M 0) len a)) : Int32) = nI (i - (p_sk (M 0) len a)) from pk_sub (a := i) (b := p_sk (M 0) len a) (by omega)]
      refine rr_icmp_gt hC (off := 13) (tgt := 119) (by decide +kernel) (fun h106 => ?_) (fun h106 => ?_)
      · rw [rr_ln_lt (a := 3) (by omega) (by omega)] at h106
        refine rr_go hC bk_X11_number_119_126 (l' := [(0, .ref 0), (1, .int lo), (2, .int hi), (3, .int (nI (p_sk (M 0) len a))), (4, .int (p_val (M 0) (p_sk (M 0) len a) (i - (p_sk (M 0) len a))))]) (st' := [.int 2, .ref 0]) (w' := (W_M (upd (mv len fa hd dd sd sg es i 0) 7 (nI (p_sk (M 0) len a))) M)) rfl ?_
        refine rr_callVI hC (by decide +kernel) kl_11_100 fX11_fails (m_fails len fa hd dd sd sg es (p_sk (M 0) len a) 0 M 2) rfl rfl rfl rfl rfl (rest := []) rfl rfl ⟨Nat.zero_le _, Nat.zero_le _⟩ (Eq.refl 22) ?_
        show rr_J Z 5 0 0 _ 129 [(0, .ref 0), (1, .int lo), (2, .int hi), (3, .int (nI (p_sk (M 0) len a))), (4, .int (p_val (M 0) (p_sk (M 0) len a) (i - (p_sk (M 0) len a))))] [] (W_M (mv len fa hd dd sd sg es (p_sk (M 0) len a) (if 0 = 0 then 2 else 0)) M)
        refine rr_go hC bk_X11_number_129_131 (l' := [(0, .ref 0), (1, .int lo), (2, .int hi), (3, .int (nI (p_sk (M 0) len a))), (4, .int (p_val (M 0) (p_sk (M 0) len a) (i - (p_sk (M 0) len a))))]) (st' := [.int (p_val (M 0) (p_sk (M 0) len a) (i - (p_sk (M 0) len a)))]) (w' := (W_M (mv len fa hd dd sd sg es (p_sk (M 0) len a) (if 0 = 0 then 2 else 0)) M)) rfl ?_
        exact rr_reti hC (by decide +kernel) (by rw [hnv]) (by rw [if_pos rfl]) ⟨Nat.zero_le _, Nat.zero_le _⟩
      · rw [rr_ln_lt (a := 3) (by omega) (by omega)] at h106
        refine rr_go hC bk_X11_number_109_113 (l' := [(0, .ref 0), (1, .int lo), (2, .int hi), (3, .int (nI (p_sk (M 0) len a))), (4, .int (p_val (M 0) (p_sk (M 0) len a) (i - (p_sk (M 0) len a))))]) (st' := [.int hi, .int lo, .int (p_val (M 0) (p_sk (M 0) len a) (i - (p_sk (M 0) len a)))]) (w' := (W_M (mv len fa hd dd sd sg es i 0) M)) rfl ?_
        refine rr_callS hC (by decide +kernel) kl_11_78 fX11_in (m_c_in (p_val (M 0) (p_sk (M 0) len a) (i - (p_sk (M 0) len a))) lo hi) rfl rfl [] rfl rfl (Eq.refl 0) rfl (rest := []) rfl rfl ⟨Nat.zero_le _, Nat.zero_le _⟩ (w2 := (W_M (mv len fa hd dd sd sg es i 0) M)) rfl ?_
        show rr_J Z 5 0 0 _ 116 [(0, .ref 0), (1, .int lo), (2, .int hi), (3, .int (nI (p_sk (M 0) len a))), (4, .int (p_val (M 0) (p_sk (M 0) len a) (i - (p_sk (M 0) len a))))] [.int (rr_b (m_in (p_val (M 0) (p_sk (M 0) len a) (i - (p_sk (M 0) len a))) lo hi))] (W_M (mv len fa hd dd sd sg es i 0) M)
        refine rr_neb hC (off := 13) (tgt := 129) (by decide +kernel) (fun h116 => by  rw [hfe, hnv] at hr; rcases hr with z | z; exact absurd z h106; rw [z] at h116; cases h116) (fun h116 => ?_)
        refine rr_go hC bk_X11_number_119_126 (l' := [(0, .ref 0), (1, .int lo), (2, .int hi), (3, .int (nI (p_sk (M 0) len a))), (4, .int (p_val (M 0) (p_sk (M 0) len a) (i - (p_sk (M 0) len a))))]) (st' := [.int 2, .ref 0]) (w' := (W_M (upd (mv len fa hd dd sd sg es i 0) 7 (nI (p_sk (M 0) len a))) M)) rfl ?_
        refine rr_callVI hC (by decide +kernel) kl_11_100 fX11_fails (m_fails len fa hd dd sd sg es (p_sk (M 0) len a) 0 M 2) rfl rfl rfl rfl rfl (rest := []) rfl rfl ⟨Nat.zero_le _, Nat.zero_le _⟩ (Eq.refl 22) ?_
        show rr_J Z 5 0 0 _ 129 [(0, .ref 0), (1, .int lo), (2, .int hi), (3, .int (nI (p_sk (M 0) len a))), (4, .int (p_val (M 0) (p_sk (M 0) len a) (i - (p_sk (M 0) len a))))] [] (W_M (mv len fa hd dd sd sg es (p_sk (M 0) len a) (if 0 = 0 then 2 else 0)) M)
        refine rr_go hC bk_X11_number_129_131 (l' := [(0, .ref 0), (1, .int lo), (2, .int hi), (3, .int (nI (p_sk (M 0) len a))), (4, .int (p_val (M 0) (p_sk (M 0) len a) (i - (p_sk (M 0) len a))))]) (st' := [.int (p_val (M 0) (p_sk (M 0) len a) (i - (p_sk (M 0) len a)))]) (w' := (W_M (mv len fa hd dd sd sg es (p_sk (M 0) len a) (if 0 = 0 then 2 else 0)) M)) rfl ?_
        exact rr_reti hC (by decide +kernel) (by rw [hnv]) (by rw [if_pos rfl]) ⟨Nat.zero_le _, Nat.zero_le _⟩
    | succ j ih =>
      intro i hk42 hlo42 hq
      refine rr_go hC bk_X11_number_42_43 (l' := [(0, .ref 0), (1, .int lo), (2, .int hi), (3, .int (nI (p_sk (M 0) len a))), (4, .int (p_val (M 0) (p_sk (M 0) len a) (i - (p_sk (M 0) len a))))]) (st' := [.ref 0]) (w' := (W_M (mv len fa hd dd sd sg es i 0) M)) rfl ?_
      refine rr_callVI hC (by decide +kernel) kl_11_93 fX11_look (m_look len fa hd dd sd sg es i 0 M (by omega) (by omega)) rfl rfl rfl rfl rfl (rest := []) rfl rfl ⟨Nat.zero_le _, Nat.zero_le _⟩ (Eq.refl 22) ?_
      show rr_J Z 5 0 0 _ 46 [(0, .ref 0), (1, .int lo), (2, .int hi), (3, .int (nI (p_sk (M 0) len a))), (4, .int (p_val (M 0) (p_sk (M 0) len a) (i - (p_sk (M 0) len a))))] [.int (m_lk (M 0) len i)] (W_M (mv len fa hd dd sd sg es i 0) M)
      refine rr_go hC bk_X11_number_46_50 (l' := [(0, .ref 0), (1, .int lo), (2, .int hi), (3, .int (nI (p_sk (M 0) len a))), (4, .int (p_val (M 0) (p_sk (M 0) len a) (i - (p_sk (M 0) len a))))]) (st' := [.int 57, .int 48, .int (m_lk (M 0) len i)]) (w' := (W_M (mv len fa hd dd sd sg es i 0) M)) rfl ?_
      refine rr_callS hC (by decide +kernel) kl_11_78 fX11_in (m_c_in (m_lk (M 0) len i) 48 57) rfl rfl [] rfl rfl (Eq.refl 0) rfl (rest := []) rfl rfl ⟨Nat.zero_le _, Nat.zero_le _⟩ (w2 := (W_M (mv len fa hd dd sd sg es i 0) M)) rfl ?_
      show rr_J Z 5 0 0 _ 53 [(0, .ref 0), (1, .int lo), (2, .int hi), (3, .int (nI (p_sk (M 0) len a))), (4, .int (p_val (M 0) (p_sk (M 0) len a) (i - (p_sk (M 0) len a))))] [.int (rr_b (m_in (m_lk (M 0) len i) 48 57))] (W_M (mv len fa hd dd sd sg es i 0) M)
      refine rr_eqb hC (off := 46) (tgt := 99) (by decide +kernel) (fun h53 => ?_) (fun h53 => ?_)
      · have hfe : p_fe (M 0) len (p_sk (M 0) len a) = i := hq.trans (by first | exact p_fe_end (by omega) | exact p_fe_stop (by omega) (by rw [m_fg] at h53; unfold m_lk at h53; rw [if_pos (by omega)] at h53; exact h53))
        have hnv : p_nv (M 0) len a = p_val (M 0) (p_sk (M 0) len a) (i - (p_sk (M 0) len a)) := by unfold p_nv; rw [hfe]
        refine rr_go hC bk_X11_number_99_106 (l' := [(0, .ref 0), (1, .int lo), (2, .int hi), (3, .int (nI (p_sk (M 0) len a))), (4, .int (p_val (M 0) (p_sk (M 0) len a) (i - (p_sk (M 0) len a))))]) (st' := [.int 3, .int ((nI i) - (nI (p_sk (M 0) len a)))]) (w' := (W_M (mv len fa hd dd sd sg es i 0) M)) rfl ?_
        rw [show ((nI i) - (nI (p_sk (M 0) len a)) : Int32) = nI (i - (p_sk (M 0) len a)) from pk_sub (a := i) (b := p_sk (M 0) len a) (by omega)]
        refine rr_icmp_gt hC (off := 13) (tgt := 119) (by decide +kernel) (fun h106 => ?_) (fun h106 => ?_)
        · rw [rr_ln_lt (a := 3) (by omega) (by omega)] at h106
          refine rr_go hC bk_X11_number_119_126 (l' := [(0, .ref 0), (1, .int lo), (2, .int hi), (3, .int (nI (p_sk (M 0) len a))), (4, .int (p_val (M 0) (p_sk (M 0) len a) (i - (p_sk (M 0) len a))))]) (st' := [.int 2, .ref 0]) (w' := (W_M (upd (mv len fa hd dd sd sg es i 0) 7 (nI (p_sk (M 0) len a))) M)) rfl ?_
          refine rr_callVI hC (by decide +kernel) kl_11_100 fX11_fails (m_fails len fa hd dd sd sg es (p_sk (M 0) len a) 0 M 2) rfl rfl rfl rfl rfl (rest := []) rfl rfl ⟨Nat.zero_le _, Nat.zero_le _⟩ (Eq.refl 22) ?_
          show rr_J Z 5 0 0 _ 129 [(0, .ref 0), (1, .int lo), (2, .int hi), (3, .int (nI (p_sk (M 0) len a))), (4, .int (p_val (M 0) (p_sk (M 0) len a) (i - (p_sk (M 0) len a))))] [] (W_M (mv len fa hd dd sd sg es (p_sk (M 0) len a) (if 0 = 0 then 2 else 0)) M)
          refine rr_go hC bk_X11_number_129_131 (l' := [(0, .ref 0), (1, .int lo), (2, .int hi), (3, .int (nI (p_sk (M 0) len a))), (4, .int (p_val (M 0) (p_sk (M 0) len a) (i - (p_sk (M 0) len a))))]) (st' := [.int (p_val (M 0) (p_sk (M 0) len a) (i - (p_sk (M 0) len a)))]) (w' := (W_M (mv len fa hd dd sd sg es (p_sk (M 0) len a) (if 0 = 0 then 2 else 0)) M)) rfl ?_
          exact rr_reti hC (by decide +kernel) (by rw [hnv]) (by rw [if_pos rfl]) ⟨Nat.zero_le _, Nat.zero_le _⟩
        · rw [rr_ln_lt (a := 3) (by omega) (by omega)] at h106
          refine rr_go hC bk_X11_number_109_113 (l' := [(0, .ref 0), (1, .int lo), (2, .int hi), (3, .int (nI (p_sk (M 0) len a))), (4, .int (p_val (M 0) (p_sk (M 0) len a) (i - (p_sk (M 0) len a))))]) (st' := [.int hi, .int lo, .int (p_val (M 0) (p_sk (M 0) len a) (i - (p_sk (M 0) len a)))]) (w' := (W_M (mv len fa hd dd sd sg es i 0) M)) rfl ?_
          refine rr_callS hC (by decide +kernel) kl_11_78 fX11_in (m_c_in (p_val (M 0) (p_sk (M 0) len a) (i - (p_sk (M 0) len a))) lo hi) rfl rfl [] rfl rfl (Eq.refl 0) rfl (rest := []) rfl rfl ⟨Nat.zero_le _, Nat.zero_le _⟩ (w2 := (W_M (mv len fa hd dd sd sg es i 0) M)) rfl ?_
          show rr_J Z 5 0 0 _ 116 [(0, .ref 0), (1, .int lo), (2, .int hi), (3, .int (nI (p_sk (M 0) len a))), (4, .int (p_val (M 0) (p_sk (M 0) len a) (i - (p_sk (M 0) len a))))] [.int (rr_b (m_in (p_val (M 0) (p_sk (M 0) len a) (i - (p_sk (M 0) len a))) lo hi))] (W_M (mv len fa hd dd sd sg es i 0) M)
          refine rr_neb hC (off := 13) (tgt := 129) (by decide +kernel) (fun h116 => by  rw [hfe, hnv] at hr; rcases hr with z | z; exact absurd z h106; rw [z] at h116; cases h116) (fun h116 => ?_)
          refine rr_go hC bk_X11_number_119_126 (l' := [(0, .ref 0), (1, .int lo), (2, .int hi), (3, .int (nI (p_sk (M 0) len a))), (4, .int (p_val (M 0) (p_sk (M 0) len a) (i - (p_sk (M 0) len a))))]) (st' := [.int 2, .ref 0]) (w' := (W_M (upd (mv len fa hd dd sd sg es i 0) 7 (nI (p_sk (M 0) len a))) M)) rfl ?_
          refine rr_callVI hC (by decide +kernel) kl_11_100 fX11_fails (m_fails len fa hd dd sd sg es (p_sk (M 0) len a) 0 M 2) rfl rfl rfl rfl rfl (rest := []) rfl rfl ⟨Nat.zero_le _, Nat.zero_le _⟩ (Eq.refl 22) ?_
          show rr_J Z 5 0 0 _ 129 [(0, .ref 0), (1, .int lo), (2, .int hi), (3, .int (nI (p_sk (M 0) len a))), (4, .int (p_val (M 0) (p_sk (M 0) len a) (i - (p_sk (M 0) len a))))] [] (W_M (mv len fa hd dd sd sg es (p_sk (M 0) len a) (if 0 = 0 then 2 else 0)) M)
          refine rr_go hC bk_X11_number_129_131 (l' := [(0, .ref 0), (1, .int lo), (2, .int hi), (3, .int (nI (p_sk (M 0) len a))), (4, .int (p_val (M 0) (p_sk (M 0) len a) (i - (p_sk (M 0) len a))))]) (st' := [.int (p_val (M 0) (p_sk (M 0) len a) (i - (p_sk (M 0) len a)))]) (w' := (W_M (mv len fa hd dd sd sg es (p_sk (M 0) len a) (if 0 = 0 then 2 else 0)) M)) rfl ?_
          exact rr_reti hC (by decide +kernel) (by rw [hnv]) (by rw [if_pos rfl]) ⟨Nat.zero_le _, Nat.zero_le _⟩
      · obtain ⟨hil, hlk⟩ := m_lk_lt (by rw [m_fg] at h53; exact h53)
        refine rr_go hC bk_X11_number_56_63 (l' := [(0, .ref 0), (1, .int lo), (2, .int hi), (3, .int (nI (p_sk (M 0) len a))), (4, .int (p_val (M 0) (p_sk (M 0) len a) (i - (p_sk (M 0) len a))))]) (st' := [.int 3, .int ((nI i) - (nI (p_sk (M 0) len a)))]) (w' := (W_M (mv len fa hd dd sd sg es i 0) M)) rfl ?_
        rw [show ((nI i) - (nI (p_sk (M 0) len a)) : Int32) = nI (i - (p_sk (M 0) len a)) from pk_sub (a := i) (b := p_sk (M 0) len a) (by omega)]
        refine rr_icmp_ge hC (off := 19) (tgt := 82) (by decide +kernel) (fun h63 => ?_) (fun h63 => ?_)
        · rw [rr_ln_le (a := 3) (by omega) (by omega)] at h63
          refine rr_go hC bk_X11_number_82_42 (l' := [(0, .ref 0), (1, .int lo), (2, .int hi), (3, .int (nI (p_sk (M 0) len a))), (4, .int (p_val (M 0) (p_sk (M 0) len a) (i - (p_sk (M 0) len a))))]) (st' := []) (w' := (W_M (upd (mv len fa hd dd sd sg es i 0) 7 ((nI i) + 1)) M)) rfl ?_
          rw [show ((nI i) + 1 : Int32) = nI (i + 1) from nI_add i 1]
          exact rr_cast (l' := [(0, .ref 0), (1, .int lo), (2, .int hi), (3, .int (nI (p_sk (M 0) len a))), (4, .int (p_val (M 0) (p_sk (M 0) len a) ((i + 1) - (p_sk (M 0) len a))))]) (by rw [show i + 1 - (p_sk (M 0) len a) = (i - (p_sk (M 0) len a)) + 1 by omega]; simp only [p_val]; first | (rw [if_pos (by omega), show (p_sk (M 0) len a) + (i - (p_sk (M 0) len a)) = i by omega, hlk, Int32.mul_comm]; done) | (rw [if_neg (by omega)]; done)) rfl (w' := (W_M (mv len fa hd dd sd sg es (i + 1) 0) M)) (by rfl) (ih (i + 1) (by omega) (by omega) (hq.trans (p_fe_go (by omega) (by rw [m_fg] at h53; rw [hlk] at h53; exact h53))))
        · rw [rr_ln_le (a := 3) (by omega) (by omega)] at h63
          refine rr_go hC bk_X11_number_66_72 (l' := [(0, .ref 0), (1, .int lo), (2, .int hi), (3, .int (nI (p_sk (M 0) len a))), (4, .int (p_val (M 0) (p_sk (M 0) len a) (i - (p_sk (M 0) len a))))]) (st' := [.ref 0, .int (10 * (p_val (M 0) (p_sk (M 0) len a) (i - (p_sk (M 0) len a))))]) (w' := (W_M (mv len fa hd dd sd sg es i 0) M)) rfl ?_
          refine rr_callVI hC (by decide +kernel) kl_11_93 fX11_look (m_look len fa hd dd sd sg es i 0 M (by omega) (by omega)) rfl rfl rfl rfl rfl (rest := [.int (10 * (p_val (M 0) (p_sk (M 0) len a) (i - (p_sk (M 0) len a))))]) rfl rfl ⟨Nat.zero_le _, Nat.zero_le _⟩ (Eq.refl 22) ?_
          show rr_J Z 5 0 0 _ 75 [(0, .ref 0), (1, .int lo), (2, .int hi), (3, .int (nI (p_sk (M 0) len a))), (4, .int (p_val (M 0) (p_sk (M 0) len a) (i - (p_sk (M 0) len a))))] [.int (m_lk (M 0) len i), .int (10 * (p_val (M 0) (p_sk (M 0) len a) (i - (p_sk (M 0) len a))))] (W_M (mv len fa hd dd sd sg es i 0) M)
          refine rr_go hC bk_X11_number_75_42 (l' := [(0, .ref 0), (1, .int lo), (2, .int hi), (3, .int (nI (p_sk (M 0) len a))), (4, .int (((10 * (p_val (M 0) (p_sk (M 0) len a) (i - (p_sk (M 0) len a)))) + (m_lk (M 0) len i)) - 48))]) (st' := []) (w' := (W_M (upd (mv len fa hd dd sd sg es i 0) 7 ((nI i) + 1)) M)) rfl ?_
          rw [show ((nI i) + 1 : Int32) = nI (i + 1) from nI_add i 1]
          exact rr_cast (l' := [(0, .ref 0), (1, .int lo), (2, .int hi), (3, .int (nI (p_sk (M 0) len a))), (4, .int (p_val (M 0) (p_sk (M 0) len a) ((i + 1) - (p_sk (M 0) len a))))]) (by rw [show i + 1 - (p_sk (M 0) len a) = (i - (p_sk (M 0) len a)) + 1 by omega]; simp only [p_val]; first | (rw [if_pos (by omega), show (p_sk (M 0) len a) + (i - (p_sk (M 0) len a)) = i by omega, hlk, Int32.mul_comm]; done) | (rw [if_neg (by omega)]; done)) rfl (w' := (W_M (mv len fa hd dd sd sg es (i + 1) 0) M)) (by rfl) (ih (i + 1) (by omega) (by omega) (hq.trans (p_fe_go (by omega) (by rw [m_fg] at h53; rw [hlk] at h53; exact h53))))
  exact rr_cast (l' := [(0, .ref 0), (1, .int lo), (2, .int hi), (3, .int (nI (p_sk (M 0) len a))), (4, .int (p_val (M 0) (p_sk (M 0) len a) ((p_sk (M 0) len a) - (p_sk (M 0) len a))))]) (by first | rfl | (rw [Nat.sub_self]; rfl)) rfl (w' := (W_M (mv len fa hd dd sd sg es (p_sk (M 0) len a) 0) M)) (by rfl) (lp42 (len - (p_sk (M 0) len a)) (p_sk (M 0) len a) (by omega) (Nat.le_refl _) rfl)
