/-! the model's reading: its numbers; look, fails, skips, word, feed, fault, tear, seed -/
def mv (len : Nat) (fa : Int32) (hd : Bool) (dd : Nat) (sd : Int32) (sg es a : Nat) (wr : Int32) (i : Nat) : Int32 := match i with
  | 0 => nI len
  | 1 => fa
  | 2 => rr_b hd
  | 3 => nI dd
  | 4 => sd
  | 5 => nI sg
  | 6 => nI es
  | 7 => nI a
  | _ => wr
def m_lk (f : Nat → Int32) (len a : Nat) : Int32 := if a < len then f a else -1
theorem m_lk_sk (f : Nat → Int32) (len a : Nat) : m_lk f len (p_sk f len a) = p_nl f len a := rfl
theorem bk_X11_look_0_8 : rr_chk mX11_look [(.aload_n 0, 0, 0, 0), (.getfield 87, 0, 11, 24), (.aload_n 0, 0, 0, 0), (.getfield 83, 0, 11, 1)] 0 8 = true := by decide +kernel
theorem bk_X11_look_23_24 : rr_chk mX11_look [(.iconst (-1), (-1), 0, 0)] 23 24 = true := by decide +kernel
theorem bk_X11_look_11_19 : rr_chk mX11_look [(.aload_n 0, 0, 0, 0), (.getfield 7, 0, 11, 0), (.aload_n 0, 0, 0, 0), (.getfield 87, 0, 11, 24)] 11 19 = true := by decide +kernel
theorem bk_X11_look_20_24 : rr_chk mX11_look [(.goto 4, 0, 0, 0)] 20 24 = true := by decide +kernel
set_option maxRecDepth 100000 in
set_option maxHeartbeats 4000000 in
theorem m_look (len : Nat) (fa : Int32) (hd : Bool) (dd : Nat) (sd : Int32) (sg es a : Nat) (wr : Int32) (M : Nat → Nat → Int32) (hlen : len ≤ 240) (ha : a ≤ 10000) : rr_C mX11_look 0 [.ref 0] (W_M (mv len fa hd dd sd sg es a wr) M) 0 0 (some (m_lk (M 0) len a)) (W_M (mv len fa hd dd sd sg es a wr) M) := by
  refine rr_C.of (n := 0) fX11_look.1 rfl rfl (fun Z hC => ?_)
  show rr_J Z 1 0 0 (rr_MQ Z 0 0 (some (m_lk (M 0) len a)) (W_M (mv len fa hd dd sd sg es a wr) M)) 0 [(0, .ref 0)] [] (W_M (mv len fa hd dd sd sg es a wr) M)
  refine rr_go hC bk_X11_look_0_8 (l' := [(0, .ref 0)]) (st' := [.int (nI len), .int (nI a)]) (w' := (W_M (mv len fa hd dd sd sg es a wr) M)) rfl ?_
  refine rr_icmp_ge hC (off := 15) (tgt := 23) (by decide +kernel) (fun h8 => ?_) (fun h8 => ?_)
  · rw [rr_nn_le (by omega) (by omega)] at h8
    refine rr_go hC bk_X11_look_23_24 (l' := [(0, .ref 0)]) (st' := [.int (-1)]) (w' := (W_M (mv len fa hd dd sd sg es a wr) M)) rfl ?_
    exact rr_reti hC (by decide +kernel) (by unfold m_lk; first | (rw [if_pos (by omega)]; done) | (rw [if_neg (by omega)]; done)) (by rfl) ⟨Nat.zero_le _, Nat.zero_le _⟩
  · rw [rr_nn_le (by omega) (by omega)] at h8
    refine rr_go hC bk_X11_look_11_19 (l' := [(0, .ref 0)]) (st' := [.int (nI a), .ref 1]) (w' := (W_M (mv len fa hd dd sd sg es a wr) M)) rfl ?_
    refine rr_iald hC a (by decide +kernel) rfl rfl (by omega) rfl ?_
    show rr_J Z 1 0 0 _ 20 [(0, .ref 0)] [.int (M 0 a)] (W_M (mv len fa hd dd sd sg es a wr) M)
    refine rr_go hC bk_X11_look_20_24 (l' := [(0, .ref 0)]) (st' := [.int (M 0 a)]) (w' := (W_M (mv len fa hd dd sd sg es a wr) M)) rfl ?_
    exact rr_reti hC (by decide +kernel) (by unfold m_lk; first | (rw [if_pos (by omega)]; done) | (rw [if_neg (by omega)]; done)) (by rfl) ⟨Nat.zero_le _, Nat.zero_le _⟩
theorem bk_X11_fails_0_5 : rr_chk mX11_fails [(.aload_n 0, 0, 0, 0), (.aload_n 0, 0, 0, 0), (.getfield 90, 0, 11, 25)] 0 5 = true := by decide +kernel
theorem bk_X11_fails_12_19 : rr_chk mX11_fails [(.aload_n 0, 0, 0, 0), (.getfield 90, 0, 11, 25), (.putfield 90, 0, 11, 25)] 12 19 = true := by decide +kernel
theorem bk_X11_fails_8_19 : rr_chk mX11_fails [(.iload_n 1, 0, 1, 0), (.goto 7, 0, 0, 0), (.putfield 90, 0, 11, 25)] 8 19 = true := by decide +kernel
set_option maxRecDepth 100000 in
set_option maxHeartbeats 4000000 in
theorem m_fails (len : Nat) (fa : Int32) (hd : Bool) (dd : Nat) (sd : Int32) (sg es a : Nat) (wr : Int32) (M : Nat → Nat → Int32) (k : Int32) : rr_C mX11_fails 0 [.ref 0, .int k] (W_M (mv len fa hd dd sd sg es a wr) M) 0 0 none (W_M (mv len fa hd dd sd sg es a (if wr = 0 then k else wr)) M) := by
  refine rr_C.of (n := 1) fX11_fails.1 rfl rfl (fun Z hC => ?_)
  show rr_J Z 2 0 0 (rr_MQ Z 0 0 none (W_M (mv len fa hd dd sd sg es a (if wr = 0 then k else wr)) M)) 0 [(0, .ref 0), (1, .int k)] [] (W_M (mv len fa hd dd sd sg es a wr) M)
  refine rr_go hC bk_X11_fails_0_5 (l' := [(0, .ref 0), (1, .int k)]) (st' := [.int wr, .ref 0]) (w' := (W_M (mv len fa hd dd sd sg es a wr) M)) rfl ?_
  refine rr_if_ne hC (off := 7) (tgt := 12) (by decide +kernel) (fun h5 => ?_) (fun h5 => ?_)
  · refine rr_go hC bk_X11_fails_12_19 (l' := [(0, .ref 0), (1, .int k)]) (st' := []) (w' := (W_M (upd (mv len fa hd dd sd sg es a wr) 8 wr) M)) rfl ?_
    exact rr_retv hC (by decide +kernel) (by first | (rw [if_pos h5]; rfl) | (rw [if_neg h5]; rfl)) ⟨Nat.zero_le _, Nat.zero_le _⟩
  · refine rr_go hC bk_X11_fails_8_19 (l' := [(0, .ref 0), (1, .int k)]) (st' := []) (w' := (W_M (upd (mv len fa hd dd sd sg es a wr) 8 k) M)) rfl ?_
    exact rr_retv hC (by decide +kernel) (by first | (rw [if_pos h5]; rfl) | (rw [if_neg h5]; rfl)) ⟨Nat.zero_le _, Nat.zero_le _⟩
theorem bk_X11_skips_0_4 : rr_chk mX11_skips [(.aload_n 0, 0, 0, 0), (.getfield 90, 0, 11, 25)] 0 4 = true := by decide +kernel
set_option maxRecDepth 100000 in
set_option maxHeartbeats 4000000 in
theorem m_skipsW (len : Nat) (fa : Int32) (hd : Bool) (dd : Nat) (sd : Int32) (sg es a : Nat) (wr : Int32) (M : Nat → Nat → Int32) (hlen : len ≤ 240) (ha : a ≤ 10000) (hw : ¬ wr = 0) : rr_C mX11_skips 1 [.ref 0] (W_M (mv len fa hd dd sd sg es a wr) M) 0 0 none (W_M (mv len fa hd dd sd sg es a wr) M) := by
  refine rr_C.of (n := 0) fX11_skips.1 rfl rfl (fun Z hC => ?_)
  show rr_J Z 1 0 0 (rr_MQ Z 0 0 none (W_M (mv len fa hd dd sd sg es a wr) M)) 0 [(0, .ref 0)] [] (W_M (mv len fa hd dd sd sg es a wr) M)
  refine rr_go hC bk_X11_skips_0_4 (l' := [(0, .ref 0)]) (st' := [.int wr]) (w' := (W_M (mv len fa hd dd sd sg es a wr) M)) rfl ?_
  refine rr_if_ne hC (off := 25) (tgt := 29) (by decide +kernel) (fun h4 => ?_) (fun h4 => by  exact absurd h4 hw)
  exact rr_retv hC (by decide +kernel) (by rfl) ⟨Nat.zero_le _, Nat.zero_le _⟩
theorem bk_X11_skips_7_8 : rr_chk mX11_skips [(.aload_n 0, 0, 0, 0)] 7 8 = true := by decide +kernel
theorem bk_X11_skips_11_13 : rr_chk mX11_skips [(.bipush 32, 32, 0, 0)] 11 13 = true := by decide +kernel
theorem bk_X11_skips_16_0 : rr_chk mX11_skips [(.aload_n 0, 0, 0, 0), (.dup, 0, 0, 0), (.getfield 87, 0, 11, 24), (.iconst 1, 1, 0, 0), (.iadd, 0, 0, 0), (.putfield 87, 0, 11, 24), (.goto (-26), 0, 0, 0)] 16 0 = true := by decide +kernel
set_option maxRecDepth 100000 in
set_option maxHeartbeats 4000000 in
theorem m_skips (len : Nat) (fa : Int32) (hd : Bool) (dd : Nat) (sd : Int32) (sg es a : Nat) (M : Nat → Nat → Int32) (hlen : len ≤ 240) (ha : a ≤ 10000) : rr_C mX11_skips 1 [.ref 0] (W_M (mv len fa hd dd sd sg es a 0) M) 0 0 none (W_M (mv len fa hd dd sd sg es (p_sk (M 0) len a) 0) M) := by
  refine rr_C.of (n := 0) fX11_skips.1 rfl rfl (fun Z hC => ?_)
  show rr_J Z 1 0 0 (rr_MQ Z 0 0 none (W_M (mv len fa hd dd sd sg es (p_sk (M 0) len a) 0) M)) 0 [(0, .ref 0)] [] (W_M (mv len fa hd dd sd sg es a 0) M)
  have lp0 : ∀ (j i : Nat), i + j = max a len → a ≤ i → p_sk (M 0) len a = p_sk (M 0) len i → rr_J Z 1 0 0 (rr_MQ Z 0 0 none (W_M (mv len fa hd dd sd sg es (p_sk (M 0) len a) 0) M)) 0 [(0, .ref 0)] [] (W_M (mv len fa hd dd sd sg es i 0) M) := by
    intro j
    induction j with
    | zero =>
      intro i hk0 hlo0 hq
      refine rr_go hC bk_X11_skips_0_4 (l' := [(0, .ref 0)]) (st' := [.int 0]) (w' := (W_M (mv len fa hd dd sd sg es i 0) M)) rfl ?_
      refine rr_if_ne hC (off := 25) (tgt := 29) (by decide +kernel) (fun h4 => by  exact absurd rfl h4) (fun h4 => ?_)
      refine rr_go hC bk_X11_skips_7_8 (l' := [(0, .ref 0)]) (st' := [.ref 0]) (w' := (W_M (mv len fa hd dd sd sg es i 0) M)) rfl ?_
      refine rr_callVI hC (by decide +kernel) kl_11_93 fX11_look (m_look len fa hd dd sd sg es i 0 M (by omega) (by omega)) rfl rfl rfl rfl rfl (rest := []) rfl rfl ⟨Nat.zero_le _, Nat.zero_le _⟩ (Eq.refl 22) ?_
      show rr_J Z 1 0 0 _ 11 [(0, .ref 0)] [.int (m_lk (M 0) len i)] (W_M (mv len fa hd dd sd sg es i 0) M)
      refine rr_go hC bk_X11_skips_11_13 (l' := [(0, .ref 0)]) (st' := [.int 32, .int (m_lk (M 0) len i)]) (w' := (W_M (mv len fa hd dd sd sg es i 0) M)) rfl ?_
      refine rr_icmp_ne hC (off := 16) (tgt := 29) (by decide +kernel) (fun h13 => ?_) (fun h13 => by  unfold m_lk at h13; rw [if_neg (by omega)] at h13; exact absurd h13 (by decide))
      have hi : p_sk (M 0) len a = i := hq.trans (by first | exact p_sk_end (by omega) | exact p_sk_stop (by omega) (fun z => h13 (by unfold m_lk; rw [if_pos (by omega), z])))
      exact rr_retv hC (by decide +kernel) (by rw [hi]) ⟨Nat.zero_le _, Nat.zero_le _⟩
    | succ j ih =>
      intro i hk0 hlo0 hq
      refine rr_go hC bk_X11_skips_0_4 (l' := [(0, .ref 0)]) (st' := [.int 0]) (w' := (W_M (mv len fa hd dd sd sg es i 0) M)) rfl ?_
      refine rr_if_ne hC (off := 25) (tgt := 29) (by decide +kernel) (fun h4 => by  exact absurd rfl h4) (fun h4 => ?_)
      refine rr_go hC bk_X11_skips_7_8 (l' := [(0, .ref 0)]) (st' := [.ref 0]) (w' := (W_M (mv len fa hd dd sd sg es i 0) M)) rfl ?_
      refine rr_callVI hC (by decide +kernel) kl_11_93 fX11_look (m_look len fa hd dd sd sg es i 0 M (by omega) (by omega)) rfl rfl rfl rfl rfl (rest := []) rfl rfl ⟨Nat.zero_le _, Nat.zero_le _⟩ (Eq.refl 22) ?_
      show rr_J Z 1 0 0 _ 11 [(0, .ref 0)] [.int (m_lk (M 0) len i)] (W_M (mv len fa hd dd sd sg es i 0) M)
      refine rr_go hC bk_X11_skips_11_13 (l' := [(0, .ref 0)]) (st' := [.int 32, .int (m_lk (M 0) len i)]) (w' := (W_M (mv len fa hd dd sd sg es i 0) M)) rfl ?_
      refine rr_icmp_ne hC (off := 16) (tgt := 29) (by decide +kernel) (fun h13 => ?_) (fun h13 => ?_)
      · have hi : p_sk (M 0) len a = i := hq.trans (by first | exact p_sk_end (by omega) | exact p_sk_stop (by omega) (fun z => h13 (by unfold m_lk; rw [if_pos (by omega), z])))
        exact rr_retv hC (by decide +kernel) (by rw [hi]) ⟨Nat.zero_le _, Nat.zero_le _⟩
      · refine rr_go hC bk_X11_skips_16_0 (l' := [(0, .ref 0)]) (st' := []) (w' := (W_M (upd (mv len fa hd dd sd sg es i 0) 7 ((nI i) + 1)) M)) rfl ?_
        rw [show ((nI i) + 1 : Int32) = nI (i + 1) from nI_add i 1]
        exact rr_cast (l' := [(0, .ref 0)]) (by rfl) rfl (w' := (W_M (mv len fa hd dd sd sg es (i + 1) 0) M)) (by rfl) (ih (i + 1) (by omega) (by omega) (hq.trans (p_sk_go (by omega) (by unfold m_lk at h13; rw [if_pos (by omega)] at h13; exact h13))))
  exact rr_cast (l' := [(0, .ref 0)]) (by rfl) rfl (w' := (W_M (mv len fa hd dd sd sg es a 0) M)) (by rfl) (lp0 ((max a len) - a) a (by omega) (Nat.le_refl _) rfl)
theorem bk_X11_fault_0_4 : rr_chk mX11_fault [(.aload_n 0, 0, 0, 0), (.getfield 13, 0, 11, 2)] 0 4 = true := by decide +kernel
set_option maxRecDepth 100000 in
set_option maxHeartbeats 4000000 in
theorem m_fault (len : Nat) (fa : Int32) (hd : Bool) (dd : Nat) (sd : Int32) (sg es a : Nat) (wr : Int32) (M : Nat → Nat → Int32) : rr_C mX11_fault 0 [.ref 0] (W_M (mv len fa hd dd sd sg es a wr) M) 0 0 (some fa) (W_M (mv len fa hd dd sd sg es a wr) M) := by
  refine rr_C.of (n := 0) fX11_fault.1 rfl rfl (fun Z hC => ?_)
  show rr_J Z 1 0 0 (rr_MQ Z 0 0 (some fa) (W_M (mv len fa hd dd sd sg es a wr) M)) 0 [(0, .ref 0)] [] (W_M (mv len fa hd dd sd sg es a wr) M)
  refine rr_go hC bk_X11_fault_0_4 (l' := [(0, .ref 0)]) (st' := [.int fa]) (w' := (W_M (mv len fa hd dd sd sg es a wr) M)) rfl ?_
  exact rr_reti hC (by decide +kernel) (by rfl) (by rfl) ⟨Nat.zero_le _, Nat.zero_le _⟩
theorem bk_X11_tear_0_21 : rr_chk mX11_tear [(.aload_n 0, 0, 0, 0), (.getfield 141, 0, 11, 21), (.aload_n 0, 0, 0, 0), (.getfield 144, 0, 11, 23), (.iadd, 0, 0, 0), (.istore_n 1, 0, 1, 0), (.aload_n 0, 0, 0, 0), (.iconst 0, 0, 0, 0), (.putfield 141, 0, 11, 21), (.aload_n 0, 0, 0, 0), (.iconst 0, 0, 0, 0), (.putfield 144, 0, 11, 23), (.iload_n 1, 0, 1, 0)] 0 21 = true := by decide +kernel
set_option maxRecDepth 100000 in
set_option maxHeartbeats 4000000 in
theorem m_tear (len : Nat) (fa : Int32) (hd : Bool) (dd : Nat) (sd : Int32) (sg es a : Nat) (wr : Int32) (M : Nat → Nat → Int32) : rr_C mX11_tear 0 [.ref 0] (W_M (mv len fa hd dd sd sg es a wr) M) 0 0 (some (nI (sg + es))) (W_M (mv len fa hd dd sd 0 0 a wr) M) := by
  refine rr_C.of (n := 0) fX11_tear.1 rfl rfl (fun Z hC => ?_)
  show rr_J Z 2 0 0 (rr_MQ Z 0 0 (some (nI (sg + es))) (W_M (mv len fa hd dd sd 0 0 a wr) M)) 0 [(0, .ref 0)] [] (W_M (mv len fa hd dd sd sg es a wr) M)
  refine rr_go hC bk_X11_tear_0_21 (l' := [(0, .ref 0), (1, .int ((nI sg) + (nI es)))]) (st' := [.int ((nI sg) + (nI es))]) (w' := (W_M (upd (upd (mv len fa hd dd sd sg es a wr) 5 0) 6 0) M)) rfl ?_
  rw [show ((nI sg) + (nI es) : Int32) = nI (sg + es) from nI_add sg es]
  exact rr_reti hC (by decide +kernel) (by rfl) (by rfl) ⟨Nat.zero_le _, Nat.zero_le _⟩
theorem bk_X11_seed_0_1 : rr_chk mX11_seed [(.iload_n 1, 0, 1, 0)] 0 1 = true := by decide +kernel
theorem bk_X11_seed_4_6 : rr_chk mX11_seed [(.ldc 82, (-1000000002), 0, 0)] 4 6 = true := by decide +kernel
set_option maxRecDepth 100000 in
set_option maxHeartbeats 4000000 in
theorem m_seedO (len : Nat) (fa : Int32) (hd : Bool) (dd : Nat) (sd : Int32) (sg es a : Nat) (wr : Int32) (M : Nat → Nat → Int32) (x : Int32) (hx : x < 0) : rr_C mX11_seed 0 [.ref 0, .int x] (W_M (mv len fa hd dd sd sg es a wr) M) 0 0 (some (-1000000002)) (W_M (mv len fa hd dd sd sg es a wr) M) := by
  refine rr_C.of (n := 1) fX11_seed.1 rfl rfl (fun Z hC => ?_)
  show rr_J Z 3 0 0 (rr_MQ Z 0 0 (some (-1000000002)) (W_M (mv len fa hd dd sd sg es a wr) M)) 0 [(0, .ref 0), (1, .int x)] [] (W_M (mv len fa hd dd sd sg es a wr) M)
  refine rr_go hC bk_X11_seed_0_1 (l' := [(0, .ref 0), (1, .int x)]) (st' := [.int x]) (w' := (W_M (mv len fa hd dd sd sg es a wr) M)) rfl ?_
  refine rr_if_ge hC (off := 6) (tgt := 7) (by decide +kernel) (fun h1 => by  exact absurd hx (Int32.not_lt.mpr h1)) (fun h1 => ?_)
  refine rr_go hC bk_X11_seed_4_6 (l' := [(0, .ref 0), (1, .int x)]) (st' := [.int (-1000000002)]) (w' := (W_M (mv len fa hd dd sd sg es a wr) M)) rfl ?_
  exact rr_reti hC (by decide +kernel) (by rfl) (by rfl) ⟨Nat.zero_le _, Nat.zero_le _⟩
theorem bk_X11_seed_7_18 : rr_chk mX11_seed [(.aload_n 0, 0, 0, 0), (.getfield 215, 0, 11, 19), (.istore_n 2, 0, 2, 0), (.aload_n 0, 0, 0, 0), (.iload_n 1, 0, 1, 0), (.putfield 215, 0, 11, 19), (.iload_n 2, 0, 2, 0)] 7 18 = true := by decide +kernel
set_option maxRecDepth 100000 in
set_option maxHeartbeats 4000000 in
theorem m_seed (len : Nat) (fa : Int32) (hd : Bool) (dd : Nat) (sd : Int32) (sg es a : Nat) (wr : Int32) (M : Nat → Nat → Int32) (x : Int32) (hx : ¬ x < 0) : rr_C mX11_seed 0 [.ref 0, .int x] (W_M (mv len fa hd dd sd sg es a wr) M) 0 0 (some sd) (W_M (mv len fa hd dd x sg es a wr) M) := by
  refine rr_C.of (n := 1) fX11_seed.1 rfl rfl (fun Z hC => ?_)
  show rr_J Z 3 0 0 (rr_MQ Z 0 0 (some sd) (W_M (mv len fa hd dd x sg es a wr) M)) 0 [(0, .ref 0), (1, .int x)] [] (W_M (mv len fa hd dd sd sg es a wr) M)
  refine rr_go hC bk_X11_seed_0_1 (l' := [(0, .ref 0), (1, .int x)]) (st' := [.int x]) (w' := (W_M (mv len fa hd dd sd sg es a wr) M)) rfl ?_
  refine rr_if_ge hC (off := 6) (tgt := 7) (by decide +kernel) (fun h1 => ?_) (fun h1 => by  exact absurd (Int32.not_lt.mp hx) h1)
  refine rr_go hC bk_X11_seed_7_18 (l' := [(0, .ref 0), (1, .int x), (2, .int sd)]) (st' := [.int sd]) (w' := (W_M (upd (mv len fa hd dd sd sg es a wr) 4 x) M)) rfl ?_
  exact rr_reti hC (by decide +kernel) (by rfl) (by rfl) ⟨Nat.zero_le _, Nat.zero_le _⟩
