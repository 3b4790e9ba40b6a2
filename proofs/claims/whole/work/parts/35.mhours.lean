/-! the model: hour, drift, undo -/
/-- the rows of the deeds are these states -/
def m_P (f : Nat → Int32) (D : Nat → p_Q) (dd : Nat) : Prop := ∀ j, j < dd → ∀ i, i < 22 → f (22 * j + i) = en (D j) i
theorem m_sweepsS (A : Nat → Nat → Int32) (q : p_Q) (hA : A 0 = en q) (G : Nat → Nat → Int32) (cc kc : Nat) (hI : m_I G cc kc q) (hcc : cc ≤ 9) (hkc : kc ≤ 6) : rr_C mX11_sweeps 1 [.ref 0] (W_A22 A) 0 0 (some (nI (p_ra q.2.2.2.2 q.2.1 kc).2.2)) (W_A22 (va_up A 0 (en (p_sm q kc)))) := by
  have h := m_sweeps A q hA
  rw [(p_sw_sm hI hcc hkc).1, (p_sw_sm hI hcc hkc).2] at h
  exact h
theorem bk_X11_hour_0_2 : rr_chk mX11_hour [(.aload_n 0, 0, 0, 0), (.iload_n 1, 0, 1, 0)] 0 2 = true := by decide +kernel
theorem bk_X11_hour_5_10 : rr_chk mX11_hour [(.istore_n 2, 0, 2, 0), (.iconst 0, 0, 0, 0), (.istore_n 3, 0, 3, 0), (.iload_n 3, 0, 3, 0), (.iload_n 1, 0, 1, 0)] 5 10 = true := by decide +kernel
theorem bk_X11_hour_35_36 : rr_chk mX11_hour [(.iload_n 2, 0, 2, 0)] 35 36 = true := by decide +kernel
theorem bk_X11_hour_50_51 : rr_chk mX11_hour [(.iload_n 2, 0, 2, 0)] 50 51 = true := by decide +kernel
theorem bk_X11_hour_13_14 : rr_chk mX11_hour [(.iload_n 2, 0, 2, 0)] 13 14 = true := by decide +kernel
set_option maxRecDepth 100000 in
set_option maxHeartbeats 4000000 in
theorem m_hourR (len : Nat) (fa : Int32) (hd : Bool) (dd : Nat) (sd : Int32) (sg es a : Nat) (wr : Int32) (M : Nat → Nat → Int32) (tc wd cc kc : Nat) (G : Nat → Nat → Int32) (hG : m_G M G tc wd cc kc) (q : p_Q) (hq : M 9 = en q) (x : Int32) (htc : tc ≤ 12) (hcc : cc ≤ 9) (hkc : kc ≤ 6) (hu : q.1 ≤ 9100) (hr : ¬ p_ref x tc q.1 = 0) : rr_C mX11_hour 6 [.ref 0, .int x] (W_M (mv len fa hd dd sd sg es a wr) M) 0 0 (some (p_ref x tc q.1)) (W_M (mv len fa hd dd sd sg es a wr) M) := by
  refine rr_C.of (n := 1) fX11_hour.1 rfl rfl (fun Z hC => ?_)
  show rr_J Z 4 0 0 (rr_MQ Z 0 0 (some (p_ref x tc q.1)) (W_M (mv len fa hd dd sd sg es a wr) M)) 0 [(0, .ref 0), (1, .int x)] [] (W_M (mv len fa hd dd sd sg es a wr) M)
  refine rr_go hC bk_X11_hour_0_2 (l' := [(0, .ref 0), (1, .int x)]) (st' := [.int x, .ref 0]) (w' := (W_M (mv len fa hd dd sd sg es a wr) M)) rfl ?_
  refine rr_callVI hC (by decide +kernel) kl_11_208 fX11_barred (m_barred len fa hd dd sd sg es a wr M tc wd cc kc G hG q hq x (by omega) (by omega) (by omega) (by omega)) rfl rfl rfl rfl rfl (rest := []) rfl rfl ⟨Nat.zero_le _, Nat.zero_le _⟩ (Eq.refl 22) ?_
  show rr_J Z 4 0 0 _ 5 [(0, .ref 0), (1, .int x)] [.int (p_ref x tc q.1)] (W_M (mv len fa hd dd sd sg es a wr) M)
  refine rr_go hC bk_X11_hour_5_10 (l' := [(0, .ref 0), (1, .int x), (2, .int (p_ref x tc q.1)), (3, .int 0)]) (st' := [.int x, .int 0]) (w' := (W_M (mv len fa hd dd sd sg es a wr) M)) rfl ?_
  refine rr_icmp_ge hC (off := 25) (tgt := 35) (by decide +kernel) (fun h10 => ?_) (fun h10 => ?_)
  · refine rr_go hC bk_X11_hour_35_36 (l' := [(0, .ref 0), (1, .int x), (2, .int (p_ref x tc q.1)), (3, .int 0)]) (st' := [.int (p_ref x tc q.1)]) (w' := (W_M (mv len fa hd dd sd sg es a wr) M)) rfl ?_
    refine rr_if_ne hC (off := 14) (tgt := 50) (by decide +kernel) (fun h36 => ?_) (fun h36 => by  exact absurd h36 hr)
    refine rr_go hC bk_X11_hour_50_51 (l' := [(0, .ref 0), (1, .int x), (2, .int (p_ref x tc q.1)), (3, .int 0)]) (st' := [.int (p_ref x tc q.1)]) (w' := (W_M (mv len fa hd dd sd sg es a wr) M)) rfl ?_
    exact rr_reti hC (by decide +kernel) (by rfl) (by rfl) ⟨Nat.zero_le _, Nat.zero_le _⟩
  · refine rr_go hC bk_X11_hour_13_14 (l' := [(0, .ref 0), (1, .int x), (2, .int (p_ref x tc q.1)), (3, .int 0)]) (st' := [.int (p_ref x tc q.1)]) (w' := (W_M (mv len fa hd dd sd sg es a wr) M)) rfl ?_
    refine rr_if_ne hC (off := 21) (tgt := 35) (by decide +kernel) (fun h14 => ?_) (fun h14 => by  exact absurd h14 hr)
    refine rr_go hC bk_X11_hour_35_36 (l' := [(0, .ref 0), (1, .int x), (2, .int (p_ref x tc q.1)), (3, .int 0)]) (st' := [.int (p_ref x tc q.1)]) (w' := (W_M (mv len fa hd dd sd sg es a wr) M)) rfl ?_
    refine rr_if_ne hC (off := 14) (tgt := 50) (by decide +kernel) (fun h36 => ?_) (fun h36 => by  exact absurd h36 hr)
    refine rr_go hC bk_X11_hour_50_51 (l' := [(0, .ref 0), (1, .int x), (2, .int (p_ref x tc q.1)), (3, .int 0)]) (st' := [.int (p_ref x tc q.1)]) (w' := (W_M (mv len fa hd dd sd sg es a wr) M)) rfl ?_
    exact rr_reti hC (by decide +kernel) (by rfl) (by rfl) ⟨Nat.zero_le _, Nat.zero_le _⟩
theorem bk_X11_hour_5_8 : rr_chk mX11_hour [(.istore_n 2, 0, 2, 0), (.iconst 0, 0, 0, 0), (.istore_n 3, 0, 3, 0)] 5 8 = true := by decide +kernel
theorem bk_X11_hour_8_10 : rr_chk mX11_hour [(.iload_n 3, 0, 3, 0), (.iload_n 1, 0, 1, 0)] 8 10 = true := by decide +kernel
theorem bk_X11_hour_39_44 : rr_chk mX11_hour [(.aload_n 0, 0, 0, 0), (.aload_n 0, 0, 0, 0), (.getfield 41, 0, 11, 12)] 39 44 = true := by decide +kernel
theorem bk_X11_hour_47_51 : rr_chk mX11_hour [(.goto 4, 0, 0, 0)] 47 51 = true := by decide +kernel
theorem bk_X11_hour_17_18 : rr_chk mX11_hour [(.aload_n 0, 0, 0, 0)] 17 18 = true := by decide +kernel
theorem bk_X11_hour_21_26 : rr_chk mX11_hour [(.aload_n 0, 0, 0, 0), (.aload_n 0, 0, 0, 0), (.getfield 41, 0, 11, 12)] 21 26 = true := by decide +kernel
theorem bk_X11_hour_29_8 : rr_chk mX11_hour [(.iinc 3 1, 1, 3, 0), (.goto (-24), 0, 0, 0)] 29 8 = true := by decide +kernel
set_option maxRecDepth 100000 in
set_option maxHeartbeats 4000000 in
theorem m_hour (len : Nat) (fa : Int32) (hd : Bool) (dd : Nat) (sd : Int32) (sg es a : Nat) (wr : Int32) (M : Nat → Nat → Int32) (tc wd cc kc : Nat) (G : Nat → Nat → Int32) (hG : m_G M G tc wd cc kc) (q : p_Q) (hq : M 9 = en q) (n : Nat) (htc : tc ≤ 12) (hcc : cc ≤ 9) (hkc : kc ≤ 6) (h0c : 0 < cc → 0 < tc) (h0k : 0 < kc → 0 < tc) (hI : m_I G cc kc q) (hdd : dd ≤ 30) (hu : q.1 ≤ 9000) (hr : p_ref (nI n) tc q.1 = 0) (hn : n ≤ 30) : rr_C mX11_hour 6 [.ref 0, .int (nI n)] (W_M (mv len fa hd dd sd sg es a wr) M) 0 0 (some (p_fs (p_it G tc wd kc q n).2.2.2.2 G kc)) (W_M (mv len fa hd ((m_np (M 11) dd (p_it G tc wd kc q) n).2) sd sg es a wr) (va_up (va_up M 11 ((m_np (M 11) dd (p_it G tc wd kc q) n).1)) 9 (en (p_it G tc wd kc q n)))) := by
  refine rr_C.of (n := 1) fX11_hour.1 rfl rfl (fun Z hC => ?_)
  show rr_J Z 4 0 0 (rr_MQ Z 0 0 (some (p_fs (p_it G tc wd kc q n).2.2.2.2 G kc)) (W_M (mv len fa hd ((m_np (M 11) dd (p_it G tc wd kc q) n).2) sd sg es a wr) (va_up (va_up M 11 ((m_np (M 11) dd (p_it G tc wd kc q) n).1)) 9 (en (p_it G tc wd kc q n))))) 0 [(0, .ref 0), (1, .int (nI n))] [] (W_M (mv len fa hd dd sd sg es a wr) M)
  refine rr_go hC bk_X11_hour_0_2 (l' := [(0, .ref 0), (1, .int (nI n))]) (st' := [.int (nI n), .ref 0]) (w' := (W_M (mv len fa hd dd sd sg es a wr) M)) rfl ?_
  refine rr_callVI hC (by decide +kernel) kl_11_208 fX11_barred (m_barred len fa hd dd sd sg es a wr M tc wd cc kc G hG q hq (nI n) (by omega) (by omega) (by omega) (by omega)) rfl rfl rfl rfl rfl (rest := []) rfl rfl ⟨Nat.zero_le _, Nat.zero_le _⟩ (Eq.refl 22) ?_
  show rr_J Z 4 0 0 _ 5 [(0, .ref 0), (1, .int (nI n))] [.int (p_ref (nI n) tc q.1)] (W_M (mv len fa hd dd sd sg es a wr) M)
  refine rr_go hC bk_X11_hour_5_8 (l' := [(0, .ref 0), (1, .int (nI n)), (2, .int (p_ref (nI n) tc q.1)), (3, .int 0)]) (st' := []) (w' := (W_M (mv len fa hd dd sd sg es a wr) M)) rfl ?_
  have lp8 : ∀ (j k : Nat), k + j = n → 0 ≤ k → rr_J Z 4 0 0 (rr_MQ Z 0 0 (some (p_fs (p_it G tc wd kc q n).2.2.2.2 G kc)) (W_M (mv len fa hd ((m_np (M 11) dd (p_it G tc wd kc q) n).2) sd sg es a wr) (va_up (va_up M 11 ((m_np (M 11) dd (p_it G tc wd kc q) n).1)) 9 (en (p_it G tc wd kc q n))))) 8 [(0, .ref 0), (1, .int (nI n)), (2, .int (p_ref (nI n) tc q.1)), (3, .int (nI k))] [] (W_M (mv len fa hd ((m_np (M 11) dd (p_it G tc wd kc q) k).2) sd sg es a wr) (va_up (va_up M 11 ((m_np (M 11) dd (p_it G tc wd kc q) k).1)) 9 (en (p_it G tc wd kc q k)))) := by
    intro j
    induction j with
    | zero =>
      intro k hk8 hlo8
      refine rr_go hC bk_X11_hour_8_10 (l' := [(0, .ref 0), (1, .int (nI n)), (2, .int (p_ref (nI n) tc q.1)), (3, .int (nI k))]) (st' := [.int (nI n), .int (nI k)]) (w' := (W_M (mv len fa hd ((m_np (M 11) dd (p_it G tc wd kc q) k).2) sd sg es a wr) (va_up (va_up M 11 ((m_np (M 11) dd (p_it G tc wd kc q) k).1)) 9 (en (p_it G tc wd kc q k))))) rfl ?_
      refine rr_icmp_ge hC (off := 25) (tgt := 35) (by decide +kernel) (fun h10 => ?_) (fun h10 => by rw [rr_nn_le (by omega) (by omega)] at h10; omega)
      rw [rr_nn_le (by omega) (by omega)] at h10
      refine rr_go hC bk_X11_hour_35_36 (l' := [(0, .ref 0), (1, .int (nI n)), (2, .int (p_ref (nI n) tc q.1)), (3, .int (nI k))]) (st' := [.int (p_ref (nI n) tc q.1)]) (w' := (W_M (mv len fa hd ((m_np (M 11) dd (p_it G tc wd kc q) k).2) sd sg es a wr) (va_up (va_up M 11 ((m_np (M 11) dd (p_it G tc wd kc q) k).1)) 9 (en (p_it G tc wd kc q k))))) rfl ?_
      refine rr_if_ne hC (off := 14) (tgt := 50) (by decide +kernel) (fun h36 => by  exact absurd hr h36) (fun h36 => ?_)
      refine rr_go hC bk_X11_hour_39_44 (l' := [(0, .ref 0), (1, .int (nI n)), (2, .int (p_ref (nI n) tc q.1)), (3, .int (nI k))]) (st' := [.ref 10, .ref 0]) (w' := (W_M (mv len fa hd ((m_np (M 11) dd (p_it G tc wd kc q) k).2) sd sg es a wr) (va_up (va_up M 11 ((m_np (M 11) dd (p_it G tc wd kc q) k).1)) 9 (en (p_it G tc wd kc q k))))) rfl ?_
      refine rr_callVI hC (by decide +kernel) kl_11_169 fX11_force (m_force_now (mv len fa hd ((m_np (M 11) dd (p_it G tc wd kc q) k).2) sd sg es a wr) (va_up (va_up M 11 ((m_np (M 11) dd (p_it G tc wd kc q) k).1)) 9 (en (p_it G tc wd kc q k))) tc wd cc kc G (by exact hG) (p_it G tc wd kc q k) rfl (by omega) (by omega) (by omega) (hI.it tc wd hkc k).ok) rfl rfl rfl rfl rfl (rest := []) rfl rfl ⟨Nat.zero_le _, Nat.zero_le _⟩ (Eq.refl 22) ?_
      show rr_J Z 4 0 0 _ 47 [(0, .ref 0), (1, .int (nI n)), (2, .int (p_ref (nI n) tc q.1)), (3, .int (nI k))] [.int (p_fs (p_it G tc wd kc q k).2.2.2.2 G kc)] (W_M (mv len fa hd ((m_np (M 11) dd (p_it G tc wd kc q) k).2) sd sg es a wr) (va_up (va_up M 11 ((m_np (M 11) dd (p_it G tc wd kc q) k).1)) 9 (en (p_it G tc wd kc q k))))
      refine rr_go hC bk_X11_hour_47_51 (l' := [(0, .ref 0), (1, .int (nI n)), (2, .int (p_ref (nI n) tc q.1)), (3, .int (nI k))]) (st' := [.int (p_fs (p_it G tc wd kc q k).2.2.2.2 G kc)]) (w' := (W_M (mv len fa hd ((m_np (M 11) dd (p_it G tc wd kc q) k).2) sd sg es a wr) (va_up (va_up M 11 ((m_np (M 11) dd (p_it G tc wd kc q) k).1)) 9 (en (p_it G tc wd kc q k))))) rfl ?_
      exact rr_reti hC (by decide +kernel) (by rw [show k = n by omega]) (by rw [show k = n by omega]) ⟨Nat.zero_le _, Nat.zero_le _⟩
    | succ j ih =>
      intro k hk8 hlo8
      refine rr_go hC bk_X11_hour_8_10 (l' := [(0, .ref 0), (1, .int (nI n)), (2, .int (p_ref (nI n) tc q.1)), (3, .int (nI k))]) (st' := [.int (nI n), .int (nI k)]) (w' := (W_M (mv len fa hd ((m_np (M 11) dd (p_it G tc wd kc q) k).2) sd sg es a wr) (va_up (va_up M 11 ((m_np (M 11) dd (p_it G tc wd kc q) k).1)) 9 (en (p_it G tc wd kc q k))))) rfl ?_
      refine rr_icmp_ge hC (off := 25) (tgt := 35) (by decide +kernel) (fun h10 => by rw [rr_nn_le (by omega) (by omega)] at h10; omega) (fun h10 => ?_)
      rw [rr_nn_le (by omega) (by omega)] at h10
      refine rr_go hC bk_X11_hour_13_14 (l' := [(0, .ref 0), (1, .int (nI n)), (2, .int (p_ref (nI n) tc q.1)), (3, .int (nI k))]) (st' := [.int (p_ref (nI n) tc q.1)]) (w' := (W_M (mv len fa hd ((m_np (M 11) dd (p_it G tc wd kc q) k).2) sd sg es a wr) (va_up (va_up M 11 ((m_np (M 11) dd (p_it G tc wd kc q) k).1)) 9 (en (p_it G tc wd kc q k))))) rfl ?_
      refine rr_if_ne hC (off := 21) (tgt := 35) (by decide +kernel) (fun h14 => by  exact absurd hr h14) (fun h14 => ?_)
      refine rr_go hC bk_X11_hour_17_18 (l' := [(0, .ref 0), (1, .int (nI n)), (2, .int (p_ref (nI n) tc q.1)), (3, .int (nI k))]) (st' := [.ref 0]) (w' := (W_M (mv len fa hd ((m_np (M 11) dd (p_it G tc wd kc q) k).2) sd sg es a wr) (va_up (va_up M 11 ((m_np (M 11) dd (p_it G tc wd kc q) k).1)) 9 (en (p_it G tc wd kc q k))))) rfl ?_
      refine rr_callVI hC (by decide +kernel) kl_11_191 fX11_notes (m_notes len fa hd ((m_np (M 11) dd (p_it G tc wd kc q) k).2) sd sg es a wr (va_up (va_up M 11 ((m_np (M 11) dd (p_it G tc wd kc q) k).1)) 9 (en (p_it G tc wd kc q k))) (m_np_le hdd _)) rfl rfl rfl rfl rfl (rest := []) rfl rfl ⟨Nat.zero_le _, Nat.zero_le _⟩ (Eq.refl 22) ?_
      show rr_J Z 4 0 0 _ 21 [(0, .ref 0), (1, .int (nI n)), (2, .int (p_ref (nI n) tc q.1)), (3, .int (nI k))] [] (W_M (mv len fa hd (m_nd ((m_np (M 11) dd (p_it G tc wd kc q) k).2)) sd sg es a wr) (va_up (va_up M 9 (en (p_it G tc wd kc q k))) 11 (m_nt ((m_np (M 11) dd (p_it G tc wd kc q) k).1) (en (p_it G tc wd kc q k)) ((m_np (M 11) dd (p_it G tc wd kc q) k).2))))
      refine rr_go hC bk_X11_hour_21_26 (l' := [(0, .ref 0), (1, .int (nI n)), (2, .int (p_ref (nI n) tc q.1)), (3, .int (nI k))]) (st' := [.ref 10, .ref 0]) (w' := (W_M (mv len fa hd (m_nd ((m_np (M 11) dd (p_it G tc wd kc q) k).2)) sd sg es a wr) (va_up (va_up M 9 (en (p_it G tc wd kc q k))) 11 (m_nt ((m_np (M 11) dd (p_it G tc wd kc q) k).1) (en (p_it G tc wd kc q k)) ((m_np (M 11) dd (p_it G tc wd kc q) k).2))))) rfl ?_
      refine rr_callVI hC (by decide +kernel) kl_11_211 fX11_passes (m_passes_now (mv len fa hd (m_nd ((m_np (M 11) dd (p_it G tc wd kc q) k).2)) sd sg es a wr) (va_up (va_up M 9 (en (p_it G tc wd kc q k))) 11 (m_nt ((m_np (M 11) dd (p_it G tc wd kc q) k).1) (en (p_it G tc wd kc q k)) ((m_np (M 11) dd (p_it G tc wd kc q) k).2))) tc wd cc kc G (by exact hG) (p_it G tc wd kc q k) rfl (by omega) (by omega) (by omega) h0c (by first | omega | (simp only [p_it_h, p_wr_h, p_sm_h, p_dd_h, p_d1_h, p_df_h]; omega)) (hI.it tc wd hkc k).1) rfl rfl rfl rfl rfl (rest := []) rfl rfl ⟨Nat.zero_le _, Nat.zero_le _⟩ (Eq.refl 22) ?_
      show rr_J Z 4 0 0 _ 29 [(0, .ref 0), (1, .int (nI n)), (2, .int (p_ref (nI n) tc q.1)), (3, .int (nI k))] [] (W_M (mv len fa hd (m_nd ((m_np (M 11) dd (p_it G tc wd kc q) k).2)) sd sg es a wr) (va_up (va_up M 11 (m_nt ((m_np (M 11) dd (p_it G tc wd kc q) k).1) (en (p_it G tc wd kc q k)) ((m_np (M 11) dd (p_it G tc wd kc q) k).2))) 9 (en (p_pass G tc wd kc (p_it G tc wd kc q k)))))
      refine rr_go hC bk_X11_hour_29_8 (l' := [(0, .ref 0), (1, .int (nI n)), (2, .int (p_ref (nI n) tc q.1)), (3, .int ((nI k) + 1))]) (st' := []) (w' := (W_M (mv len fa hd (m_nd ((m_np (M 11) dd (p_it G tc wd kc q) k).2)) sd sg es a wr) (va_up (va_up M 11 (m_nt ((m_np (M 11) dd (p_it G tc wd kc q) k).1) (en (p_it G tc wd kc q k)) ((m_np (M 11) dd (p_it G tc wd kc q) k).2))) 9 (en (p_pass G tc wd kc (p_it G tc wd kc q k)))))) rfl ?_
      rw [show ((nI k) + 1 : Int32) = nI (k + 1) from nI_add k 1]
      exact rr_cast (l' := [(0, .ref 0), (1, .int (nI n)), (2, .int (p_ref (nI n) tc q.1)), (3, .int (nI (k + 1)))]) (by rfl) rfl (w' := (W_M (mv len fa hd ((m_np (M 11) dd (p_it G tc wd kc q) (k + 1)).2) sd sg es a wr) (va_up (va_up M 11 ((m_np (M 11) dd (p_it G tc wd kc q) (k + 1)).1)) 9 (en (p_it G tc wd kc q (k + 1)))))) (by rw [m_np_1, m_np_2, p_it_1]) (ih (k + 1) (by omega) (by omega))
  exact rr_cast (l' := [(0, .ref 0), (1, .int (nI n)), (2, .int (p_ref (nI n) tc q.1)), (3, .int (nI 0))]) (by first | rfl | (rfl)) rfl (w' := (W_M (mv len fa hd ((m_np (M 11) dd (p_it G tc wd kc q) 0).2) sd sg es a wr) (va_up (va_up M 11 ((m_np (M 11) dd (p_it G tc wd kc q) 0).1)) 9 (en (p_it G tc wd kc q 0))))) (by rw [m_np_01, m_np_02, p_it_0, ← hq, va_up_i, va_up_i]) (lp8 (n - 0) 0 (by omega) (Nat.le_refl _))
theorem bk_X11_drift_0_2 : rr_chk mX11_drift [(.aload_n 0, 0, 0, 0), (.iload_n 1, 0, 1, 0)] 0 2 = true := by decide +kernel
theorem bk_X11_drift_5_10 : rr_chk mX11_drift [(.istore_n 2, 0, 2, 0), (.iconst 0, 0, 0, 0), (.istore_n 3, 0, 3, 0), (.iload_n 3, 0, 3, 0), (.iload_n 1, 0, 1, 0)] 5 10 = true := by decide +kernel
theorem bk_X11_drift_130_131 : rr_chk mX11_drift [(.iload_n 2, 0, 2, 0)] 130 131 = true := by decide +kernel
theorem bk_X11_drift_145_146 : rr_chk mX11_drift [(.iload_n 2, 0, 2, 0)] 145 146 = true := by decide +kernel
theorem bk_X11_drift_13_14 : rr_chk mX11_drift [(.iload_n 2, 0, 2, 0)] 13 14 = true := by decide +kernel
set_option maxRecDepth 100000 in
set_option maxHeartbeats 4000000 in
theorem m_driftR (len : Nat) (fa : Int32) (hd : Bool) (dd : Nat) (sd : Int32) (sg es a : Nat) (wr : Int32) (M : Nat → Nat → Int32) (tc wd cc kc : Nat) (G : Nat → Nat → Int32) (hG : m_G M G tc wd cc kc) (q : p_Q) (hq : M 9 = en q) (x : Int32) (htc : tc ≤ 12) (hcc : cc ≤ 9) (hkc : kc ≤ 6) (hu : q.1 ≤ 9100) (hr : ¬ p_ref x tc q.1 = 0) : rr_C mX11_drift 6 [.ref 0, .int x] (W_M (mv len fa hd dd sd sg es a wr) M) 0 0 (some (p_ref x tc q.1)) (W_M (mv len fa hd dd sd sg es a wr) M) := by
  refine rr_C.of (n := 1) fX11_drift.1 rfl rfl (fun Z hC => ?_)
  show rr_J Z 6 0 0 (rr_MQ Z 0 0 (some (p_ref x tc q.1)) (W_M (mv len fa hd dd sd sg es a wr) M)) 0 [(0, .ref 0), (1, .int x)] [] (W_M (mv len fa hd dd sd sg es a wr) M)
  refine rr_go hC bk_X11_drift_0_2 (l' := [(0, .ref 0), (1, .int x)]) (st' := [.int x, .ref 0]) (w' := (W_M (mv len fa hd dd sd sg es a wr) M)) rfl ?_
  refine rr_callVI hC (by decide +kernel) kl_11_208 fX11_barred (m_barred len fa hd dd sd sg es a wr M tc wd cc kc G hG q hq x (by omega) (by omega) (by omega) (by omega)) rfl rfl rfl rfl rfl (rest := []) rfl rfl ⟨Nat.zero_le _, Nat.zero_le _⟩ (Eq.refl 22) ?_
  show rr_J Z 6 0 0 _ 5 [(0, .ref 0), (1, .int x)] [.int (p_ref x tc q.1)] (W_M (mv len fa hd dd sd sg es a wr) M)
  refine rr_go hC bk_X11_drift_5_10 (l' := [(0, .ref 0), (1, .int x), (2, .int (p_ref x tc q.1)), (3, .int 0)]) (st' := [.int x, .int 0]) (w' := (W_M (mv len fa hd dd sd sg es a wr) M)) rfl ?_
  refine rr_icmp_ge hC (off := 120) (tgt := 130) (by decide +kernel) (fun h10 => ?_) (fun h10 => ?_)
  · refine rr_go hC bk_X11_drift_130_131 (l' := [(0, .ref 0), (1, .int x), (2, .int (p_ref x tc q.1)), (3, .int 0)]) (st' := [.int (p_ref x tc q.1)]) (w' := (W_M (mv len fa hd dd sd sg es a wr) M)) rfl ?_
    refine rr_if_ne hC (off := 14) (tgt := 145) (by decide +kernel) (fun h131 => ?_) (fun h131 => by  exact absurd h131 hr)
    refine rr_go hC bk_X11_drift_145_146 (l' := [(0, .ref 0), (1, .int x), (2, .int (p_ref x tc q.1)), (3, .int 0)]) (st' := [.int (p_ref x tc q.1)]) (w' := (W_M (mv len fa hd dd sd sg es a wr) M)) rfl ?_
    exact rr_reti hC (by decide +kernel) (by rfl) (by rfl) ⟨Nat.zero_le _, Nat.zero_le _⟩
  · refine rr_go hC bk_X11_drift_13_14 (l' := [(0, .ref 0), (1, .int x), (2, .int (p_ref x tc q.1)), (3, .int 0)]) (st' := [.int (p_ref x tc q.1)]) (w' := (W_M (mv len fa hd dd sd sg es a wr) M)) rfl ?_
    refine rr_if_ne hC (off := 116) (tgt := 130) (by decide +kernel) (fun h14 => ?_) (fun h14 => by  exact absurd h14 hr)
    refine rr_go hC bk_X11_drift_130_131 (l' := [(0, .ref 0), (1, .int x), (2, .int (p_ref x tc q.1)), (3, .int 0)]) (st' := [.int (p_ref x tc q.1)]) (w' := (W_M (mv len fa hd dd sd sg es a wr) M)) rfl ?_
    refine rr_if_ne hC (off := 14) (tgt := 145) (by decide +kernel) (fun h131 => ?_) (fun h131 => by  exact absurd h131 hr)
    refine rr_go hC bk_X11_drift_145_146 (l' := [(0, .ref 0), (1, .int x), (2, .int (p_ref x tc q.1)), (3, .int 0)]) (st' := [.int (p_ref x tc q.1)]) (w' := (W_M (mv len fa hd dd sd sg es a wr) M)) rfl ?_
    exact rr_reti hC (by decide +kernel) (by rfl) (by rfl) ⟨Nat.zero_le _, Nat.zero_le _⟩
theorem bk_X11_drift_5_8 : rr_chk mX11_drift [(.istore_n 2, 0, 2, 0), (.iconst 0, 0, 0, 0), (.istore_n 3, 0, 3, 0)] 5 8 = true := by decide +kernel
theorem bk_X11_drift_8_10 : rr_chk mX11_drift [(.iload_n 3, 0, 3, 0), (.iload_n 1, 0, 1, 0)] 8 10 = true := by decide +kernel
theorem bk_X11_drift_134_139 : rr_chk mX11_drift [(.aload_n 0, 0, 0, 0), (.aload_n 0, 0, 0, 0), (.getfield 41, 0, 11, 12)] 134 139 = true := by decide +kernel
theorem bk_X11_drift_142_146 : rr_chk mX11_drift [(.goto 4, 0, 0, 0)] 142 146 = true := by decide +kernel
theorem bk_X11_drift_17_18 : rr_chk mX11_drift [(.aload_n 0, 0, 0, 0)] 17 18 = true := by decide +kernel
theorem bk_X11_drift_21_27 : rr_chk mX11_drift [(.aload_n 0, 0, 0, 0), (.getfield 17, 0, 11, 3), (.iconst 1, 1, 0, 0), (.iaload, 0, 1, 0)] 21 27 = true := by decide +kernel
theorem bk_X11_drift_98_101 : rr_chk mX11_drift [(.aload_n 0, 0, 0, 0), (.bipush 16, 16, 0, 0)] 98 101 = true := by decide +kernel
theorem bk_X11_drift_116_121 : rr_chk mX11_drift [(.aload_n 0, 0, 0, 0), (.aload_n 0, 0, 0, 0), (.getfield 41, 0, 11, 12)] 116 121 = true := by decide +kernel
theorem bk_X11_drift_124_8 : rr_chk mX11_drift [(.iinc 3 1, 1, 3, 0), (.goto (-119), 0, 0, 0)] 124 8 = true := by decide +kernel
theorem bk_X11_drift_107_111 : rr_chk mX11_drift [(.aload_n 0, 0, 0, 0), (.getfield 41, 0, 11, 12)] 107 111 = true := by decide +kernel
theorem bk_X11_drift_114_116 : rr_chk mX11_drift [(.istore 4, 0, 4, 0)] 114 116 = true := by decide +kernel
theorem bk_X11_drift_30_36 : rr_chk mX11_drift [(.aload_n 0, 0, 0, 0), (.getfield 17, 0, 11, 3), (.iconst 2, 2, 0, 0), (.iaload, 0, 2, 0)] 30 36 = true := by decide +kernel
theorem bk_X11_drift_39_46 : rr_chk mX11_drift [(.aload_n 0, 0, 0, 0), (.aload_n 0, 0, 0, 0), (.getfield 17, 0, 11, 3), (.iconst 2, 2, 0, 0), (.iaload, 0, 2, 0)] 39 46 = true := by decide +kernel
theorem bk_X11_drift_49_58 : rr_chk mX11_drift [(.istore 4, 0, 4, 0), (.aload_n 0, 0, 0, 0), (.aload_n 0, 0, 0, 0), (.getfield 17, 0, 11, 3), (.iconst 1, 1, 0, 0), (.iaload, 0, 1, 0)] 49 58 = true := by decide +kernel
theorem bk_X11_drift_61_69 : rr_chk mX11_drift [(.istore 5, 0, 5, 0), (.aload_n 0, 0, 0, 0), (.getfield 41, 0, 11, 12), (.iconst 1, 1, 0, 0), (.iaload, 0, 1, 0)] 61 69 = true := by decide +kernel
theorem bk_X11_drift_72_81 : rr_chk mX11_drift [(.aload_n 0, 0, 0, 0), (.aload_n 0, 0, 0, 0), (.getfield 41, 0, 11, 12), (.iload 4, 0, 4, 0), (.iload 5, 0, 5, 0)] 72 81 = true := by decide +kernel
theorem bk_X11_drift_87_95 : rr_chk mX11_drift [(.aload_n 0, 0, 0, 0), (.getfield 41, 0, 11, 12), (.iload 4, 0, 4, 0), (.iload 5, 0, 5, 0)] 87 95 = true := by decide +kernel
set_option maxRecDepth 100000 in
set_option maxHeartbeats 4000000 in
theorem m_drift (len : Nat) (fa : Int32) (hd : Bool) (dd : Nat) (sd : Int32) (sg es a : Nat) (wr : Int32) (M : Nat → Nat → Int32) (tc wd cc kc : Nat) (G : Nat → Nat → Int32) (hG : m_G M G tc wd cc kc) (q : p_Q) (hq : M 9 = en q) (n : Nat) (htc : tc ≤ 12) (hcc : cc ≤ 9) (hkc : kc ≤ 6) (h0c : 0 < cc → 0 < tc) (h0k : 0 < kc → 0 < tc) (hI : m_I G cc kc q) (hdd : dd ≤ 30) (hu : q.1 ≤ 9000) (hr : p_ref (nI n) tc q.1 = 0) (hn : n ≤ 30) : rr_C mX11_drift 6 [.ref 0, .int (nI n)] (W_M (mv len fa hd dd sd sg es a wr) M) 0 0 (some (p_fs (p_df G tc wd cc kc (q, sd) n).1.2.2.2.2 G kc)) (W_M (mv len fa hd ((m_np (M 11) dd (fun i => (p_df G tc wd cc kc (q, sd) i).1) n).2) ((p_df G tc wd cc kc (q, sd) n).2) sg es a wr) (va_up (va_up M 11 ((m_np (M 11) dd (fun i => (p_df G tc wd cc kc (q, sd) i).1) n).1)) 9 (en (p_df G tc wd cc kc (q, sd) n).1))) := by
  refine rr_C.of (n := 1) fX11_drift.1 rfl rfl (fun Z hC => ?_)
  show rr_J Z 6 0 0 (rr_MQ Z 0 0 (some (p_fs (p_df G tc wd cc kc (q, sd) n).1.2.2.2.2 G kc)) (W_M (mv len fa hd ((m_np (M 11) dd (fun i => (p_df G tc wd cc kc (q, sd) i).1) n).2) ((p_df G tc wd cc kc (q, sd) n).2) sg es a wr) (va_up (va_up M 11 ((m_np (M 11) dd (fun i => (p_df G tc wd cc kc (q, sd) i).1) n).1)) 9 (en (p_df G tc wd cc kc (q, sd) n).1)))) 0 [(0, .ref 0), (1, .int (nI n))] [] (W_M (mv len fa hd dd sd sg es a wr) M)
  refine rr_go hC bk_X11_drift_0_2 (l' := [(0, .ref 0), (1, .int (nI n))]) (st' := [.int (nI n), .ref 0]) (w' := (W_M (mv len fa hd dd sd sg es a wr) M)) rfl ?_
  refine rr_callVI hC (by decide +kernel) kl_11_208 fX11_barred (m_barred len fa hd dd sd sg es a wr M tc wd cc kc G hG q hq (nI n) (by omega) (by omega) (by omega) (by omega)) rfl rfl rfl rfl rfl (rest := []) rfl rfl ⟨Nat.zero_le _, Nat.zero_le _⟩ (Eq.refl 22) ?_
  show rr_J Z 6 0 0 _ 5 [(0, .ref 0), (1, .int (nI n))] [.int (p_ref (nI n) tc q.1)] (W_M (mv len fa hd dd sd sg es a wr) M)
  refine rr_go hC bk_X11_drift_5_8 (l' := [(0, .ref 0), (1, .int (nI n)), (2, .int (p_ref (nI n) tc q.1)), (3, .int 0)]) (st' := []) (w' := (W_M (mv len fa hd dd sd sg es a wr) M)) rfl ?_
  have lp8 : ∀ (j k : Nat), k + j = n → 0 ≤ k → rr_J Z 6 0 0 (rr_MQ Z 0 0 (some (p_fs (p_df G tc wd cc kc (q, sd) n).1.2.2.2.2 G kc)) (W_M (mv len fa hd ((m_np (M 11) dd (fun i => (p_df G tc wd cc kc (q, sd) i).1) n).2) ((p_df G tc wd cc kc (q, sd) n).2) sg es a wr) (va_up (va_up M 11 ((m_np (M 11) dd (fun i => (p_df G tc wd cc kc (q, sd) i).1) n).1)) 9 (en (p_df G tc wd cc kc (q, sd) n).1)))) 8 [(0, .ref 0), (1, .int (nI n)), (2, .int (p_ref (nI n) tc q.1)), (3, .int (nI k))] [] (W_M (mv len fa hd ((m_np (M 11) dd (fun i => (p_df G tc wd cc kc (q, sd) i).1) k).2) ((p_df G tc wd cc kc (q, sd) k).2) sg es a wr) (va_up (va_up M 11 ((m_np (M 11) dd (fun i => (p_df G tc wd cc kc (q, sd) i).1) k).1)) 9 (en (p_df G tc wd cc kc (q, sd) k).1))) := by
    intro j
    induction j with
    | zero =>
      intro k hk8 hlo8
      refine rr_go hC bk_X11_drift_8_10 (l' := [(0, .ref 0), (1, .int (nI n)), (2, .int (p_ref (nI n) tc q.1)), (3, .int (nI k))]) (st' := [.int (nI n), .int (nI k)]) (w' := (W_M (mv len fa hd ((m_np (M 11) dd (fun i => (p_df G tc wd cc kc (q, sd) i).1) k).2) ((p_df G tc wd cc kc (q, sd) k).2) sg es a wr) (va_up (va_up M 11 ((m_np (M 11) dd (fun i => (p_df G tc wd cc kc (q, sd) i).1) k).1)) 9 (en (p_df G tc wd cc kc (q, sd) k).1)))) rfl ?_
      refine rr_icmp_ge hC (off := 120) (tgt := 130) (by decide +kernel) (fun h10 => ?_) (fun h10 => by rw [rr_nn_le (by omega) (by omega)] at h10; omega)
      rw [rr_nn_le (by omega) (by omega)] at h10
      refine rr_go hC bk_X11_drift_130_131 (l' := [(0, .ref 0), (1, .int (nI n)), (2, .int (p_ref (nI n) tc q.1)), (3, .int (nI k))]) (st' := [.int (p_ref (nI n) tc q.1)]) (w' := (W_M (mv len fa hd ((m_np (M 11) dd (fun i => (p_df G tc wd cc kc (q, sd) i).1) k).2) ((p_df G tc wd cc kc (q, sd) k).2) sg es a wr) (va_up (va_up M 11 ((m_np (M 11) dd (fun i => (p_df G tc wd cc kc (q, sd) i).1) k).1)) 9 (en (p_df G tc wd cc kc (q, sd) k).1)))) rfl ?_
      refine rr_if_ne hC (off := 14) (tgt := 145) (by decide +kernel) (fun h131 => by  exact absurd hr h131) (fun h131 => ?_)
      have hIk : m_I G cc kc (p_df G tc wd cc kc (q, sd) k).1 := hI.df hcc hkc k
      refine rr_go hC bk_X11_drift_134_139 (l' := [(0, .ref 0), (1, .int (nI n)), (2, .int (p_ref (nI n) tc q.1)), (3, .int (nI k))]) (st' := [.ref 10, .ref 0]) (w' := (W_M (mv len fa hd ((m_np (M 11) dd (fun i => (p_df G tc wd cc kc (q, sd) i).1) k).2) ((p_df G tc wd cc kc (q, sd) k).2) sg es a wr) (va_up (va_up M 11 ((m_np (M 11) dd (fun i => (p_df G tc wd cc kc (q, sd) i).1) k).1)) 9 (en (p_df G tc wd cc kc (q, sd) k).1)))) rfl ?_
      refine rr_callVI hC (by decide +kernel) kl_11_169 fX11_force (m_force_now (mv len fa hd ((m_np (M 11) dd (fun i => (p_df G tc wd cc kc (q, sd) i).1) k).2) ((p_df G tc wd cc kc (q, sd) k).2) sg es a wr) (va_up (va_up M 11 ((m_np (M 11) dd (fun i => (p_df G tc wd cc kc (q, sd) i).1) k).1)) 9 (en (p_df G tc wd cc kc (q, sd) k).1)) tc wd cc kc G (by exact hG) ((p_df G tc wd cc kc (q, sd) k).1) rfl (by omega) (by omega) (by omega) hIk.ok) rfl rfl rfl rfl rfl (rest := []) rfl rfl ⟨Nat.zero_le _, Nat.zero_le _⟩ (Eq.refl 22) ?_
      show rr_J Z 6 0 0 _ 142 [(0, .ref 0), (1, .int (nI n)), (2, .int (p_ref (nI n) tc q.1)), (3, .int (nI k))] [.int (p_fs ((p_df G tc wd cc kc (q, sd) k).1).2.2.2.2 G kc)] (W_M (mv len fa hd ((m_np (M 11) dd (fun i => (p_df G tc wd cc kc (q, sd) i).1) k).2) ((p_df G tc wd cc kc (q, sd) k).2) sg es a wr) (va_up (va_up M 11 ((m_np (M 11) dd (fun i => (p_df G tc wd cc kc (q, sd) i).1) k).1)) 9 (en (p_df G tc wd cc kc (q, sd) k).1)))
      refine rr_go hC bk_X11_drift_142_146 (l' := [(0, .ref 0), (1, .int (nI n)), (2, .int (p_ref (nI n) tc q.1)), (3, .int (nI k))]) (st' := [.int (p_fs ((p_df G tc wd cc kc (q, sd) k).1).2.2.2.2 G kc)]) (w' := (W_M (mv len fa hd ((m_np (M 11) dd (fun i => (p_df G tc wd cc kc (q, sd) i).1) k).2) ((p_df G tc wd cc kc (q, sd) k).2) sg es a wr) (va_up (va_up M 11 ((m_np (M 11) dd (fun i => (p_df G tc wd cc kc (q, sd) i).1) k).1)) 9 (en (p_df G tc wd cc kc (q, sd) k).1)))) rfl ?_
      exact rr_reti hC (by decide +kernel) (by rw [show k = n by omega]) (by rw [show k = n by omega]) ⟨Nat.zero_le _, Nat.zero_le _⟩
    | succ j ih =>
      intro k hk8 hlo8
      refine rr_go hC bk_X11_drift_8_10 (l' := [(0, .ref 0), (1, .int (nI n)), (2, .int (p_ref (nI n) tc q.1)), (3, .int (nI k))]) (st' := [.int (nI n), .int (nI k)]) (w' := (W_M (mv len fa hd ((m_np (M 11) dd (fun i => (p_df G tc wd cc kc (q, sd) i).1) k).2) ((p_df G tc wd cc kc (q, sd) k).2) sg es a wr) (va_up (va_up M 11 ((m_np (M 11) dd (fun i => (p_df G tc wd cc kc (q, sd) i).1) k).1)) 9 (en (p_df G tc wd cc kc (q, sd) k).1)))) rfl ?_
      refine rr_icmp_ge hC (off := 120) (tgt := 130) (by decide +kernel) (fun h10 => by rw [rr_nn_le (by omega) (by omega)] at h10; omega) (fun h10 => ?_)
      rw [rr_nn_le (by omega) (by omega)] at h10
      refine rr_go hC bk_X11_drift_13_14 (l' := [(0, .ref 0), (1, .int (nI n)), (2, .int (p_ref (nI n) tc q.1)), (3, .int (nI k))]) (st' := [.int (p_ref (nI n) tc q.1)]) (w' := (W_M (mv len fa hd ((m_np (M 11) dd (fun i => (p_df G tc wd cc kc (q, sd) i).1) k).2) ((p_df G tc wd cc kc (q, sd) k).2) sg es a wr) (va_up (va_up M 11 ((m_np (M 11) dd (fun i => (p_df G tc wd cc kc (q, sd) i).1) k).1)) 9 (en (p_df G tc wd cc kc (q, sd) k).1)))) rfl ?_
      refine rr_if_ne hC (off := 116) (tgt := 130) (by decide +kernel) (fun h14 => by  exact absurd hr h14) (fun h14 => ?_)
      obtain ⟨X, hX⟩ : ∃ X, X = p_df G tc wd cc kc (q, sd) k := ⟨_, rfl⟩
      have hIX : m_I G cc kc X.1 := by rw [hX]; exact hI.df hcc hkc k
      have hXh : X.1.1 = q.1 + k := by rw [hX]; exact p_df_h G tc wd cc kc (q, sd) k
      obtain ⟨F, hF⟩ : ∃ F, F = (m_np (M 11) dd (fun i => (p_df G tc wd cc kc (q, sd) i).1) k).1 := ⟨_, rfl⟩
      obtain ⟨d2, hd2⟩ : ∃ F, F = (m_np (M 11) dd (fun i => (p_df G tc wd cc kc (q, sd) i).1) k).2 := ⟨_, rfl⟩
      have hNl : d2 ≤ 30 := by rw [hd2]; exact m_np_le hdd k
      obtain ⟨F2, hF2⟩ : ∃ F2, F2 = m_nt F (en X.1) d2 := ⟨_, rfl⟩
      obtain ⟨d3, hd3⟩ : ∃ d3, d3 = m_nd d2 := ⟨_, rfl⟩
      refine rr_cast (l' := [(0, .ref 0), (1, .int (nI n)), (2, .int (p_ref (nI n) tc q.1)), (3, .int (nI k))]) rfl (st' := []) rfl (w' := (W_M (mv len fa hd d2 X.2 sg es a wr) (va_up (va_up M 11 F) 9 (en X.1)))) (by rw [hX, hF, hd2]) ?_
      refine rr_go hC bk_X11_drift_17_18 (l' := [(0, .ref 0), (1, .int (nI n)), (2, .int (p_ref (nI n) tc q.1)), (3, .int (nI k))]) (st' := [.ref 0]) (w' := (W_M (mv len fa hd d2 X.2 sg es a wr) (va_up (va_up M 11 F) 9 (en X.1)))) rfl ?_
      refine rr_callVI hC (by decide +kernel) kl_11_191 fX11_notes (m_notes len fa hd d2 X.2 sg es a wr (va_up (va_up M 11 F) 9 (en X.1)) hNl) rfl rfl rfl rfl rfl (rest := []) rfl rfl ⟨Nat.zero_le _, Nat.zero_le _⟩ (Eq.refl 22) ?_
      show rr_J Z 6 0 0 _ 21 [(0, .ref 0), (1, .int (nI n)), (2, .int (p_ref (nI n) tc q.1)), (3, .int (nI k))] [] (W_M (mv len fa hd (m_nd d2) X.2 sg es a wr) (va_up (va_up M 9 (en X.1)) 11 (m_nt F (en X.1) d2)))
      refine rr_cast (l' := [(0, .ref 0), (1, .int (nI n)), (2, .int (p_ref (nI n) tc q.1)), (3, .int (nI k))]) rfl (st' := []) rfl (w' := (W_M (mv len fa hd d3 X.2 sg es a wr) (va_up (va_up M 11 F2) 9 (en X.1)))) (by rw [hF2, hd3] <;> rfl) ?_
      refine rr_go hC bk_X11_drift_21_27 (l' := [(0, .ref 0), (1, .int (nI n)), (2, .int (p_ref (nI n) tc q.1)), (3, .int (nI k))]) (st' := [.int (M 1 1)]) (w' := (W_M (mv len fa hd d3 X.2 sg es a wr) (va_up (va_up M 11 F2) 9 (en X.1)))) rfl ?_
      rw [show (M 1 1 : Int32) = nI cc from hG.2.1]
      refine rr_if_le hC (off := 71) (tgt := 98) (by decide +kernel) (fun h27 => ?_) (fun h27 => ?_)
      · rw [rr_nl_le (b := 0) (by omega) (by omega)] at h27
        obtain ⟨Y, hY⟩ : ∃ Y, Y = p_d1 G tc cc kc X := ⟨_, rfl⟩
        have hYe := hY.trans (p_d1_0 (by omega))
        have hIY : m_I G cc kc Y.1 := by rw [hY]; exact hIX.d1 hcc hkc
        have hYh : Y.1.1 = q.1 + k := by rw [hY, p_d1_h]; exact hXh
        refine rr_cast (l' := [(0, .ref 0), (1, .int (nI n)), (2, .int (p_ref (nI n) tc q.1)), (3, .int (nI k))]) rfl (st' := []) rfl (w' := (W_M (mv len fa hd d3 Y.2 sg es a wr) (va_up (va_up M 11 F2) 9 (en Y.1)))) (by rw [hYe] <;> rfl) ?_
        refine rr_go hC bk_X11_drift_98_101 (l' := [(0, .ref 0), (1, .int (nI n)), (2, .int (p_ref (nI n) tc q.1)), (3, .int (nI k))]) (st' := [.int 16, .ref 0]) (w' := (W_M (mv len fa hd d3 Y.2 sg es a wr) (va_up (va_up M 11 F2) 9 (en Y.1)))) rfl ?_
        refine rr_callVI hC (by decide +kernel) kl_11_225 fX11_draw (m_draw len fa hd d3 Y.2 sg es a wr (va_up (va_up M 11 F2) 9 (en Y.1)) 16 (by omega) (by omega)) rfl rfl rfl rfl rfl (rest := []) rfl rfl ⟨Nat.zero_le _, Nat.zero_le _⟩ (Eq.refl 22) ?_
        show rr_J Z 6 0 0 _ 104 [(0, .ref 0), (1, .int (nI n)), (2, .int (p_ref (nI n) tc q.1)), (3, .int (nI k))] [.int (nI (p_dr Y.2 16))] (W_M (mv len fa hd d3 (p_lcg Y.2) sg es a wr) (va_up (va_up M 11 F2) 9 (en Y.1)))
        obtain ⟨zd, hzd⟩ : ∃ z, z = p_dr Y.2 16 := ⟨_, rfl⟩
        have hlzd : zd < 16 := by rw [hzd]; exact p_dr_lt _ (by omega)
        refine rr_cast (l' := [(0, .ref 0), (1, .int (nI n)), (2, .int (p_ref (nI n) tc q.1)), (3, .int (nI k))]) rfl (st' := [.int (nI zd)]) (by rw [hzd]) (w' := (W_M (mv len fa hd d3 (p_lcg Y.2) sg es a wr) (va_up (va_up M 11 F2) 9 (en Y.1)))) rfl ?_
        refine rr_if_ne hC (off := 12) (tgt := 116) (by decide +kernel) (fun h104 => ?_) (fun h104 => ?_)
        · rw [rr_nl_eq (b := 0) (by omega) (by omega)] at h104
          refine rr_go hC bk_X11_drift_116_121 (l' := [(0, .ref 0), (1, .int (nI n)), (2, .int (p_ref (nI n) tc q.1)), (3, .int (nI k))]) (st' := [.ref 10, .ref 0]) (w' := (W_M (mv len fa hd d3 (p_lcg Y.2) sg es a wr) (va_up (va_up M 11 F2) 9 (en Y.1)))) rfl ?_
          refine rr_callVI hC (by decide +kernel) kl_11_211 fX11_passes (m_passes_now (mv len fa hd d3 (p_lcg Y.2) sg es a wr) (va_up (va_up M 11 F2) 9 (en Y.1)) tc wd cc kc G (by exact hG) Y.1 rfl (by omega) (by omega) (by omega) h0c (by first | omega | (simp only [p_it_h, p_wr_h, p_sm_h, p_dd_h, p_d1_h, p_df_h]; omega)) hIY.1) rfl rfl rfl rfl rfl (rest := []) rfl rfl ⟨Nat.zero_le _, Nat.zero_le _⟩ (Eq.refl 22) ?_
          show rr_J Z 6 0 0 _ 124 [(0, .ref 0), (1, .int (nI n)), (2, .int (p_ref (nI n) tc q.1)), (3, .int (nI k))] [] (W_M (mv len fa hd d3 (p_lcg Y.2) sg es a wr) (va_up (va_up M 11 F2) 9 (en (p_pass G tc wd kc Y.1))))
          refine rr_go hC bk_X11_drift_124_8 (l' := [(0, .ref 0), (1, .int (nI n)), (2, .int (p_ref (nI n) tc q.1)), (3, .int ((nI k) + 1))]) (st' := []) (w' := (W_M (mv len fa hd d3 (p_lcg Y.2) sg es a wr) (va_up (va_up M 11 F2) 9 (en (p_pass G tc wd kc Y.1))))) rfl ?_
          rw [show ((nI k) + 1 : Int32) = nI (k + 1) from nI_add k 1]
          have hst : p_dd G tc cc kc X = (Y.1, p_lcg Y.2) := by rw [hzd] at h104; rw [hY] at h104 ⊢; exact p_dd_n h104
          exact rr_cast (l' := [(0, .ref 0), (1, .int (nI n)), (2, .int (p_ref (nI n) tc q.1)), (3, .int (nI (k + 1)))]) (by rfl) rfl (w' := (W_M (mv len fa hd ((m_np (M 11) dd (fun i => (p_df G tc wd cc kc (q, sd) i).1) (k + 1)).2) ((p_df G tc wd cc kc (q, sd) (k + 1)).2) sg es a wr) (va_up (va_up M 11 ((m_np (M 11) dd (fun i => (p_df G tc wd cc kc (q, sd) i).1) (k + 1)).1)) 9 (en (p_df G tc wd cc kc (q, sd) (k + 1)).1)))) (by rw [m_np_1, m_np_2, p_df_1, ← hX, hst, ← hF, ← hd2, ← hF2, ← hd3] <;> rfl) (ih (k + 1) (by omega) (by omega))
        · rw [rr_nl_eq (b := 0) (by omega) (by omega)] at h104
          refine rr_go hC bk_X11_drift_107_111 (l' := [(0, .ref 0), (1, .int (nI n)), (2, .int (p_ref (nI n) tc q.1)), (3, .int (nI k))]) (st' := [.ref 10]) (w' := (W_M (mv len fa hd d3 (p_lcg Y.2) sg es a wr) (va_up (va_up M 11 F2) 9 (en Y.1)))) rfl ?_
          refine rr_callS hC (by decide +kernel) kl_11_202 fX11_sweeps (m_sweepsS (fun _ => en Y.1) Y.1 rfl G cc kc hIY hcc hkc) rfl rfl [10] rfl rfl (Eq.refl 1) rfl (rest := []) rfl rfl ⟨Nat.zero_le _, Nat.zero_le _⟩ (w2 := (W_M (mv len fa hd d3 (p_lcg Y.2) sg es a wr) (va_up (va_up M 11 F2) 9 (en (p_sm Y.1 kc))))) rfl ?_
          show rr_J Z 6 0 0 _ 114 [(0, .ref 0), (1, .int (nI n)), (2, .int (p_ref (nI n) tc q.1)), (3, .int (nI k))] [.int (nI ((p_ra Y.1.2.2.2.2 Y.1.2.1 kc).2.2))] (W_M (mv len fa hd d3 (p_lcg Y.2) sg es a wr) (va_up (va_up M 11 F2) 9 (en (p_sm Y.1 kc))))
          refine rr_go hC bk_X11_drift_114_116 (l' := [(0, .ref 0), (1, .int (nI n)), (2, .int (p_ref (nI n) tc q.1)), (3, .int (nI k)), (4, .int (nI ((p_ra Y.1.2.2.2.2 Y.1.2.1 kc).2.2)))]) (st' := []) (w' := (W_M (mv len fa hd d3 (p_lcg Y.2) sg es a wr) (va_up (va_up M 11 F2) 9 (en (p_sm Y.1 kc))))) rfl ?_
          refine rr_dr 4 (l' := [(0, .ref 0), (1, .int (nI n)), (2, .int (p_ref (nI n) tc q.1)), (3, .int (nI k))]) rfl ?_
          refine rr_go hC bk_X11_drift_116_121 (l' := [(0, .ref 0), (1, .int (nI n)), (2, .int (p_ref (nI n) tc q.1)), (3, .int (nI k))]) (st' := [.ref 10, .ref 0]) (w' := (W_M (mv len fa hd d3 (p_lcg Y.2) sg es a wr) (va_up (va_up M 11 F2) 9 (en (p_sm Y.1 kc))))) rfl ?_
          refine rr_callVI hC (by decide +kernel) kl_11_211 fX11_passes (m_passes_now (mv len fa hd d3 (p_lcg Y.2) sg es a wr) (va_up (va_up M 11 F2) 9 (en (p_sm Y.1 kc))) tc wd cc kc G (by exact hG) (p_sm Y.1 kc) rfl (by omega) (by omega) (by omega) h0c (by first | omega | (simp only [p_it_h, p_wr_h, p_sm_h, p_dd_h, p_d1_h, p_df_h]; omega)) (hIY.sm hcc hkc).1) rfl rfl rfl rfl rfl (rest := []) rfl rfl ⟨Nat.zero_le _, Nat.zero_le _⟩ (Eq.refl 22) ?_
          show rr_J Z 6 0 0 _ 124 [(0, .ref 0), (1, .int (nI n)), (2, .int (p_ref (nI n) tc q.1)), (3, .int (nI k))] [] (W_M (mv len fa hd d3 (p_lcg Y.2) sg es a wr) (va_up (va_up M 11 F2) 9 (en (p_pass G tc wd kc (p_sm Y.1 kc)))))
          refine rr_go hC bk_X11_drift_124_8 (l' := [(0, .ref 0), (1, .int (nI n)), (2, .int (p_ref (nI n) tc q.1)), (3, .int ((nI k) + 1))]) (st' := []) (w' := (W_M (mv len fa hd d3 (p_lcg Y.2) sg es a wr) (va_up (va_up M 11 F2) 9 (en (p_pass G tc wd kc (p_sm Y.1 kc)))))) rfl ?_
          rw [show ((nI k) + 1 : Int32) = nI (k + 1) from nI_add k 1]
          have hst : p_dd G tc cc kc X = (p_sm Y.1 kc, p_lcg Y.2) := by rw [hzd] at h104; rw [hY] at h104 ⊢; exact p_dd_y h104
          exact rr_cast (l' := [(0, .ref 0), (1, .int (nI n)), (2, .int (p_ref (nI n) tc q.1)), (3, .int (nI (k + 1)))]) (by rfl) rfl (w' := (W_M (mv len fa hd ((m_np (M 11) dd (fun i => (p_df G tc wd cc kc (q, sd) i).1) (k + 1)).2) ((p_df G tc wd cc kc (q, sd) (k + 1)).2) sg es a wr) (va_up (va_up M 11 ((m_np (M 11) dd (fun i => (p_df G tc wd cc kc (q, sd) i).1) (k + 1)).1)) 9 (en (p_df G tc wd cc kc (q, sd) (k + 1)).1)))) (by rw [m_np_1, m_np_2, p_df_1, ← hX, hst, ← hF, ← hd2, ← hF2, ← hd3] <;> rfl) (ih (k + 1) (by omega) (by omega))
      · rw [rr_nl_le (b := 0) (by omega) (by omega)] at h27
        refine rr_go hC bk_X11_drift_30_36 (l' := [(0, .ref 0), (1, .int (nI n)), (2, .int (p_ref (nI n) tc q.1)), (3, .int (nI k))]) (st' := [.int (M 1 2)]) (w' := (W_M (mv len fa hd d3 X.2 sg es a wr) (va_up (va_up M 11 F2) 9 (en X.1)))) rfl ?_
        rw [show (M 1 2 : Int32) = nI kc from hG.2.2.1]
        refine rr_if_le hC (off := 62) (tgt := 98) (by decide +kernel) (fun h36 => ?_) (fun h36 => ?_)
        · rw [rr_nl_le (b := 0) (by omega) (by omega)] at h36
          obtain ⟨Y, hY⟩ : ∃ Y, Y = p_d1 G tc cc kc X := ⟨_, rfl⟩
          have hYe := hY.trans (p_d1_0 (by omega))
          have hIY : m_I G cc kc Y.1 := by rw [hY]; exact hIX.d1 hcc hkc
          have hYh : Y.1.1 = q.1 + k := by rw [hY, p_d1_h]; exact hXh
          refine rr_cast (l' := [(0, .ref 0), (1, .int (nI n)), (2, .int (p_ref (nI n) tc q.1)), (3, .int (nI k))]) rfl (st' := []) rfl (w' := (W_M (mv len fa hd d3 Y.2 sg es a wr) (va_up (va_up M 11 F2) 9 (en Y.1)))) (by rw [hYe] <;> rfl) ?_
          refine rr_go hC bk_X11_drift_98_101 (l' := [(0, .ref 0), (1, .int (nI n)), (2, .int (p_ref (nI n) tc q.1)), (3, .int (nI k))]) (st' := [.int 16, .ref 0]) (w' := (W_M (mv len fa hd d3 Y.2 sg es a wr) (va_up (va_up M 11 F2) 9 (en Y.1)))) rfl ?_
          refine rr_callVI hC (by decide +kernel) kl_11_225 fX11_draw (m_draw len fa hd d3 Y.2 sg es a wr (va_up (va_up M 11 F2) 9 (en Y.1)) 16 (by omega) (by omega)) rfl rfl rfl rfl rfl (rest := []) rfl rfl ⟨Nat.zero_le _, Nat.zero_le _⟩ (Eq.refl 22) ?_
          show rr_J Z 6 0 0 _ 104 [(0, .ref 0), (1, .int (nI n)), (2, .int (p_ref (nI n) tc q.1)), (3, .int (nI k))] [.int (nI (p_dr Y.2 16))] (W_M (mv len fa hd d3 (p_lcg Y.2) sg es a wr) (va_up (va_up M 11 F2) 9 (en Y.1)))
          obtain ⟨zd, hzd⟩ : ∃ z, z = p_dr Y.2 16 := ⟨_, rfl⟩
          have hlzd : zd < 16 := by rw [hzd]; exact p_dr_lt _ (by omega)
          refine rr_cast (l' := [(0, .ref 0), (1, .int (nI n)), (2, .int (p_ref (nI n) tc q.1)), (3, .int (nI k))]) rfl (st' := [.int (nI zd)]) (by rw [hzd]) (w' := (W_M (mv len fa hd d3 (p_lcg Y.2) sg es a wr) (va_up (va_up M 11 F2) 9 (en Y.1)))) rfl ?_
          refine rr_if_ne hC (off := 12) (tgt := 116) (by decide +kernel) (fun h104 => ?_) (fun h104 => ?_)
          · rw [rr_nl_eq (b := 0) (by omega) (by omega)] at h104
            refine rr_go hC bk_X11_drift_116_121 (l' := [(0, .ref 0), (1, .int (nI n)), (2, .int (p_ref (nI n) tc q.1)), (3, .int (nI k))]) (st' := [.ref 10, .ref 0]) (w' := (W_M (mv len fa hd d3 (p_lcg Y.2) sg es a wr) (va_up (va_up M 11 F2) 9 (en Y.1)))) rfl ?_
            refine rr_callVI hC (by decide +kernel) kl_11_211 fX11_passes (m_passes_now (mv len fa hd d3 (p_lcg Y.2) sg es a wr) (va_up (va_up M 11 F2) 9 (en Y.1)) tc wd cc kc G (by exact hG) Y.1 rfl (by omega) (by omega) (by omega) h0c (by first | omega | (simp only [p_it_h, p_wr_h, p_sm_h, p_dd_h, p_d1_h, p_df_h]; omega)) hIY.1) rfl rfl rfl rfl rfl (rest := []) rfl rfl ⟨Nat.zero_le _, Nat.zero_le _⟩ (Eq.refl 22) ?_
            show rr_J Z 6 0 0 _ 124 [(0, .ref 0), (1, .int (nI n)), (2, .int (p_ref (nI n) tc q.1)), (3, .int (nI k))] [] (W_M (mv len fa hd d3 (p_lcg Y.2) sg es a wr) (va_up (va_up M 11 F2) 9 (en (p_pass G tc wd kc Y.1))))
            refine rr_go hC bk_X11_drift_124_8 (l' := [(0, .ref 0), (1, .int (nI n)), (2, .int (p_ref (nI n) tc q.1)), (3, .int ((nI k) + 1))]) (st' := []) (w' := (W_M (mv len fa hd d3 (p_lcg Y.2) sg es a wr) (va_up (va_up M 11 F2) 9 (en (p_pass G tc wd kc Y.1))))) rfl ?_
            rw [show ((nI k) + 1 : Int32) = nI (k + 1) from nI_add k 1]
            have hst : p_dd G tc cc kc X = (Y.1, p_lcg Y.2) := by rw [hzd] at h104; rw [hY] at h104 ⊢; exact p_dd_n h104
            exact rr_cast (l' := [(0, .ref 0), (1, .int (nI n)), (2, .int (p_ref (nI n) tc q.1)), (3, .int (nI (k + 1)))]) (by rfl) rfl (w' := (W_M (mv len fa hd ((m_np (M 11) dd (fun i => (p_df G tc wd cc kc (q, sd) i).1) (k + 1)).2) ((p_df G tc wd cc kc (q, sd) (k + 1)).2) sg es a wr) (va_up (va_up M 11 ((m_np (M 11) dd (fun i => (p_df G tc wd cc kc (q, sd) i).1) (k + 1)).1)) 9 (en (p_df G tc wd cc kc (q, sd) (k + 1)).1)))) (by rw [m_np_1, m_np_2, p_df_1, ← hX, hst, ← hF, ← hd2, ← hF2, ← hd3] <;> rfl) (ih (k + 1) (by omega) (by omega))
          · rw [rr_nl_eq (b := 0) (by omega) (by omega)] at h104
            refine rr_go hC bk_X11_drift_107_111 (l' := [(0, .ref 0), (1, .int (nI n)), (2, .int (p_ref (nI n) tc q.1)), (3, .int (nI k))]) (st' := [.ref 10]) (w' := (W_M (mv len fa hd d3 (p_lcg Y.2) sg es a wr) (va_up (va_up M 11 F2) 9 (en Y.1)))) rfl ?_
            refine rr_callS hC (by decide +kernel) kl_11_202 fX11_sweeps (m_sweepsS (fun _ => en Y.1) Y.1 rfl G cc kc hIY hcc hkc) rfl rfl [10] rfl rfl (Eq.refl 1) rfl (rest := []) rfl rfl ⟨Nat.zero_le _, Nat.zero_le _⟩ (w2 := (W_M (mv len fa hd d3 (p_lcg Y.2) sg es a wr) (va_up (va_up M 11 F2) 9 (en (p_sm Y.1 kc))))) rfl ?_
            show rr_J Z 6 0 0 _ 114 [(0, .ref 0), (1, .int (nI n)), (2, .int (p_ref (nI n) tc q.1)), (3, .int (nI k))] [.int (nI ((p_ra Y.1.2.2.2.2 Y.1.2.1 kc).2.2))] (W_M (mv len fa hd d3 (p_lcg Y.2) sg es a wr) (va_up (va_up M 11 F2) 9 (en (p_sm Y.1 kc))))
            refine rr_go hC bk_X11_drift_114_116 (l' := [(0, .ref 0), (1, .int (nI n)), (2, .int (p_ref (nI n) tc q.1)), (3, .int (nI k)), (4, .int (nI ((p_ra Y.1.2.2.2.2 Y.1.2.1 kc).2.2)))]) (st' := []) (w' := (W_M (mv len fa hd d3 (p_lcg Y.2) sg es a wr) (va_up (va_up M 11 F2) 9 (en (p_sm Y.1 kc))))) rfl ?_
            refine rr_dr 4 (l' := [(0, .ref 0), (1, .int (nI n)), (2, .int (p_ref (nI n) tc q.1)), (3, .int (nI k))]) rfl ?_
            refine rr_go hC bk_X11_drift_116_121 (l' := [(0, .ref 0), (1, .int (nI n)), (2, .int (p_ref (nI n) tc q.1)), (3, .int (nI k))]) (st' := [.ref 10, .ref 0]) (w' := (W_M (mv len fa hd d3 (p_lcg Y.2) sg es a wr) (va_up (va_up M 11 F2) 9 (en (p_sm Y.1 kc))))) rfl ?_
            refine rr_callVI hC (by decide +kernel) kl_11_211 fX11_passes (m_passes_now (mv len fa hd d3 (p_lcg Y.2) sg es a wr) (va_up (va_up M 11 F2) 9 (en (p_sm Y.1 kc))) tc wd cc kc G (by exact hG) (p_sm Y.1 kc) rfl (by omega) (by omega) (by omega) h0c (by first | omega | (simp only [p_it_h, p_wr_h, p_sm_h, p_dd_h, p_d1_h, p_df_h]; omega)) (hIY.sm hcc hkc).1) rfl rfl rfl rfl rfl (rest := []) rfl rfl ⟨Nat.zero_le _, Nat.zero_le _⟩ (Eq.refl 22) ?_
            show rr_J Z 6 0 0 _ 124 [(0, .ref 0), (1, .int (nI n)), (2, .int (p_ref (nI n) tc q.1)), (3, .int (nI k))] [] (W_M (mv len fa hd d3 (p_lcg Y.2) sg es a wr) (va_up (va_up M 11 F2) 9 (en (p_pass G tc wd kc (p_sm Y.1 kc)))))
            refine rr_go hC bk_X11_drift_124_8 (l' := [(0, .ref 0), (1, .int (nI n)), (2, .int (p_ref (nI n) tc q.1)), (3, .int ((nI k) + 1))]) (st' := []) (w' := (W_M (mv len fa hd d3 (p_lcg Y.2) sg es a wr) (va_up (va_up M 11 F2) 9 (en (p_pass G tc wd kc (p_sm Y.1 kc)))))) rfl ?_
            rw [show ((nI k) + 1 : Int32) = nI (k + 1) from nI_add k 1]
            have hst : p_dd G tc cc kc X = (p_sm Y.1 kc, p_lcg Y.2) := by rw [hzd] at h104; rw [hY] at h104 ⊢; exact p_dd_y h104
            exact rr_cast (l' := [(0, .ref 0), (1, .int (nI n)), (2, .int (p_ref (nI n) tc q.1)), (3, .int (nI (k + 1)))]) (by rfl) rfl (w' := (W_M (mv len fa hd ((m_np (M 11) dd (fun i => (p_df G tc wd cc kc (q, sd) i).1) (k + 1)).2) ((p_df G tc wd cc kc (q, sd) (k + 1)).2) sg es a wr) (va_up (va_up M 11 ((m_np (M 11) dd (fun i => (p_df G tc wd cc kc (q, sd) i).1) (k + 1)).1)) 9 (en (p_df G tc wd cc kc (q, sd) (k + 1)).1)))) (by rw [m_np_1, m_np_2, p_df_1, ← hX, hst, ← hF, ← hd2, ← hF2, ← hd3] <;> rfl) (ih (k + 1) (by omega) (by omega))
        · rw [rr_nl_le (b := 0) (by omega) (by omega)] at h36
          refine rr_go hC bk_X11_drift_39_46 (l' := [(0, .ref 0), (1, .int (nI n)), (2, .int (p_ref (nI n) tc q.1)), (3, .int (nI k))]) (st' := [.int (M 1 2), .ref 0]) (w' := (W_M (mv len fa hd d3 X.2 sg es a wr) (va_up (va_up M 11 F2) 9 (en X.1)))) rfl ?_
          rw [show (M 1 2 : Int32) = nI kc from hG.2.2.1]
          refine rr_callVI hC (by decide +kernel) kl_11_225 fX11_draw (m_draw len fa hd d3 X.2 sg es a wr (va_up (va_up M 11 F2) 9 (en X.1)) kc (by omega) (by omega)) rfl rfl rfl rfl rfl (rest := []) rfl rfl ⟨Nat.zero_le _, Nat.zero_le _⟩ (Eq.refl 22) ?_
          show rr_J Z 6 0 0 _ 49 [(0, .ref 0), (1, .int (nI n)), (2, .int (p_ref (nI n) tc q.1)), (3, .int (nI k))] [.int (nI (p_dr X.2 kc))] (W_M (mv len fa hd d3 (p_lcg X.2) sg es a wr) (va_up (va_up M 11 F2) 9 (en X.1)))
          obtain ⟨kd, hkd⟩ : ∃ z, z = p_dr X.2 kc := ⟨_, rfl⟩
          have hlkd : kd < kc := by rw [hkd]; exact p_dr_lt _ (by omega)
          refine rr_cast (l' := [(0, .ref 0), (1, .int (nI n)), (2, .int (p_ref (nI n) tc q.1)), (3, .int (nI k))]) rfl (st' := [.int (nI kd)]) (by rw [hkd]) (w' := (W_M (mv len fa hd d3 (p_lcg X.2) sg es a wr) (va_up (va_up M 11 F2) 9 (en X.1)))) rfl ?_
          refine rr_go hC bk_X11_drift_49_58 (l' := [(0, .ref 0), (1, .int (nI n)), (2, .int (p_ref (nI n) tc q.1)), (3, .int (nI k)), (4, .int (nI kd))]) (st' := [.int (M 1 1), .ref 0]) (w' := (W_M (mv len fa hd d3 (p_lcg X.2) sg es a wr) (va_up (va_up M 11 F2) 9 (en X.1)))) rfl ?_
          rw [show (M 1 1 : Int32) = nI cc from hG.2.1]
          refine rr_callVI hC (by decide +kernel) kl_11_225 fX11_draw (m_draw len fa hd d3 (p_lcg X.2) sg es a wr (va_up (va_up M 11 F2) 9 (en X.1)) cc (by omega) (by omega)) rfl rfl rfl rfl rfl (rest := []) rfl rfl ⟨Nat.zero_le _, Nat.zero_le _⟩ (Eq.refl 22) ?_
          show rr_J Z 6 0 0 _ 61 [(0, .ref 0), (1, .int (nI n)), (2, .int (p_ref (nI n) tc q.1)), (3, .int (nI k)), (4, .int (nI kd))] [.int (nI (p_dr (p_lcg X.2) cc))] (W_M (mv len fa hd d3 (p_lcg (p_lcg X.2)) sg es a wr) (va_up (va_up M 11 F2) 9 (en X.1)))
          obtain ⟨cd, hcd⟩ : ∃ z, z = p_dr (p_lcg X.2) cc := ⟨_, rfl⟩
          have hlcd : cd < cc := by rw [hcd]; exact p_dr_lt _ (by omega)
          refine rr_cast (l' := [(0, .ref 0), (1, .int (nI n)), (2, .int (p_ref (nI n) tc q.1)), (3, .int (nI k)), (4, .int (nI kd))]) rfl (st' := [.int (nI cd)]) (by rw [hcd]) (w' := (W_M (mv len fa hd d3 (p_lcg (p_lcg X.2)) sg es a wr) (va_up (va_up M 11 F2) 9 (en X.1)))) rfl ?_
          refine rr_go hC bk_X11_drift_61_69 (l' := [(0, .ref 0), (1, .int (nI n)), (2, .int (p_ref (nI n) tc q.1)), (3, .int (nI k)), (4, .int (nI kd)), (5, .int (nI cd))]) (st' := [.int ((en X.1) 1)]) (w' := (W_M (mv len fa hd d3 (p_lcg (p_lcg X.2)) sg es a wr) (va_up (va_up M 11 F2) 9 (en X.1)))) rfl ?_
          rw [en_1]
          refine rr_if_ne hC (off := 29) (tgt := 98) (by decide +kernel) (fun h69 => ?_) (fun h69 => ?_)
          · refine rr_dr 5 (l' := [(0, .ref 0), (1, .int (nI n)), (2, .int (p_ref (nI n) tc q.1)), (3, .int (nI k)), (4, .int (nI kd))]) rfl ?_
            refine rr_dr 4 (l' := [(0, .ref 0), (1, .int (nI n)), (2, .int (p_ref (nI n) tc q.1)), (3, .int (nI k))]) rfl ?_
            obtain ⟨Y, hY⟩ : ∃ Y, Y = p_d1 G tc cc kc X := ⟨_, rfl⟩
            have hYe := hY.trans (p_d1_n ⟨by omega, by omega⟩ (fun z => by rw [← hkd, ← hcd, p_may_m hIX hkc tc kd (c := cd) (by omega), Bool.and_eq_true] at z; exact h69 (p_i0.mpr (of_decide_eq_true z.1))))
            have hIY : m_I G cc kc Y.1 := by rw [hY]; exact hIX.d1 hcc hkc
            have hYh : Y.1.1 = q.1 + k := by rw [hY, p_d1_h]; exact hXh
            refine rr_cast (l' := [(0, .ref 0), (1, .int (nI n)), (2, .int (p_ref (nI n) tc q.1)), (3, .int (nI k))]) rfl (st' := []) rfl (w' := (W_M (mv len fa hd d3 Y.2 sg es a wr) (va_up (va_up M 11 F2) 9 (en Y.1)))) (by rw [hYe] <;> rfl) ?_
            refine rr_go hC bk_X11_drift_98_101 (l' := [(0, .ref 0), (1, .int (nI n)), (2, .int (p_ref (nI n) tc q.1)), (3, .int (nI k))]) (st' := [.int 16, .ref 0]) (w' := (W_M (mv len fa hd d3 Y.2 sg es a wr) (va_up (va_up M 11 F2) 9 (en Y.1)))) rfl ?_
            refine rr_callVI hC (by decide +kernel) kl_11_225 fX11_draw (m_draw len fa hd d3 Y.2 sg es a wr (va_up (va_up M 11 F2) 9 (en Y.1)) 16 (by omega) (by omega)) rfl rfl rfl rfl rfl (rest := []) rfl rfl ⟨Nat.zero_le _, Nat.zero_le _⟩ (Eq.refl 22) ?_
            show rr_J Z 6 0 0 _ 104 [(0, .ref 0), (1, .int (nI n)), (2, .int (p_ref (nI n) tc q.1)), (3, .int (nI k))] [.int (nI (p_dr Y.2 16))] (W_M (mv len fa hd d3 (p_lcg Y.2) sg es a wr) (va_up (va_up M 11 F2) 9 (en Y.1)))
            obtain ⟨zd, hzd⟩ : ∃ z, z = p_dr Y.2 16 := ⟨_, rfl⟩
            have hlzd : zd < 16 := by rw [hzd]; exact p_dr_lt _ (by omega)
            refine rr_cast (l' := [(0, .ref 0), (1, .int (nI n)), (2, .int (p_ref (nI n) tc q.1)), (3, .int (nI k))]) rfl (st' := [.int (nI zd)]) (by rw [hzd]) (w' := (W_M (mv len fa hd d3 (p_lcg Y.2) sg es a wr) (va_up (va_up M 11 F2) 9 (en Y.1)))) rfl ?_
            refine rr_if_ne hC (off := 12) (tgt := 116) (by decide +kernel) (fun h104 => ?_) (fun h104 => ?_)
            · rw [rr_nl_eq (b := 0) (by omega) (by omega)] at h104
              refine rr_go hC bk_X11_drift_116_121 (l' := [(0, .ref 0), (1, .int (nI n)), (2, .int (p_ref (nI n) tc q.1)), (3, .int (nI k))]) (st' := [.ref 10, .ref 0]) (w' := (W_M (mv len fa hd d3 (p_lcg Y.2) sg es a wr) (va_up (va_up M 11 F2) 9 (en Y.1)))) rfl ?_
              refine rr_callVI hC (by decide +kernel) kl_11_211 fX11_passes (m_passes_now (mv len fa hd d3 (p_lcg Y.2) sg es a wr) (va_up (va_up M 11 F2) 9 (en Y.1)) tc wd cc kc G (by exact hG) Y.1 rfl (by omega) (by omega) (by omega) h0c (by first | omega | (simp only [p_it_h, p_wr_h, p_sm_h, p_dd_h, p_d1_h, p_df_h]; omega)) hIY.1) rfl rfl rfl rfl rfl (rest := []) rfl rfl ⟨Nat.zero_le _, Nat.zero_le _⟩ (Eq.refl 22) ?_
              show rr_J Z 6 0 0 _ 124 [(0, .ref 0), (1, .int (nI n)), (2, .int (p_ref (nI n) tc q.1)), (3, .int (nI k))] [] (W_M (mv len fa hd d3 (p_lcg Y.2) sg es a wr) (va_up (va_up M 11 F2) 9 (en (p_pass G tc wd kc Y.1))))
              refine rr_go hC bk_X11_drift_124_8 (l' := [(0, .ref 0), (1, .int (nI n)), (2, .int (p_ref (nI n) tc q.1)), (3, .int ((nI k) + 1))]) (st' := []) (w' := (W_M (mv len fa hd d3 (p_lcg Y.2) sg es a wr) (va_up (va_up M 11 F2) 9 (en (p_pass G tc wd kc Y.1))))) rfl ?_
              rw [show ((nI k) + 1 : Int32) = nI (k + 1) from nI_add k 1]
              have hst : p_dd G tc cc kc X = (Y.1, p_lcg Y.2) := by rw [hzd] at h104; rw [hY] at h104 ⊢; exact p_dd_n h104
              exact rr_cast (l' := [(0, .ref 0), (1, .int (nI n)), (2, .int (p_ref (nI n) tc q.1)), (3, .int (nI (k + 1)))]) (by rfl) rfl (w' := (W_M (mv len fa hd ((m_np (M 11) dd (fun i => (p_df G tc wd cc kc (q, sd) i).1) (k + 1)).2) ((p_df G tc wd cc kc (q, sd) (k + 1)).2) sg es a wr) (va_up (va_up M 11 ((m_np (M 11) dd (fun i => (p_df G tc wd cc kc (q, sd) i).1) (k + 1)).1)) 9 (en (p_df G tc wd cc kc (q, sd) (k + 1)).1)))) (by rw [m_np_1, m_np_2, p_df_1, ← hX, hst, ← hF, ← hd2, ← hF2, ← hd3] <;> rfl) (ih (k + 1) (by omega) (by omega))
            · rw [rr_nl_eq (b := 0) (by omega) (by omega)] at h104
              refine rr_go hC bk_X11_drift_107_111 (l' := [(0, .ref 0), (1, .int (nI n)), (2, .int (p_ref (nI n) tc q.1)), (3, .int (nI k))]) (st' := [.ref 10]) (w' := (W_M (mv len fa hd d3 (p_lcg Y.2) sg es a wr) (va_up (va_up M 11 F2) 9 (en Y.1)))) rfl ?_
              refine rr_callS hC (by decide +kernel) kl_11_202 fX11_sweeps (m_sweepsS (fun _ => en Y.1) Y.1 rfl G cc kc hIY hcc hkc) rfl rfl [10] rfl rfl (Eq.refl 1) rfl (rest := []) rfl rfl ⟨Nat.zero_le _, Nat.zero_le _⟩ (w2 := (W_M (mv len fa hd d3 (p_lcg Y.2) sg es a wr) (va_up (va_up M 11 F2) 9 (en (p_sm Y.1 kc))))) rfl ?_
              show rr_J Z 6 0 0 _ 114 [(0, .ref 0), (1, .int (nI n)), (2, .int (p_ref (nI n) tc q.1)), (3, .int (nI k))] [.int (nI ((p_ra Y.1.2.2.2.2 Y.1.2.1 kc).2.2))] (W_M (mv len fa hd d3 (p_lcg Y.2) sg es a wr) (va_up (va_up M 11 F2) 9 (en (p_sm Y.1 kc))))
              refine rr_go hC bk_X11_drift_114_116 (l' := [(0, .ref 0), (1, .int (nI n)), (2, .int (p_ref (nI n) tc q.1)), (3, .int (nI k)), (4, .int (nI ((p_ra Y.1.2.2.2.2 Y.1.2.1 kc).2.2)))]) (st' := []) (w' := (W_M (mv len fa hd d3 (p_lcg Y.2) sg es a wr) (va_up (va_up M 11 F2) 9 (en (p_sm Y.1 kc))))) rfl ?_
              refine rr_dr 4 (l' := [(0, .ref 0), (1, .int (nI n)), (2, .int (p_ref (nI n) tc q.1)), (3, .int (nI k))]) rfl ?_
              refine rr_go hC bk_X11_drift_116_121 (l' := [(0, .ref 0), (1, .int (nI n)), (2, .int (p_ref (nI n) tc q.1)), (3, .int (nI k))]) (st' := [.ref 10, .ref 0]) (w' := (W_M (mv len fa hd d3 (p_lcg Y.2) sg es a wr) (va_up (va_up M 11 F2) 9 (en (p_sm Y.1 kc))))) rfl ?_
              refine rr_callVI hC (by decide +kernel) kl_11_211 fX11_passes (m_passes_now (mv len fa hd d3 (p_lcg Y.2) sg es a wr) (va_up (va_up M 11 F2) 9 (en (p_sm Y.1 kc))) tc wd cc kc G (by exact hG) (p_sm Y.1 kc) rfl (by omega) (by omega) (by omega) h0c (by first | omega | (simp only [p_it_h, p_wr_h, p_sm_h, p_dd_h, p_d1_h, p_df_h]; omega)) (hIY.sm hcc hkc).1) rfl rfl rfl rfl rfl (rest := []) rfl rfl ⟨Nat.zero_le _, Nat.zero_le _⟩ (Eq.refl 22) ?_
              show rr_J Z 6 0 0 _ 124 [(0, .ref 0), (1, .int (nI n)), (2, .int (p_ref (nI n) tc q.1)), (3, .int (nI k))] [] (W_M (mv len fa hd d3 (p_lcg Y.2) sg es a wr) (va_up (va_up M 11 F2) 9 (en (p_pass G tc wd kc (p_sm Y.1 kc)))))
              refine rr_go hC bk_X11_drift_124_8 (l' := [(0, .ref 0), (1, .int (nI n)), (2, .int (p_ref (nI n) tc q.1)), (3, .int ((nI k) + 1))]) (st' := []) (w' := (W_M (mv len fa hd d3 (p_lcg Y.2) sg es a wr) (va_up (va_up M 11 F2) 9 (en (p_pass G tc wd kc (p_sm Y.1 kc)))))) rfl ?_
              rw [show ((nI k) + 1 : Int32) = nI (k + 1) from nI_add k 1]
              have hst : p_dd G tc cc kc X = (p_sm Y.1 kc, p_lcg Y.2) := by rw [hzd] at h104; rw [hY] at h104 ⊢; exact p_dd_y h104
              exact rr_cast (l' := [(0, .ref 0), (1, .int (nI n)), (2, .int (p_ref (nI n) tc q.1)), (3, .int (nI (k + 1)))]) (by rfl) rfl (w' := (W_M (mv len fa hd ((m_np (M 11) dd (fun i => (p_df G tc wd cc kc (q, sd) i).1) (k + 1)).2) ((p_df G tc wd cc kc (q, sd) (k + 1)).2) sg es a wr) (va_up (va_up M 11 ((m_np (M 11) dd (fun i => (p_df G tc wd cc kc (q, sd) i).1) (k + 1)).1)) 9 (en (p_df G tc wd cc kc (q, sd) (k + 1)).1)))) (by rw [m_np_1, m_np_2, p_df_1, ← hX, hst, ← hF, ← hd2, ← hF2, ← hd3] <;> rfl) (ih (k + 1) (by omega) (by omega))
          · refine rr_go hC bk_X11_drift_72_81 (l' := [(0, .ref 0), (1, .int (nI n)), (2, .int (p_ref (nI n) tc q.1)), (3, .int (nI k)), (4, .int (nI kd)), (5, .int (nI cd))]) (st' := [.int (nI cd), .int (nI kd), .ref 10, .ref 0]) (w' := (W_M (mv len fa hd d3 (p_lcg (p_lcg X.2)) sg es a wr) (va_up (va_up M 11 F2) 9 (en X.1)))) rfl ?_
            refine rr_callVI hC (by decide +kernel) kl_11_186 fX11_mayBe (m_mayBe_now (mv len fa hd d3 (p_lcg (p_lcg X.2)) sg es a wr) (va_up (va_up M 11 F2) 9 (en X.1)) tc wd cc kc G (by exact hG) X.1 rfl kd cd (by omega) (by omega) (by omega) (h0c (by omega)) (by omega) (by omega) (by first | omega | (simp only [p_it_h, p_wr_h, p_sm_h, p_dd_h, p_d1_h, p_df_h]; omega))) rfl rfl rfl rfl rfl (rest := []) rfl rfl ⟨Nat.zero_le _, Nat.zero_le _⟩ (Eq.refl 22) ?_
            show rr_J Z 6 0 0 _ 84 [(0, .ref 0), (1, .int (nI n)), (2, .int (p_ref (nI n) tc q.1)), (3, .int (nI k)), (4, .int (nI kd)), (5, .int (nI cd))] [.int (rr_b (m_may X.1 G tc kd cd))] (W_M (mv len fa hd d3 (p_lcg (p_lcg X.2)) sg es a wr) (va_up (va_up M 11 F2) 9 (en X.1)))
            refine rr_eqb hC (off := 14) (tgt := 98) (by decide +kernel) (fun h84 => ?_) (fun h84 => ?_)
            · refine rr_dr 5 (l' := [(0, .ref 0), (1, .int (nI n)), (2, .int (p_ref (nI n) tc q.1)), (3, .int (nI k)), (4, .int (nI kd))]) rfl ?_
              refine rr_dr 4 (l' := [(0, .ref 0), (1, .int (nI n)), (2, .int (p_ref (nI n) tc q.1)), (3, .int (nI k))]) rfl ?_
              obtain ⟨Y, hY⟩ : ∃ Y, Y = p_d1 G tc cc kc X := ⟨_, rfl⟩
              have hYe := hY.trans (p_d1_n ⟨by omega, by omega⟩ (fun z => by rw [← hkd, ← hcd, p_may_m hIX hkc tc kd (c := cd) (by omega), Bool.and_eq_true] at z; rw [z.2] at h84; cases h84))
              have hIY : m_I G cc kc Y.1 := by rw [hY]; exact hIX.d1 hcc hkc
              have hYh : Y.1.1 = q.1 + k := by rw [hY, p_d1_h]; exact hXh
              refine rr_cast (l' := [(0, .ref 0), (1, .int (nI n)), (2, .int (p_ref (nI n) tc q.1)), (3, .int (nI k))]) rfl (st' := []) rfl (w' := (W_M (mv len fa hd d3 Y.2 sg es a wr) (va_up (va_up M 11 F2) 9 (en Y.1)))) (by rw [hYe] <;> rfl) ?_
              refine rr_go hC bk_X11_drift_98_101 (l' := [(0, .ref 0), (1, .int (nI n)), (2, .int (p_ref (nI n) tc q.1)), (3, .int (nI k))]) (st' := [.int 16, .ref 0]) (w' := (W_M (mv len fa hd d3 Y.2 sg es a wr) (va_up (va_up M 11 F2) 9 (en Y.1)))) rfl ?_
              refine rr_callVI hC (by decide +kernel) kl_11_225 fX11_draw (m_draw len fa hd d3 Y.2 sg es a wr (va_up (va_up M 11 F2) 9 (en Y.1)) 16 (by omega) (by omega)) rfl rfl rfl rfl rfl (rest := []) rfl rfl ⟨Nat.zero_le _, Nat.zero_le _⟩ (Eq.refl 22) ?_
              show rr_J Z 6 0 0 _ 104 [(0, .ref 0), (1, .int (nI n)), (2, .int (p_ref (nI n) tc q.1)), (3, .int (nI k))] [.int (nI (p_dr Y.2 16))] (W_M (mv len fa hd d3 (p_lcg Y.2) sg es a wr) (va_up (va_up M 11 F2) 9 (en Y.1)))
              obtain ⟨zd, hzd⟩ : ∃ z, z = p_dr Y.2 16 := ⟨_, rfl⟩
              have hlzd : zd < 16 := by rw [hzd]; exact p_dr_lt _ (by omega)
              refine rr_cast (l' := [(0, .ref 0), (1, .int (nI n)), (2, .int (p_ref (nI n) tc q.1)), (3, .int (nI k))]) rfl (st' := [.int (nI zd)]) (by rw [hzd]) (w' := (W_M (mv len fa hd d3 (p_lcg Y.2) sg es a wr) (va_up (va_up M 11 F2) 9 (en Y.1)))) rfl ?_
              refine rr_if_ne hC (off := 12) (tgt := 116) (by decide +kernel) (fun h104 => ?_) (fun h104 => ?_)
              · rw [rr_nl_eq (b := 0) (by omega) (by omega)] at h104
                refine rr_go hC bk_X11_drift_116_121 (l' := [(0, .ref 0), (1, .int (nI n)), (2, .int (p_ref (nI n) tc q.1)), (3, .int (nI k))]) (st' := [.ref 10, .ref 0]) (w' := (W_M (mv len fa hd d3 (p_lcg Y.2) sg es a wr) (va_up (va_up M 11 F2) 9 (en Y.1)))) rfl ?_
                refine rr_callVI hC (by decide +kernel) kl_11_211 fX11_passes (m_passes_now (mv len fa hd d3 (p_lcg Y.2) sg es a wr) (va_up (va_up M 11 F2) 9 (en Y.1)) tc wd cc kc G (by exact hG) Y.1 rfl (by omega) (by omega) (by omega) h0c (by first | omega | (simp only [p_it_h, p_wr_h, p_sm_h, p_dd_h, p_d1_h, p_df_h]; omega)) hIY.1) rfl rfl rfl rfl rfl (rest := []) rfl rfl ⟨Nat.zero_le _, Nat.zero_le _⟩ (Eq.refl 22) ?_
                show rr_J Z 6 0 0 _ 124 [(0, .ref 0), (1, .int (nI n)), (2, .int (p_ref (nI n) tc q.1)), (3, .int (nI k))] [] (W_M (mv len fa hd d3 (p_lcg Y.2) sg es a wr) (va_up (va_up M 11 F2) 9 (en (p_pass G tc wd kc Y.1))))
                refine rr_go hC bk_X11_drift_124_8 (l' := [(0, .ref 0), (1, .int (nI n)), (2, .int (p_ref (nI n) tc q.1)), (3, .int ((nI k) + 1))]) (st' := []) (w' := (W_M (mv len fa hd d3 (p_lcg Y.2) sg es a wr) (va_up (va_up M 11 F2) 9 (en (p_pass G tc wd kc Y.1))))) rfl ?_
                rw [show ((nI k) + 1 : Int32) = nI (k + 1) from nI_add k 1]
                have hst : p_dd G tc cc kc X = (Y.1, p_lcg Y.2) := by rw [hzd] at h104; rw [hY] at h104 ⊢; exact p_dd_n h104
                exact rr_cast (l' := [(0, .ref 0), (1, .int (nI n)), (2, .int (p_ref (nI n) tc q.1)), (3, .int (nI (k + 1)))]) (by rfl) rfl (w' := (W_M (mv len fa hd ((m_np (M 11) dd (fun i => (p_df G tc wd cc kc (q, sd) i).1) (k + 1)).2) ((p_df G tc wd cc kc (q, sd) (k + 1)).2) sg es a wr) (va_up (va_up M 11 ((m_np (M 11) dd (fun i => (p_df G tc wd cc kc (q, sd) i).1) (k + 1)).1)) 9 (en (p_df G tc wd cc kc (q, sd) (k + 1)).1)))) (by rw [m_np_1, m_np_2, p_df_1, ← hX, hst, ← hF, ← hd2, ← hF2, ← hd3] <;> rfl) (ih (k + 1) (by omega) (by omega))
              · rw [rr_nl_eq (b := 0) (by omega) (by omega)] at h104
                refine rr_go hC bk_X11_drift_107_111 (l' := [(0, .ref 0), (1, .int (nI n)), (2, .int (p_ref (nI n) tc q.1)), (3, .int (nI k))]) (st' := [.ref 10]) (w' := (W_M (mv len fa hd d3 (p_lcg Y.2) sg es a wr) (va_up (va_up M 11 F2) 9 (en Y.1)))) rfl ?_
                refine rr_callS hC (by decide +kernel) kl_11_202 fX11_sweeps (m_sweepsS (fun _ => en Y.1) Y.1 rfl G cc kc hIY hcc hkc) rfl rfl [10] rfl rfl (Eq.refl 1) rfl (rest := []) rfl rfl ⟨Nat.zero_le _, Nat.zero_le _⟩ (w2 := (W_M (mv len fa hd d3 (p_lcg Y.2) sg es a wr) (va_up (va_up M 11 F2) 9 (en (p_sm Y.1 kc))))) rfl ?_
                show rr_J Z 6 0 0 _ 114 [(0, .ref 0), (1, .int (nI n)), (2, .int (p_ref (nI n) tc q.1)), (3, .int (nI k))] [.int (nI ((p_ra Y.1.2.2.2.2 Y.1.2.1 kc).2.2))] (W_M (mv len fa hd d3 (p_lcg Y.2) sg es a wr) (va_up (va_up M 11 F2) 9 (en (p_sm Y.1 kc))))
                refine rr_go hC bk_X11_drift_114_116 (l' := [(0, .ref 0), (1, .int (nI n)), (2, .int (p_ref (nI n) tc q.1)), (3, .int (nI k)), (4, .int (nI ((p_ra Y.1.2.2.2.2 Y.1.2.1 kc).2.2)))]) (st' := []) (w' := (W_M (mv len fa hd d3 (p_lcg Y.2) sg es a wr) (va_up (va_up M 11 F2) 9 (en (p_sm Y.1 kc))))) rfl ?_
                refine rr_dr 4 (l' := [(0, .ref 0), (1, .int (nI n)), (2, .int (p_ref (nI n) tc q.1)), (3, .int (nI k))]) rfl ?_
                refine rr_go hC bk_X11_drift_116_121 (l' := [(0, .ref 0), (1, .int (nI n)), (2, .int (p_ref (nI n) tc q.1)), (3, .int (nI k))]) (st' := [.ref 10, .ref 0]) (w' := (W_M (mv len fa hd d3 (p_lcg Y.2) sg es a wr) (va_up (va_up M 11 F2) 9 (en (p_sm Y.1 kc))))) rfl ?_
                refine rr_callVI hC (by decide +kernel) kl_11_211 fX11_passes (m_passes_now (mv len fa hd d3 (p_lcg Y.2) sg es a wr) (va_up (va_up M 11 F2) 9 (en (p_sm Y.1 kc))) tc wd cc kc G (by exact hG) (p_sm Y.1 kc) rfl (by omega) (by omega) (by omega) h0c (by first | omega | (simp only [p_it_h, p_wr_h, p_sm_h, p_dd_h, p_d1_h, p_df_h]; omega)) (hIY.sm hcc hkc).1) rfl rfl rfl rfl rfl (rest := []) rfl rfl ⟨Nat.zero_le _, Nat.zero_le _⟩ (Eq.refl 22) ?_
                show rr_J Z 6 0 0 _ 124 [(0, .ref 0), (1, .int (nI n)), (2, .int (p_ref (nI n) tc q.1)), (3, .int (nI k))] [] (W_M (mv len fa hd d3 (p_lcg Y.2) sg es a wr) (va_up (va_up M 11 F2) 9 (en (p_pass G tc wd kc (p_sm Y.1 kc)))))
                refine rr_go hC bk_X11_drift_124_8 (l' := [(0, .ref 0), (1, .int (nI n)), (2, .int (p_ref (nI n) tc q.1)), (3, .int ((nI k) + 1))]) (st' := []) (w' := (W_M (mv len fa hd d3 (p_lcg Y.2) sg es a wr) (va_up (va_up M 11 F2) 9 (en (p_pass G tc wd kc (p_sm Y.1 kc)))))) rfl ?_
                rw [show ((nI k) + 1 : Int32) = nI (k + 1) from nI_add k 1]
                have hst : p_dd G tc cc kc X = (p_sm Y.1 kc, p_lcg Y.2) := by rw [hzd] at h104; rw [hY] at h104 ⊢; exact p_dd_y h104
                exact rr_cast (l' := [(0, .ref 0), (1, .int (nI n)), (2, .int (p_ref (nI n) tc q.1)), (3, .int (nI (k + 1)))]) (by rfl) rfl (w' := (W_M (mv len fa hd ((m_np (M 11) dd (fun i => (p_df G tc wd cc kc (q, sd) i).1) (k + 1)).2) ((p_df G tc wd cc kc (q, sd) (k + 1)).2) sg es a wr) (va_up (va_up M 11 ((m_np (M 11) dd (fun i => (p_df G tc wd cc kc (q, sd) i).1) (k + 1)).1)) 9 (en (p_df G tc wd cc kc (q, sd) (k + 1)).1)))) (by rw [m_np_1, m_np_2, p_df_1, ← hX, hst, ← hF, ← hd2, ← hF2, ← hd3] <;> rfl) (ih (k + 1) (by omega) (by omega))
            · refine rr_go hC bk_X11_drift_87_95 (l' := [(0, .ref 0), (1, .int (nI n)), (2, .int (p_ref (nI n) tc q.1)), (3, .int (nI k)), (4, .int (nI kd)), (5, .int (nI cd))]) (st' := [.int (nI cd), .int (nI kd), .ref 10]) (w' := (W_M (mv len fa hd d3 (p_lcg (p_lcg X.2)) sg es a wr) (va_up (va_up M 11 F2) 9 (en X.1)))) rfl ?_
              refine rr_callS hC (by decide +kernel) kl_11_194 fX11_writes (m_writes (fun _ => en X.1) X.1 rfl kd cd (by omega)) rfl rfl [10] rfl rfl (Eq.refl 1) rfl (rest := []) rfl rfl ⟨Nat.zero_le _, Nat.zero_le _⟩ (w2 := (W_M (mv len fa hd d3 (p_lcg (p_lcg X.2)) sg es a wr) (va_up (va_up M 11 F2) 9 (en (p_wr X.1 kd cd))))) rfl ?_
              show rr_J Z 6 0 0 _ 98 [(0, .ref 0), (1, .int (nI n)), (2, .int (p_ref (nI n) tc q.1)), (3, .int (nI k)), (4, .int (nI kd)), (5, .int (nI cd))] [] (W_M (mv len fa hd d3 (p_lcg (p_lcg X.2)) sg es a wr) (va_up (va_up M 11 F2) 9 (en (p_wr X.1 kd cd))))
              refine rr_dr 5 (l' := [(0, .ref 0), (1, .int (nI n)), (2, .int (p_ref (nI n) tc q.1)), (3, .int (nI k)), (4, .int (nI kd))]) rfl ?_
              refine rr_dr 4 (l' := [(0, .ref 0), (1, .int (nI n)), (2, .int (p_ref (nI n) tc q.1)), (3, .int (nI k))]) rfl ?_
              obtain ⟨Y, hY⟩ : ∃ Y, Y = p_d1 G tc cc kc X := ⟨_, rfl⟩
              have hYe := hY.trans (p_d1_y ⟨by omega, by omega⟩ (by rw [← hkd, ← hcd, p_may_m hIX hkc tc kd (c := cd) (by omega), h84, decide_eq_true (p_i0.mp h69)]; rfl))
              have hIY : m_I G cc kc Y.1 := by rw [hY]; exact hIX.d1 hcc hkc
              have hYh : Y.1.1 = q.1 + k := by rw [hY, p_d1_h]; exact hXh
              refine rr_cast (l' := [(0, .ref 0), (1, .int (nI n)), (2, .int (p_ref (nI n) tc q.1)), (3, .int (nI k))]) rfl (st' := []) rfl (w' := (W_M (mv len fa hd d3 Y.2 sg es a wr) (va_up (va_up M 11 F2) 9 (en Y.1)))) (by rw [hYe, hkd, hcd] <;> rfl) ?_
              refine rr_go hC bk_X11_drift_98_101 (l' := [(0, .ref 0), (1, .int (nI n)), (2, .int (p_ref (nI n) tc q.1)), (3, .int (nI k))]) (st' := [.int 16, .ref 0]) (w' := (W_M (mv len fa hd d3 Y.2 sg es a wr) (va_up (va_up M 11 F2) 9 (en Y.1)))) rfl ?_
              refine rr_callVI hC (by decide +kernel) kl_11_225 fX11_draw (m_draw len fa hd d3 Y.2 sg es a wr (va_up (va_up M 11 F2) 9 (en Y.1)) 16 (by omega) (by omega)) rfl rfl rfl rfl rfl (rest := []) rfl rfl ⟨Nat.zero_le _, Nat.zero_le _⟩ (Eq.refl 22) ?_
              show rr_J Z 6 0 0 _ 104 [(0, .ref 0), (1, .int (nI n)), (2, .int (p_ref (nI n) tc q.1)), (3, .int (nI k))] [.int (nI (p_dr Y.2 16))] (W_M (mv len fa hd d3 (p_lcg Y.2) sg es a wr) (va_up (va_up M 11 F2) 9 (en Y.1)))
              obtain ⟨zd, hzd⟩ : ∃ z, z = p_dr Y.2 16 := ⟨_, rfl⟩
              have hlzd : zd < 16 := by rw [hzd]; exact p_dr_lt _ (by omega)
              refine rr_cast (l' := [(0, .ref 0), (1, .int (nI n)), (2, .int (p_ref (nI n) tc q.1)), (3, .int (nI k))]) rfl (st' := [.int (nI zd)]) (by rw [hzd]) (w' := (W_M (mv len fa hd d3 (p_lcg Y.2) sg es a wr) (va_up (va_up M 11 F2) 9 (en Y.1)))) rfl ?_
              refine rr_if_ne hC (off := 12) (tgt := 116) (by decide +kernel) (fun h104 => ?_) (fun h104 => ?_)
              · rw [rr_nl_eq (b := 0) (by omega) (by omega)] at h104
                refine rr_go hC bk_X11_drift_116_121 (l' := [(0, .ref 0), (1, .int (nI n)), (2, .int (p_ref (nI n) tc q.1)), (3, .int (nI k))]) (st' := [.ref 10, .ref 0]) (w' := (W_M (mv len fa hd d3 (p_lcg Y.2) sg es a wr) (va_up (va_up M 11 F2) 9 (en Y.1)))) rfl ?_
                refine rr_callVI hC (by decide +kernel) kl_11_211 fX11_passes (m_passes_now (mv len fa hd d3 (p_lcg Y.2) sg es a wr) (va_up (va_up M 11 F2) 9 (en Y.1)) tc wd cc kc G (by exact hG) Y.1 rfl (by omega) (by omega) (by omega) h0c (by first | omega | (simp only [p_it_h, p_wr_h, p_sm_h, p_dd_h, p_d1_h, p_df_h]; omega)) hIY.1) rfl rfl rfl rfl rfl (rest := []) rfl rfl ⟨Nat.zero_le _, Nat.zero_le _⟩ (Eq.refl 22) ?_
                show rr_J Z 6 0 0 _ 124 [(0, .ref 0), (1, .int (nI n)), (2, .int (p_ref (nI n) tc q.1)), (3, .int (nI k))] [] (W_M (mv len fa hd d3 (p_lcg Y.2) sg es a wr) (va_up (va_up M 11 F2) 9 (en (p_pass G tc wd kc Y.1))))
                refine rr_go hC bk_X11_drift_124_8 (l' := [(0, .ref 0), (1, .int (nI n)), (2, .int (p_ref (nI n) tc q.1)), (3, .int ((nI k) + 1))]) (st' := []) (w' := (W_M (mv len fa hd d3 (p_lcg Y.2) sg es a wr) (va_up (va_up M 11 F2) 9 (en (p_pass G tc wd kc Y.1))))) rfl ?_
                rw [show ((nI k) + 1 : Int32) = nI (k + 1) from nI_add k 1]
                have hst : p_dd G tc cc kc X = (Y.1, p_lcg Y.2) := by rw [hzd] at h104; rw [hY] at h104 ⊢; exact p_dd_n h104
                exact rr_cast (l' := [(0, .ref 0), (1, .int (nI n)), (2, .int (p_ref (nI n) tc q.1)), (3, .int (nI (k + 1)))]) (by rfl) rfl (w' := (W_M (mv len fa hd ((m_np (M 11) dd (fun i => (p_df G tc wd cc kc (q, sd) i).1) (k + 1)).2) ((p_df G tc wd cc kc (q, sd) (k + 1)).2) sg es a wr) (va_up (va_up M 11 ((m_np (M 11) dd (fun i => (p_df G tc wd cc kc (q, sd) i).1) (k + 1)).1)) 9 (en (p_df G tc wd cc kc (q, sd) (k + 1)).1)))) (by rw [m_np_1, m_np_2, p_df_1, ← hX, hst, ← hF, ← hd2, ← hF2, ← hd3] <;> rfl) (ih (k + 1) (by omega) (by omega))
              · rw [rr_nl_eq (b := 0) (by omega) (by omega)] at h104
                refine rr_go hC bk_X11_drift_107_111 (l' := [(0, .ref 0), (1, .int (nI n)), (2, .int (p_ref (nI n) tc q.1)), (3, .int (nI k))]) (st' := [.ref 10]) (w' := (W_M (mv len fa hd d3 (p_lcg Y.2) sg es a wr) (va_up (va_up M 11 F2) 9 (en Y.1)))) rfl ?_
                refine rr_callS hC (by decide +kernel) kl_11_202 fX11_sweeps (m_sweepsS (fun _ => en Y.1) Y.1 rfl G cc kc hIY hcc hkc) rfl rfl [10] rfl rfl (Eq.refl 1) rfl (rest := []) rfl rfl ⟨Nat.zero_le _, Nat.zero_le _⟩ (w2 := (W_M (mv len fa hd d3 (p_lcg Y.2) sg es a wr) (va_up (va_up M 11 F2) 9 (en (p_sm Y.1 kc))))) rfl ?_
                show rr_J Z 6 0 0 _ 114 [(0, .ref 0), (1, .int (nI n)), (2, .int (p_ref (nI n) tc q.1)), (3, .int (nI k))] [.int (nI ((p_ra Y.1.2.2.2.2 Y.1.2.1 kc).2.2))] (W_M (mv len fa hd d3 (p_lcg Y.2) sg es a wr) (va_up (va_up M 11 F2) 9 (en (p_sm Y.1 kc))))
                refine rr_go hC bk_X11_drift_114_116 (l' := [(0, .ref 0), (1, .int (nI n)), (2, .int (p_ref (nI n) tc q.1)), (3, .int (nI k)), (4, .int (nI ((p_ra Y.1.2.2.2.2 Y.1.2.1 kc).2.2)))]) (st' := []) (w' := (W_M (mv len fa hd d3 (p_lcg Y.2) sg es a wr) (va_up (va_up M 11 F2) 9 (en (p_sm Y.1 kc))))) rfl ?_
                refine rr_dr 4 (l' := [(0, .ref 0), (1, .int (nI n)), (2, .int (p_ref (nI n) tc q.1)), (3, .int (nI k))]) rfl ?_
                refine rr_go hC bk_X11_drift_116_121 (l' := [(0, .ref 0), (1, .int (nI n)), (2, .int (p_ref (nI n) tc q.1)), (3, .int (nI k))]) (st' := [.ref 10, .ref 0]) (w' := (W_M (mv len fa hd d3 (p_lcg Y.2) sg es a wr) (va_up (va_up M 11 F2) 9 (en (p_sm Y.1 kc))))) rfl ?_
                refine rr_callVI hC (by decide +kernel) kl_11_211 fX11_passes (m_passes_now (mv len fa hd d3 (p_lcg Y.2) sg es a wr) (va_up (va_up M 11 F2) 9 (en (p_sm Y.1 kc))) tc wd cc kc G (by exact hG) (p_sm Y.1 kc) rfl (by omega) (by omega) (by omega) h0c (by first | omega | (simp only [p_it_h, p_wr_h, p_sm_h, p_dd_h, p_d1_h, p_df_h]; omega)) (hIY.sm hcc hkc).1) rfl rfl rfl rfl rfl (rest := []) rfl rfl ⟨Nat.zero_le _, Nat.zero_le _⟩ (Eq.refl 22) ?_
                show rr_J Z 6 0 0 _ 124 [(0, .ref 0), (1, .int (nI n)), (2, .int (p_ref (nI n) tc q.1)), (3, .int (nI k))] [] (W_M (mv len fa hd d3 (p_lcg Y.2) sg es a wr) (va_up (va_up M 11 F2) 9 (en (p_pass G tc wd kc (p_sm Y.1 kc)))))
                refine rr_go hC bk_X11_drift_124_8 (l' := [(0, .ref 0), (1, .int (nI n)), (2, .int (p_ref (nI n) tc q.1)), (3, .int ((nI k) + 1))]) (st' := []) (w' := (W_M (mv len fa hd d3 (p_lcg Y.2) sg es a wr) (va_up (va_up M 11 F2) 9 (en (p_pass G tc wd kc (p_sm Y.1 kc)))))) rfl ?_
                rw [show ((nI k) + 1 : Int32) = nI (k + 1) from nI_add k 1]
                have hst : p_dd G tc cc kc X = (p_sm Y.1 kc, p_lcg Y.2) := by rw [hzd] at h104; rw [hY] at h104 ⊢; exact p_dd_y h104
                exact rr_cast (l' := [(0, .ref 0), (1, .int (nI n)), (2, .int (p_ref (nI n) tc q.1)), (3, .int (nI (k + 1)))]) (by rfl) rfl (w' := (W_M (mv len fa hd ((m_np (M 11) dd (fun i => (p_df G tc wd cc kc (q, sd) i).1) (k + 1)).2) ((p_df G tc wd cc kc (q, sd) (k + 1)).2) sg es a wr) (va_up (va_up M 11 ((m_np (M 11) dd (fun i => (p_df G tc wd cc kc (q, sd) i).1) (k + 1)).1)) 9 (en (p_df G tc wd cc kc (q, sd) (k + 1)).1)))) (by rw [m_np_1, m_np_2, p_df_1, ← hX, hst, ← hF, ← hd2, ← hF2, ← hd3] <;> rfl) (ih (k + 1) (by omega) (by omega))
  exact rr_cast (l' := [(0, .ref 0), (1, .int (nI n)), (2, .int (p_ref (nI n) tc q.1)), (3, .int (nI 0))]) (by first | rfl | (rfl)) rfl (w' := (W_M (mv len fa hd ((m_np (M 11) dd (fun i => (p_df G tc wd cc kc (q, sd) i).1) 0).2) ((p_df G tc wd cc kc (q, sd) 0).2) sg es a wr) (va_up (va_up M 11 ((m_np (M 11) dd (fun i => (p_df G tc wd cc kc (q, sd) i).1) 0).1)) 9 (en (p_df G tc wd cc kc (q, sd) 0).1)))) (by rw [m_np_01, m_np_02, p_df_0, ← hq, va_up_i, va_up_i]) (lp8 (n - 0) 0 (by omega) (Nat.le_refl _))
theorem bk_X11_undo_0_4 : rr_chk mX11_undo [(.iload_n 1, 0, 1, 0), (.iconst 1, 1, 0, 0), (.bipush 30, 30, 0, 0)] 0 4 = true := by decide +kernel
theorem bk_X11_undo_10_12 : rr_chk mX11_undo [(.ldc 82, (-1000000002), 0, 0)] 10 12 = true := by decide +kernel
set_option maxRecDepth 100000 in
set_option maxHeartbeats 4000000 in
theorem m_undoO (len : Nat) (fa : Int32) (hd : Bool) (dd : Nat) (sd : Int32) (sg es a : Nat) (wr : Int32) (M : Nat → Nat → Int32) (tc wd cc kc : Nat) (G : Nat → Nat → Int32) (hG : m_G M G tc wd cc kc) (x : Int32) (hx : x < 1 ∨ 30 < x) : rr_C mX11_undo 6 [.ref 0, .int x] (W_M (mv len fa hd dd sd sg es a wr) M) 0 0 (some (-1000000002)) (W_M (mv len fa hd dd sd sg es a wr) M) := by
  refine rr_C.of (n := 1) fX11_undo.1 rfl rfl (fun Z hC => ?_)
  show rr_J Z 2 0 0 (rr_MQ Z 0 0 (some (-1000000002)) (W_M (mv len fa hd dd sd sg es a wr) M)) 0 [(0, .ref 0), (1, .int x)] [] (W_M (mv len fa hd dd sd sg es a wr) M)
  refine rr_go hC bk_X11_undo_0_4 (l' := [(0, .ref 0), (1, .int x)]) (st' := [.int 30, .int 1, .int x]) (w' := (W_M (mv len fa hd dd sd sg es a wr) M)) rfl ?_
  refine rr_callS hC (by decide +kernel) kl_11_78 fX11_in (m_c_in x 1 30) rfl rfl [] rfl rfl (Eq.refl 0) rfl (rest := []) rfl rfl ⟨Nat.zero_le _, Nat.zero_le _⟩ (w2 := (W_M (mv len fa hd dd sd sg es a wr) M)) rfl ?_
  show rr_J Z 2 0 0 _ 7 [(0, .ref 0), (1, .int x)] [.int (rr_b (m_in x 1 30))] (W_M (mv len fa hd dd sd sg es a wr) M)
  refine rr_neb hC (off := 6) (tgt := 13) (by decide +kernel) (fun h7 => by  rw [m_in_no hx] at h7; cases h7) (fun h7 => ?_)
  refine rr_go hC bk_X11_undo_10_12 (l' := [(0, .ref 0), (1, .int x)]) (st' := [.int (-1000000002)]) (w' := (W_M (mv len fa hd dd sd sg es a wr) M)) rfl ?_
  exact rr_reti hC (by decide +kernel) (by rfl) (by rfl) ⟨Nat.zero_le _, Nat.zero_le _⟩
theorem bk_X11_undo_13_18 : rr_chk mX11_undo [(.aload_n 0, 0, 0, 0), (.getfield 138, 0, 11, 15), (.iload_n 1, 0, 1, 0)] 13 18 = true := by decide +kernel
theorem bk_X11_undo_21_23 : rr_chk mX11_undo [(.ldc 190, (-1000000003), 0, 0)] 21 23 = true := by decide +kernel
set_option maxRecDepth 100000 in
set_option maxHeartbeats 4000000 in
theorem m_undoN (len : Nat) (fa : Int32) (hd : Bool) (dd : Nat) (sd : Int32) (sg es a : Nat) (wr : Int32) (M : Nat → Nat → Int32) (tc wd cc kc : Nat) (G : Nat → Nat → Int32) (hG : m_G M G tc wd cc kc) (n : Nat) (hdd : dd ≤ 30) (hn1 : 1 ≤ n) (hn : n ≤ 30) (hl : dd < n) : rr_C mX11_undo 6 [.ref 0, .int (nI n)] (W_M (mv len fa hd dd sd sg es a wr) M) 0 0 (some (-1000000003)) (W_M (mv len fa hd dd sd sg es a wr) M) := by
  refine rr_C.of (n := 1) fX11_undo.1 rfl rfl (fun Z hC => ?_)
  show rr_J Z 2 0 0 (rr_MQ Z 0 0 (some (-1000000003)) (W_M (mv len fa hd dd sd sg es a wr) M)) 0 [(0, .ref 0), (1, .int (nI n))] [] (W_M (mv len fa hd dd sd sg es a wr) M)
  refine rr_go hC bk_X11_undo_0_4 (l' := [(0, .ref 0), (1, .int (nI n))]) (st' := [.int 30, .int 1, .int (nI n)]) (w' := (W_M (mv len fa hd dd sd sg es a wr) M)) rfl ?_
  refine rr_callS hC (by decide +kernel) kl_11_78 fX11_in (m_c_in (nI n) 1 30) rfl rfl [] rfl rfl (Eq.refl 0) rfl (rest := []) rfl rfl ⟨Nat.zero_le _, Nat.zero_le _⟩ (w2 := (W_M (mv len fa hd dd sd sg es a wr) M)) rfl ?_
  show rr_J Z 2 0 0 _ 7 [(0, .ref 0), (1, .int (nI n))] [.int (rr_b (m_in (nI n) 1 30))] (W_M (mv len fa hd dd sd sg es a wr) M)
  refine rr_neb hC (off := 6) (tgt := 13) (by decide +kernel) (fun h7 => ?_) (fun h7 => by  rw [m_in_yes (by rw [rr_nl_lt (b := 1) (by omega) (by omega)]; omega) (by rw [rr_ln_lt (a := 30) (by omega) (by omega)]; omega)] at h7; cases h7)
  refine rr_go hC bk_X11_undo_13_18 (l' := [(0, .ref 0), (1, .int (nI n))]) (st' := [.int (nI n), .int (nI dd)]) (w' := (W_M (mv len fa hd dd sd sg es a wr) M)) rfl ?_
  refine rr_icmp_ge hC (off := 6) (tgt := 24) (by decide +kernel) (fun h18 => by rw [rr_nn_le (by omega) (by omega)] at h18; omega) (fun h18 => ?_)
  rw [rr_nn_le (by omega) (by omega)] at h18
  refine rr_go hC bk_X11_undo_21_23 (l' := [(0, .ref 0), (1, .int (nI n))]) (st' := [.int (-1000000003)]) (w' := (W_M (mv len fa hd dd sd sg es a wr) M)) rfl ?_
  exact rr_reti hC (by decide +kernel) (by rfl) (by rfl) ⟨Nat.zero_le _, Nat.zero_le _⟩
theorem bk_X11_undo_24_52 : rr_chk mX11_undo [(.aload_n 0, 0, 0, 0), (.dup, 0, 0, 0), (.getfield 138, 0, 11, 15), (.iload_n 1, 0, 1, 0), (.isub, 0, 0, 0), (.putfield 138, 0, 11, 15), (.aload_n 0, 0, 0, 0), (.getfield 47, 0, 11, 14), (.bipush 22, 22, 0, 0), (.aload_n 0, 0, 0, 0), (.getfield 138, 0, 11, 15), (.imul, 0, 0, 0), (.aload_n 0, 0, 0, 0), (.getfield 41, 0, 11, 12), (.iconst 0, 0, 0, 0), (.bipush 22, 22, 0, 0)] 24 52 = true := by decide +kernel
theorem bk_X11_undo_55_61 : rr_chk mX11_undo [(.aload_n 0, 0, 0, 0), (.getfield 41, 0, 11, 12), (.iconst 0, 0, 0, 0), (.iaload, 0, 0, 0)] 55 61 = true := by decide +kernel
set_option maxRecDepth 100000 in
set_option maxHeartbeats 4000000 in
theorem m_undo (len : Nat) (fa : Int32) (hd : Bool) (dd : Nat) (sd : Int32) (sg es a : Nat) (wr : Int32) (M : Nat → Nat → Int32) (tc wd cc kc : Nat) (G : Nat → Nat → Int32) (hG : m_G M G tc wd cc kc) (q : p_Q) (hq : M 9 = en q) (n : Nat) (D : Nat → p_Q) (hdd : dd ≤ 30) (hn1 : 1 ≤ n) (hn : n ≤ 30) (hl : n ≤ dd) (hP : m_P (M 11) D dd) : rr_C mX11_undo 6 [.ref 0, .int (nI n)] (W_M (mv len fa hd dd sd sg es a wr) M) 0 0 (some (nI ((D (dd - n)).1))) (W_M (mv len fa hd (dd - n) sd sg es a wr) (va_up M 9 (en (D (dd - n))))) := by
  refine rr_C.of (n := 1) fX11_undo.1 rfl rfl (fun Z hC => ?_)
  show rr_J Z 2 0 0 (rr_MQ Z 0 0 (some (nI ((D (dd - n)).1))) (W_M (mv len fa hd (dd - n) sd sg es a wr) (va_up M 9 (en (D (dd - n)))))) 0 [(0, .ref 0), (1, .int (nI n))] [] (W_M (mv len fa hd dd sd sg es a wr) M)
  refine rr_go hC bk_X11_undo_0_4 (l' := [(0, .ref 0), (1, .int (nI n))]) (st' := [.int 30, .int 1, .int (nI n)]) (w' := (W_M (mv len fa hd dd sd sg es a wr) M)) rfl ?_
  refine rr_callS hC (by decide +kernel) kl_11_78 fX11_in (m_c_in (nI n) 1 30) rfl rfl [] rfl rfl (Eq.refl 0) rfl (rest := []) rfl rfl ⟨Nat.zero_le _, Nat.zero_le _⟩ (w2 := (W_M (mv len fa hd dd sd sg es a wr) M)) rfl ?_
  show rr_J Z 2 0 0 _ 7 [(0, .ref 0), (1, .int (nI n))] [.int (rr_b (m_in (nI n) 1 30))] (W_M (mv len fa hd dd sd sg es a wr) M)
  refine rr_neb hC (off := 6) (tgt := 13) (by decide +kernel) (fun h7 => ?_) (fun h7 => by  rw [m_in_yes (by rw [rr_nl_lt (b := 1) (by omega) (by omega)]; omega) (by rw [rr_ln_lt (a := 30) (by omega) (by omega)]; omega)] at h7; cases h7)
  refine rr_go hC bk_X11_undo_13_18 (l' := [(0, .ref 0), (1, .int (nI n))]) (st' := [.int (nI n), .int (nI dd)]) (w' := (W_M (mv len fa hd dd sd sg es a wr) M)) rfl ?_
  refine rr_icmp_ge hC (off := 6) (tgt := 24) (by decide +kernel) (fun h18 => ?_) (fun h18 => by rw [rr_nn_le (by omega) (by omega)] at h18; omega)
  rw [rr_nn_le (by omega) (by omega)] at h18
  refine rr_go hC bk_X11_undo_24_52 (l' := [(0, .ref 0), (1, .int (nI n))]) (st' := [.int 22, .int 0, .ref 10, .int (22 * ((nI dd) - (nI n))), .ref 12]) (w' := (W_M (upd (mv len fa hd dd sd sg es a wr) 3 ((nI dd) - (nI n))) M)) rfl ?_
  rw [show ((nI dd) - (nI n) : Int32) = nI (dd - n) from pk_sub (a := dd) (b := n) (by omega)]
  rw [show (22 * (nI (dd - n)) : Int32) = nI (22 * (dd - n)) from pk_mul 22 (dd - n)]
  refine rr_callS hC (by decide +kernel) kl_11_134 fX11_copies (m_copies660_22 (fun _ => M 11) (fun _ => M 9) (22 * (dd - n)) 0 22 (by omega) (by omega)) rfl rfl [12, 10] rfl rfl (Eq.refl 2) rfl (rest := []) rfl rfl ⟨Nat.zero_le _, Nat.zero_le _⟩ (w2 := (W_M (upd (mv len fa hd dd sd sg es a wr) 3 (nI (dd - n))) (va_up M 9 (va_cpy (M 11) (M 9) (22 * (dd - n)) 0 22)))) rfl ?_
  show rr_J Z 2 0 0 _ 55 [(0, .ref 0), (1, .int (nI n))] [] (W_M (upd (mv len fa hd dd sd sg es a wr) 3 (nI (dd - n))) (va_up M 9 (va_cpy (M 11) (M 9) (22 * (dd - n)) 0 22)))
  refine rr_cast (l' := [(0, .ref 0), (1, .int (nI n))]) rfl (st' := []) rfl (w' := (W_M (upd (mv len fa hd dd sd sg es a wr) 3 (nI (dd - n))) (va_up M 9 (en (D (dd - n)))))) (by rw [hq, en_cpr q (hP (dd - n) (by omega))]) ?_
  refine rr_go hC bk_X11_undo_55_61 (l' := [(0, .ref 0), (1, .int (nI n))]) (st' := [.int ((en (D (dd - n))) 0)]) (w' := (W_M (upd (mv len fa hd dd sd sg es a wr) 3 (nI (dd - n))) (va_up M 9 (en (D (dd - n)))))) rfl ?_
  rw [show ((en (D (dd - n))) 0 : Int32) = nI ((D (dd - n)).1) from en_0 _]
  exact rr_reti hC (by decide +kernel) (by rfl) (by rfl) ⟨Nat.zero_le _, Nat.zero_le _⟩
