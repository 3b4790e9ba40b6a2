/-! the model: told, clause, cell; deeds -/
theorem bk_X11_notes_0_6 : rr_chk mX11_notes [(.aload_n 0, 0, 0, 0), (.getfield 138, 0, 11, 15), (.bipush 30, 30, 0, 0)] 0 6 = true := by decide +kernel
theorem bk_X11_notes_49_67 : rr_chk mX11_notes [(.aload_n 0, 0, 0, 0), (.getfield 41, 0, 11, 12), (.iconst 0, 0, 0, 0), (.aload_n 0, 0, 0, 0), (.getfield 47, 0, 11, 14), (.bipush 22, 22, 0, 0), (.aload_n 0, 0, 0, 0), (.getfield 138, 0, 11, 15), (.imul, 0, 0, 0), (.bipush 22, 22, 0, 0)] 49 67 = true := by decide +kernel
theorem bk_X11_notes_70_80 : rr_chk mX11_notes [(.aload_n 0, 0, 0, 0), (.dup, 0, 0, 0), (.getfield 138, 0, 11, 15), (.iconst 1, 1, 0, 0), (.iadd, 0, 0, 0), (.putfield 138, 0, 11, 15)] 70 80 = true := by decide +kernel
set_option maxRecDepth 100000 in
set_option maxHeartbeats 4000000 in
theorem m_notes0 (len : Nat) (fa : Int32) (hd : Bool) (dd : Nat) (sd : Int32) (sg es a : Nat) (wr : Int32) (M : Nat → Nat → Int32) (hdd : dd < 30) : rr_C mX11_notes 1 [.ref 0] (W_M (mv len fa hd dd sd sg es a wr) M) 0 0 none (W_M (mv len fa hd (dd + 1) sd sg es a wr) (va_up M 11 (va_cpy (M 9) (M 11) 0 (22 * dd) 22))) := by
  refine rr_C.of (n := 0) fX11_notes.1 rfl rfl (fun Z hC => ?_)
  show rr_J Z 2 0 0 (rr_MQ Z 0 0 none (W_M (mv len fa hd (dd + 1) sd sg es a wr) (va_up M 11 (va_cpy (M 9) (M 11) 0 (22 * dd) 22)))) 0 [(0, .ref 0)] [] (W_M (mv len fa hd dd sd sg es a wr) M)
  refine rr_go hC bk_X11_notes_0_6 (l' := [(0, .ref 0)]) (st' := [.int 30, .int (nI dd)]) (w' := (W_M (mv len fa hd dd sd sg es a wr) M)) rfl ?_
  refine rr_icmp_ne hC (off := 43) (tgt := 49) (by decide +kernel) (fun h6 => ?_) (fun h6 => by rw [rr_nl_eq (b := 30) (by omega) (by omega)] at h6; omega)
  rw [rr_nl_eq (b := 30) (by omega) (by omega)] at h6
  refine rr_go hC bk_X11_notes_49_67 (l' := [(0, .ref 0)]) (st' := [.int 22, .int (22 * (nI dd)), .ref 12, .int 0, .ref 10]) (w' := (W_M (mv len fa hd dd sd sg es a wr) M)) rfl ?_
  rw [show (22 * (nI dd) : Int32) = nI (22 * dd) from pk_mul 22 dd]
  refine rr_callS hC (by decide +kernel) kl_11_134 fX11_copies (m_copies22_660 (fun _ => M 9) (fun _ => M 11) 0 (22 * dd) 22 (by omega) (by omega)) rfl rfl [10, 12] rfl rfl (Eq.refl 2) rfl (rest := []) rfl rfl ⟨Nat.zero_le _, Nat.zero_le _⟩ (w2 := (W_M (mv len fa hd dd sd sg es a wr) (va_up M 11 (va_cpy (M 9) (M 11) 0 (22 * dd) 22)))) rfl ?_
  show rr_J Z 2 0 0 _ 70 [(0, .ref 0)] [] (W_M (mv len fa hd dd sd sg es a wr) (va_up M 11 (va_cpy (M 9) (M 11) 0 (22 * dd) 22)))
  refine rr_go hC bk_X11_notes_70_80 (l' := [(0, .ref 0)]) (st' := []) (w' := (W_M (upd (mv len fa hd dd sd sg es a wr) 3 ((nI dd) + 1)) (va_up M 11 (va_cpy (M 9) (M 11) 0 (22 * dd) 22)))) rfl ?_
  rw [show ((nI dd) + 1 : Int32) = nI (dd + 1) from nI_add dd 1]
  exact rr_retv hC (by decide +kernel) (by rfl) ⟨Nat.zero_le _, Nat.zero_le _⟩
theorem bk_X11_notes_9_11 : rr_chk mX11_notes [(.iconst 0, 0, 0, 0), (.istore_n 1, 0, 1, 0)] 9 11 = true := by decide +kernel
theorem bk_X11_notes_11_15 : rr_chk mX11_notes [(.iload_n 1, 0, 1, 0), (.sipush 638, 638, 0, 0)] 11 15 = true := by decide +kernel
theorem bk_X11_notes_39_67 : rr_chk mX11_notes [(.aload_n 0, 0, 0, 0), (.dup, 0, 0, 0), (.getfield 138, 0, 11, 15), (.iconst 1, 1, 0, 0), (.isub, 0, 0, 0), (.putfield 138, 0, 11, 15), (.aload_n 0, 0, 0, 0), (.getfield 41, 0, 11, 12), (.iconst 0, 0, 0, 0), (.aload_n 0, 0, 0, 0), (.getfield 47, 0, 11, 14), (.bipush 22, 22, 0, 0), (.aload_n 0, 0, 0, 0), (.getfield 138, 0, 11, 15), (.imul, 0, 0, 0), (.bipush 22, 22, 0, 0)] 39 67 = true := by decide +kernel
theorem bk_X11_notes_18_31 : rr_chk mX11_notes [(.aload_n 0, 0, 0, 0), (.getfield 47, 0, 11, 14), (.iload_n 1, 0, 1, 0), (.aload_n 0, 0, 0, 0), (.getfield 47, 0, 11, 14), (.iload_n 1, 0, 1, 0), (.bipush 22, 22, 0, 0), (.iadd, 0, 0, 0)] 18 31 = true := by decide +kernel
theorem bk_X11_notes_33_11 : rr_chk mX11_notes [(.iinc 1 1, 1, 1, 0), (.goto (-25), 0, 0, 0)] 33 11 = true := by decide +kernel
set_option maxRecDepth 100000 in
set_option maxHeartbeats 4000000 in
theorem m_notesF (len : Nat) (fa : Int32) (hd : Bool) (dd : Nat) (sd : Int32) (sg es a : Nat) (wr : Int32) (M : Nat → Nat → Int32) (hdd : dd = 30) : rr_C mX11_notes 1 [.ref 0] (W_M (mv len fa hd dd sd sg es a wr) M) 0 0 none (W_M (mv len fa hd dd sd sg es a wr) (va_up M 11 (va_cpy (M 9) (m_shf (M 11) 638) 0 638 22))) := by
  refine rr_C.of (n := 0) fX11_notes.1 rfl rfl (fun Z hC => ?_)
  show rr_J Z 2 0 0 (rr_MQ Z 0 0 none (W_M (mv len fa hd dd sd sg es a wr) (va_up M 11 (va_cpy (M 9) (m_shf (M 11) 638) 0 638 22)))) 0 [(0, .ref 0)] [] (W_M (mv len fa hd dd sd sg es a wr) M)
  refine rr_go hC bk_X11_notes_0_6 (l' := [(0, .ref 0)]) (st' := [.int 30, .int (nI dd)]) (w' := (W_M (mv len fa hd dd sd sg es a wr) M)) rfl ?_
  refine rr_icmp_ne hC (off := 43) (tgt := 49) (by decide +kernel) (fun h6 => by rw [rr_nl_eq (b := 30) (by omega) (by omega)] at h6; omega) (fun h6 => ?_)
  rw [rr_nl_eq (b := 30) (by omega) (by omega)] at h6
  refine rr_go hC bk_X11_notes_9_11 (l' := [(0, .ref 0), (1, .int 0)]) (st' := []) (w' := (W_M (mv len fa hd dd sd sg es a wr) M)) rfl ?_
  have lp11 : ∀ (j k : Nat), k + j = 638 → 0 ≤ k → rr_J Z 2 0 0 (rr_MQ Z 0 0 none (W_M (mv len fa hd dd sd sg es a wr) (va_up M 11 (va_cpy (M 9) (m_shf (M 11) 638) 0 638 22)))) 11 [(0, .ref 0), (1, .int (nI k))] [] (W_M (mv len fa hd dd sd sg es a wr) (va_up M 11 (m_shf (M 11) k))) := by
    intro j
    induction j with
    | zero =>
      intro k hk11 hlo11
      refine rr_go hC bk_X11_notes_11_15 (l' := [(0, .ref 0), (1, .int (nI k))]) (st' := [.int 638, .int (nI k)]) (w' := (W_M (mv len fa hd dd sd sg es a wr) (va_up M 11 (m_shf (M 11) k)))) rfl ?_
      refine rr_icmp_ge hC (off := 24) (tgt := 39) (by decide +kernel) (fun h15 => ?_) (fun h15 => by rw [rr_ln_le (a := 638) (by omega) (by omega)] at h15; omega)
      rw [rr_ln_le (a := 638) (by omega) (by omega)] at h15
      rw [show k = 638 by omega]
      refine rr_go hC bk_X11_notes_39_67 (l' := [(0, .ref 0), (1, .int (nI 638))]) (st' := [.int 22, .int (22 * ((nI dd) - 1)), .ref 12, .int 0, .ref 10]) (w' := (W_M (upd (mv len fa hd dd sd sg es a wr) 3 ((nI dd) - 1)) (va_up M 11 (m_shf (M 11) 638)))) rfl ?_
      rw [show ((nI dd) - 1 : Int32) = nI (dd - 1) from pk_sub (a := dd) (b := 1) (by omega)]
      rw [show (22 * (nI (dd - 1)) : Int32) = nI (22 * (dd - 1)) from pk_mul 22 (dd - 1)]
      refine rr_callS hC (by decide +kernel) kl_11_134 fX11_copies (m_copies22_660 (fun _ => M 9) (fun _ => m_shf (M 11) 638) 0 (22 * (dd - 1)) 22 (by omega) (by omega)) rfl rfl [10, 12] rfl rfl (Eq.refl 2) rfl (rest := []) rfl rfl ⟨Nat.zero_le _, Nat.zero_le _⟩ (w2 := (W_M (upd (mv len fa hd dd sd sg es a wr) 3 (nI (dd - 1))) (va_up M 11 (va_cpy (M 9) (m_shf (M 11) 638) 0 (22 * (dd - 1)) 22)))) rfl ?_
      show rr_J Z 2 0 0 _ 70 [(0, .ref 0), (1, .int (nI 638))] [] (W_M (upd (mv len fa hd dd sd sg es a wr) 3 (nI (dd - 1))) (va_up M 11 (va_cpy (M 9) (m_shf (M 11) 638) 0 (22 * (dd - 1)) 22)))
      refine rr_go hC bk_X11_notes_70_80 (l' := [(0, .ref 0), (1, .int (nI 638))]) (st' := []) (w' := (W_M (upd (mv len fa hd dd sd sg es a wr) 3 ((nI (dd - 1)) + 1)) (va_up M 11 (va_cpy (M 9) (m_shf (M 11) 638) 0 (22 * (dd - 1)) 22)))) rfl ?_
      rw [show ((nI (dd - 1)) + 1 : Int32) = nI ((dd - 1) + 1) from nI_add (dd - 1) 1]
      exact rr_retv hC (by decide +kernel) (by rw [show 22 * (dd - 1) = 638 by omega, show dd - 1 + 1 = dd by omega]; rfl) ⟨Nat.zero_le _, Nat.zero_le _⟩
    | succ j ih =>
      intro k hk11 hlo11
      refine rr_go hC bk_X11_notes_11_15 (l' := [(0, .ref 0), (1, .int (nI k))]) (st' := [.int 638, .int (nI k)]) (w' := (W_M (mv len fa hd dd sd sg es a wr) (va_up M 11 (m_shf (M 11) k)))) rfl ?_
      refine rr_icmp_ge hC (off := 24) (tgt := 39) (by decide +kernel) (fun h15 => by rw [rr_ln_le (a := 638) (by omega) (by omega)] at h15; omega) (fun h15 => ?_)
      rw [rr_ln_le (a := 638) (by omega) (by omega)] at h15
      refine rr_go hC bk_X11_notes_18_31 (l' := [(0, .ref 0), (1, .int (nI k))]) (st' := [.int ((nI k) + 22), .ref 12, .int (nI k), .ref 12]) (w' := (W_M (mv len fa hd dd sd sg es a wr) (va_up M 11 (m_shf (M 11) k)))) rfl ?_
      rw [show ((nI k) + 22 : Int32) = nI (k + 22) from nI_add k 22]
      refine rr_iald hC (k + 22) (by decide +kernel) rfl rfl (by omega) rfl ?_
      show rr_J Z 2 0 0 _ 32 [(0, .ref 0), (1, .int (nI k))] [.int ((m_shf (M 11) k) (k + 22)), .int (nI k), .ref 12] (W_M (mv len fa hd dd sd sg es a wr) (va_up M 11 (m_shf (M 11) k)))
      refine rr_iast hC k (by decide +kernel) rfl rfl (by omega) rfl (w' := (W_M (mv len fa hd dd sd sg es a wr) (va_up M 11 (upd (m_shf (M 11) k) k ((m_shf (M 11) k) (k + 22)))))) rfl ?_
      show rr_J Z 2 0 0 _ 33 [(0, .ref 0), (1, .int (nI k))] [] (W_M (mv len fa hd dd sd sg es a wr) (va_up M 11 (upd (m_shf (M 11) k) k ((m_shf (M 11) k) (k + 22)))))
      refine rr_go hC bk_X11_notes_33_11 (l' := [(0, .ref 0), (1, .int ((nI k) + 1))]) (st' := []) (w' := (W_M (mv len fa hd dd sd sg es a wr) (va_up M 11 (upd (m_shf (M 11) k) k ((m_shf (M 11) k) (k + 22)))))) rfl ?_
      rw [show ((nI k) + 1 : Int32) = nI (k + 1) from nI_add k 1]
      exact rr_cast (l' := [(0, .ref 0), (1, .int (nI (k + 1)))]) (by rfl) rfl (w' := (W_M (mv len fa hd dd sd sg es a wr) (va_up M 11 (m_shf (M 11) (k + 1))))) (by rw [m_shf_s]) (ih (k + 1) (by omega) (by omega))
  exact rr_cast (l' := [(0, .ref 0), (1, .int (nI 0))]) (by first | rfl | (rfl)) rfl (w' := (W_M (mv len fa hd dd sd sg es a wr) (va_up M 11 (m_shf (M 11) 0)))) (by rw [m_shf_0, va_up_i]) (lp11 (638 - 0) 0 (by omega) (Nat.le_refl _))
theorem m_notes (len : Nat) (fa : Int32) (hd : Bool) (dd : Nat) (sd : Int32) (sg es a : Nat) (wr : Int32) (M : Nat → Nat → Int32) (hdd : dd ≤ 30) : rr_C mX11_notes 1 [.ref 0] (W_M (mv len fa hd dd sd sg es a wr) M) 0 0 none (W_M (mv len fa hd (m_nd dd) sd sg es a wr) (va_up M 11 (m_nt (M 11) (M 9) dd))) := by
  unfold m_nt m_nd
  by_cases e : dd = 30
  · rw [if_pos e, if_pos e]
    have h := m_notesF len fa hd dd sd sg es a wr M e
    rw [e] at h ⊢
    exact h
  · rw [if_neg e, if_neg e]
    exact m_notes0 len fa hd dd sd sg es a wr M (by omega)
theorem bk_X11_draw_0_30 : rr_chk mX11_draw [(.aload_n 0, 0, 0, 0), (.aload_n 0, 0, 0, 0), (.getfield 215, 0, 11, 19), (.i2l, 0, 0, 0), (.ldc2_w 218, 1103515245, 0, 0), (.lmul, 0, 0, 0), (.ldc2_w 220, 12345, 0, 0), (.ladd, 0, 0, 0), (.ldc2_w 222, 2147483647, 0, 0), (.land, 0, 0, 0), (.l2i, 0, 0, 0), (.putfield 215, 0, 11, 19), (.aload_n 0, 0, 0, 0), (.getfield 215, 0, 11, 19), (.ldc 224, 65536, 0, 0), (.idiv, 0, 0, 0), (.iload_n 1, 0, 1, 0)] 0 30 = true := by decide +kernel
set_option maxRecDepth 100000 in
set_option maxHeartbeats 4000000 in
theorem m_draw0 (len : Nat) (fa : Int32) (hd : Bool) (dd : Nat) (sd : Int32) (sg es a : Nat) (wr : Int32) (M : Nat → Nat → Int32) (m : Nat) (hm : 0 < m) (hm2 : m ≤ 16) : rr_C mX11_draw 0 [.ref 0, .int (nI m)] (W_M (mv len fa hd dd sd sg es a wr) M) 0 0 (some (p_drw (p_lcg sd) m)) (W_M (mv len fa hd dd (p_lcg sd) sg es a wr) M) := by
  refine rr_C.of (n := 1) fX11_draw.1 rfl rfl (fun Z hC => ?_)
  show rr_J Z 2 0 0 (rr_MQ Z 0 0 (some (p_drw (p_lcg sd) m)) (W_M (mv len fa hd dd (p_lcg sd) sg es a wr) M)) 0 [(0, .ref 0), (1, .int (nI m))] [] (W_M (mv len fa hd dd sd sg es a wr) M)
  refine rr_go hC bk_X11_draw_0_30 (l' := [(0, .ref 0), (1, .int (nI m))]) (st' := [.int (nI m), .int ((Int64.toInt32 ((((Int32.toInt64 sd) * (Int32.toInt64 1103515245)) + (Int32.toInt64 12345)) &&& (Int32.toInt64 2147483647))) / 65536)]) (w' := (W_M (upd (mv len fa hd dd sd sg es a wr) 4 (Int64.toInt32 ((((Int32.toInt64 sd) * (Int32.toInt64 1103515245)) + (Int32.toInt64 12345)) &&& (Int32.toInt64 2147483647)))) M)) rfl ?_
  refine rr_irem hC (by decide +kernel) (by rw [rr_nl_eq (b := 0) (by omega) (by omega)]; omega) ?_
  show rr_J Z 2 0 0 _ 31 [(0, .ref 0), (1, .int (nI m))] [.int (((Int64.toInt32 ((((Int32.toInt64 sd) * (Int32.toInt64 1103515245)) + (Int32.toInt64 12345)) &&& (Int32.toInt64 2147483647))) / 65536) - ((Int64.toInt32 ((((Int32.toInt64 sd) * (Int32.toInt64 1103515245)) + (Int32.toInt64 12345)) &&& (Int32.toInt64 2147483647))) / 65536) / (nI m) * (nI m))] (W_M (upd (mv len fa hd dd sd sg es a wr) 4 (Int64.toInt32 ((((Int32.toInt64 sd) * (Int32.toInt64 1103515245)) + (Int32.toInt64 12345)) &&& (Int32.toInt64 2147483647)))) M)
  exact rr_reti hC (by decide +kernel) (by rfl) (by rfl) ⟨Nat.zero_le _, Nat.zero_le _⟩
theorem m_draw (len : Nat) (fa : Int32) (hd : Bool) (dd : Nat) (sd : Int32) (sg es a : Nat) (wr : Int32) (M : Nat → Nat → Int32) (m : Nat) (hm : 0 < m) (hm2 : m ≤ 16) : rr_C mX11_draw 0 [.ref 0, .int (nI m)] (W_M (mv len fa hd dd sd sg es a wr) M) 0 0 (some (nI (p_dr sd m))) (W_M (mv len fa hd dd (p_lcg sd) sg es a wr) M) := by
  rw [← p_drw_dr sd m hm hm2]
  exact m_draw0 len fa hd dd sd sg es a wr M m hm hm2
theorem bk_X11_barred_0_4 : rr_chk mX11_barred [(.iload_n 1, 0, 1, 0), (.iconst 1, 1, 0, 0), (.bipush 30, 30, 0, 0)] 0 4 = true := by decide +kernel
theorem bk_X11_barred_15_16 : rr_chk mX11_barred [(.aload_n 0, 0, 0, 0)] 15 16 = true := by decide +kernel
theorem bk_X11_barred_27_36 : rr_chk mX11_barred [(.aload_n 0, 0, 0, 0), (.getfield 41, 0, 11, 12), (.iconst 0, 0, 0, 0), (.iaload, 0, 0, 0), (.sipush 9000, 9000, 0, 0)] 27 36 = true := by decide +kernel
theorem bk_X11_barred_44_45 : rr_chk mX11_barred [(.iconst 0, 0, 0, 0)] 44 45 = true := by decide +kernel
theorem bk_X11_barred_39_45 : rr_chk mX11_barred [(.ldc 86, (-1000000004), 0, 0), (.goto 4, 0, 0, 0)] 39 45 = true := by decide +kernel
theorem bk_X11_barred_22_45 : rr_chk mX11_barred [(.ldc 190, (-1000000003), 0, 0), (.goto 21, 0, 0, 0)] 22 45 = true := by decide +kernel
theorem bk_X11_barred_10_45 : rr_chk mX11_barred [(.ldc 82, (-1000000002), 0, 0), (.goto 33, 0, 0, 0)] 10 45 = true := by decide +kernel
set_option maxRecDepth 100000 in
set_option maxHeartbeats 4000000 in
theorem m_barred (len : Nat) (fa : Int32) (hd : Bool) (dd : Nat) (sd : Int32) (sg es a : Nat) (wr : Int32) (M : Nat → Nat → Int32) (tc wd cc kc : Nat) (G : Nat → Nat → Int32) (hG : m_G M G tc wd cc kc) (q : p_Q) (hq : M 9 = en q) (x : Int32) (htc : tc ≤ 12) (hcc : cc ≤ 9) (hkc : kc ≤ 6) (hu : q.1 ≤ 9100) : rr_C mX11_barred 1 [.ref 0, .int x] (W_M (mv len fa hd dd sd sg es a wr) M) 0 0 (some (p_ref x tc q.1)) (W_M (mv len fa hd dd sd sg es a wr) M) := by
  refine rr_C.of (n := 1) fX11_barred.1 rfl rfl (fun Z hC => ?_)
  show rr_J Z 2 0 0 (rr_MQ Z 0 0 (some (p_ref x tc q.1)) (W_M (mv len fa hd dd sd sg es a wr) M)) 0 [(0, .ref 0), (1, .int x)] [] (W_M (mv len fa hd dd sd sg es a wr) M)
  refine rr_go hC bk_X11_barred_0_4 (l' := [(0, .ref 0), (1, .int x)]) (st' := [.int 30, .int 1, .int x]) (w' := (W_M (mv len fa hd dd sd sg es a wr) M)) rfl ?_
  refine rr_callS hC (by decide +kernel) kl_11_78 fX11_in (m_c_in x 1 30) rfl rfl [] rfl rfl (Eq.refl 0) rfl (rest := []) rfl rfl ⟨Nat.zero_le _, Nat.zero_le _⟩ (w2 := (W_M (mv len fa hd dd sd sg es a wr) M)) rfl ?_
  show rr_J Z 2 0 0 _ 7 [(0, .ref 0), (1, .int x)] [.int (rr_b (m_in x 1 30))] (W_M (mv len fa hd dd sd sg es a wr) M)
  refine rr_neb hC (off := 8) (tgt := 15) (by decide +kernel) (fun h7 => ?_) (fun h7 => ?_)
  · refine rr_go hC bk_X11_barred_15_16 (l' := [(0, .ref 0), (1, .int x)]) (st' := [.ref 0]) (w' := (W_M (mv len fa hd dd sd sg es a wr) M)) rfl ?_
    refine rr_callVI hC (by decide +kernel) kl_11_162 fX11_isStrand (m_isStrand (mv len fa hd dd sd sg es a wr) M tc wd cc kc G hG (by omega) (by omega) (by omega)) rfl rfl rfl rfl rfl (rest := []) rfl rfl ⟨Nat.zero_le _, Nat.zero_le _⟩ (Eq.refl 22) ?_
    show rr_J Z 2 0 0 _ 19 [(0, .ref 0), (1, .int x)] [.int (rr_b (decide (0 < tc)))] (W_M (mv len fa hd dd sd sg es a wr) M)
    refine rr_neb hC (off := 8) (tgt := 27) (by decide +kernel) (fun h19 => ?_) (fun h19 => ?_)
    · replace h19 := of_decide_eq_true h19
      refine rr_go hC bk_X11_barred_27_36 (l' := [(0, .ref 0), (1, .int x)]) (st' := [.int 9000, .int (M 9 0)]) (w' := (W_M (mv len fa hd dd sd sg es a wr) M)) rfl ?_
      rw [show (M 9 0 : Int32) = nI q.1 from (by rw [hq]; rfl)]
      refine rr_icmp_le hC (off := 8) (tgt := 44) (by decide +kernel) (fun h36 => ?_) (fun h36 => ?_)
      · rw [rr_nl_le (b := 9000) (by omega) (by omega)] at h36
        refine rr_go hC bk_X11_barred_44_45 (l' := [(0, .ref 0), (1, .int x)]) (st' := [.int 0]) (w' := (W_M (mv len fa hd dd sd sg es a wr) M)) rfl ?_
        exact rr_reti hC (by decide +kernel) (by unfold p_ref; first | (rw [if_pos (show x < 1 ∨ 30 < x from by unfold m_in at h7; simp at h7; by_cases z : x < 1; exact Or.inl z; exact Or.inr (h7 (Int32.not_lt.mp z)))]; done) | (rw [if_neg (show ¬ (x < 1 ∨ 30 < x) from fun z => by rw [m_in_no z] at h7; cases h7)]; first | (rw [if_pos (show tc = 0 by omega)]; done) | (rw [if_neg (show ¬ tc = 0 by omega)]; first | (rw [if_pos (by omega)]; done) | (rw [if_neg (by omega)]; done)))) (by rfl) ⟨Nat.zero_le _, Nat.zero_le _⟩
      · rw [rr_nl_le (b := 9000) (by omega) (by omega)] at h36
        refine rr_go hC bk_X11_barred_39_45 (l' := [(0, .ref 0), (1, .int x)]) (st' := [.int (-1000000004)]) (w' := (W_M (mv len fa hd dd sd sg es a wr) M)) rfl ?_
        exact rr_reti hC (by decide +kernel) (by unfold p_ref; first | (rw [if_pos (show x < 1 ∨ 30 < x from by unfold m_in at h7; simp at h7; by_cases z : x < 1; exact Or.inl z; exact Or.inr (h7 (Int32.not_lt.mp z)))]; done) | (rw [if_neg (show ¬ (x < 1 ∨ 30 < x) from fun z => by rw [m_in_no z] at h7; cases h7)]; first | (rw [if_pos (show tc = 0 by omega)]; done) | (rw [if_neg (show ¬ tc = 0 by omega)]; first | (rw [if_pos (by omega)]; done) | (rw [if_neg (by omega)]; done)))) (by rfl) ⟨Nat.zero_le _, Nat.zero_le _⟩
    · replace h19 := of_decide_eq_false h19
      refine rr_go hC bk_X11_barred_22_45 (l' := [(0, .ref 0), (1, .int x)]) (st' := [.int (-1000000003)]) (w' := (W_M (mv len fa hd dd sd sg es a wr) M)) rfl ?_
      exact rr_reti hC (by decide +kernel) (by unfold p_ref; first | (rw [if_pos (show x < 1 ∨ 30 < x from by unfold m_in at h7; simp at h7; by_cases z : x < 1; exact Or.inl z; exact Or.inr (h7 (Int32.not_lt.mp z)))]; done) | (rw [if_neg (show ¬ (x < 1 ∨ 30 < x) from fun z => by rw [m_in_no z] at h7; cases h7)]; first | (rw [if_pos (show tc = 0 by omega)]; done) | (rw [if_neg (show ¬ tc = 0 by omega)]; first | (rw [if_pos (by omega)]; done) | (rw [if_neg (by omega)]; done)))) (by rfl) ⟨Nat.zero_le _, Nat.zero_le _⟩
  · refine rr_go hC bk_X11_barred_10_45 (l' := [(0, .ref 0), (1, .int x)]) (st' := [.int (-1000000002)]) (w' := (W_M (mv len fa hd dd sd sg es a wr) M)) rfl ?_
    exact rr_reti hC (by decide +kernel) (by unfold p_ref; first | (rw [if_pos (show x < 1 ∨ 30 < x from by unfold m_in at h7; simp at h7; by_cases z : x < 1; exact Or.inl z; exact Or.inr (h7 (Int32.not_lt.mp z)))]; done) | (rw [if_neg (show ¬ (x < 1 ∨ 30 < x) from fun z => by rw [m_in_no z] at h7; cases h7)]; first | (rw [if_pos (show tc = 0 by omega)]; done) | (rw [if_neg (show ¬ tc = 0 by omega)]; first | (rw [if_pos (by omega)]; done) | (rw [if_neg (by omega)]; done)))) (by rfl) ⟨Nat.zero_le _, Nat.zero_le _⟩
theorem bk_X11_told_0_1 : rr_chk mX11_told [(.iload_n 1, 0, 1, 0)] 0 1 = true := by decide +kernel
theorem bk_X11_told_76_82 : rr_chk mX11_told [(.aload_n 0, 0, 0, 0), (.getfield 17, 0, 11, 3), (.iconst 0, 0, 0, 0), (.iaload, 0, 0, 0)] 76 82 = true := by decide +kernel
theorem bk_X11_told_83_89 : rr_chk mX11_told [(.aload_n 0, 0, 0, 0), (.getfield 17, 0, 11, 3), (.iconst 3, 3, 0, 0), (.iaload, 0, 3, 0)] 83 89 = true := by decide +kernel
theorem bk_X11_told_90_96 : rr_chk mX11_told [(.aload_n 0, 0, 0, 0), (.getfield 17, 0, 11, 3), (.iconst 1, 1, 0, 0), (.iaload, 0, 1, 0)] 90 96 = true := by decide +kernel
theorem bk_X11_told_97_103 : rr_chk mX11_told [(.aload_n 0, 0, 0, 0), (.getfield 17, 0, 11, 3), (.iconst 2, 2, 0, 0), (.iaload, 0, 2, 0)] 97 103 = true := by decide +kernel
theorem bk_X11_told_104_108 : rr_chk mX11_told [(.aload_n 0, 0, 0, 0), (.getfield 83, 0, 11, 1)] 104 108 = true := by decide +kernel
theorem bk_X11_told_109_115 : rr_chk mX11_told [(.aload_n 0, 0, 0, 0), (.getfield 41, 0, 11, 12), (.iconst 0, 0, 0, 0), (.iaload, 0, 0, 0)] 109 115 = true := by decide +kernel
theorem bk_X11_told_116_117 : rr_chk mX11_told [(.aload_n 0, 0, 0, 0)] 116 117 = true := by decide +kernel
theorem bk_X11_told_136_137 : rr_chk mX11_told [(.iconst 0, 0, 0, 0)] 136 137 = true := by decide +kernel
theorem bk_X11_told_123_130 : rr_chk mX11_told [(.aload_n 0, 0, 0, 0), (.aload_n 0, 0, 0, 0), (.getfield 41, 0, 11, 12), (.iconst 0, 0, 0, 0), (.iaload, 0, 0, 0)] 123 130 = true := by decide +kernel
theorem bk_X11_told_133_137 : rr_chk mX11_told [(.goto 4, 0, 0, 0)] 133 137 = true := by decide +kernel
theorem bk_X11_told_138_139 : rr_chk mX11_told [(.aload_n 0, 0, 0, 0)] 138 139 = true := by decide +kernel
theorem bk_X11_told_158_159 : rr_chk mX11_told [(.iconst 0, 0, 0, 0)] 158 159 = true := by decide +kernel
theorem bk_X11_told_145_152 : rr_chk mX11_told [(.aload_n 0, 0, 0, 0), (.aload_n 0, 0, 0, 0), (.getfield 41, 0, 11, 12), (.iconst 0, 0, 0, 0), (.iaload, 0, 0, 0)] 145 152 = true := by decide +kernel
theorem bk_X11_told_155_159 : rr_chk mX11_told [(.goto 4, 0, 0, 0)] 155 159 = true := by decide +kernel
theorem bk_X11_told_160_166 : rr_chk mX11_told [(.aload_n 0, 0, 0, 0), (.getfield 41, 0, 11, 12), (.iconst 1, 1, 0, 0), (.iaload, 0, 1, 0)] 160 166 = true := by decide +kernel
theorem bk_X11_told_166_168 : rr_chk mX11_told [(.iconst 1, 1, 0, 0), (.isub, 0, 0, 0)] 166 168 = true := by decide +kernel
theorem bk_X11_told_169_174 : rr_chk mX11_told [(.aload_n 0, 0, 0, 0), (.aload_n 0, 0, 0, 0), (.getfield 41, 0, 11, 12)] 169 174 = true := by decide +kernel
theorem bk_X11_told_178_184 : rr_chk mX11_told [(.aload_n 0, 0, 0, 0), (.getfield 41, 0, 11, 12), (.iconst 2, 2, 0, 0), (.iaload, 0, 2, 0)] 178 184 = true := by decide +kernel
theorem bk_X11_told_184_187 : rr_chk mX11_told [(.ldc 173, 1000000, 0, 0), (.iadd, 0, 0, 0)] 184 187 = true := by decide +kernel
theorem bk_X11_told_188_194 : rr_chk mX11_told [(.aload_n 0, 0, 0, 0), (.getfield 41, 0, 11, 12), (.iconst 3, 3, 0, 0), (.iaload, 0, 3, 0)] 188 194 = true := by decide +kernel
theorem bk_X11_told_194_197 : rr_chk mX11_told [(.ldc 173, 1000000, 0, 0), (.iadd, 0, 0, 0)] 194 197 = true := by decide +kernel
theorem bk_X11_told_198_202 : rr_chk mX11_told [(.aload_n 0, 0, 0, 0), (.getfield 141, 0, 11, 21)] 198 202 = true := by decide +kernel
theorem bk_X11_told_203_207 : rr_chk mX11_told [(.aload_n 0, 0, 0, 0), (.getfield 144, 0, 11, 23)] 203 207 = true := by decide +kernel
theorem bk_X11_told_208_212 : rr_chk mX11_told [(.aload_n 0, 0, 0, 0), (.getfield 138, 0, 11, 15)] 208 212 = true := by decide +kernel
theorem bk_X11_told_213_215 : rr_chk mX11_told [(.ldc 82, (-1000000002), 0, 0)] 213 215 = true := by decide +kernel
set_option maxRecDepth 100000 in
set_option maxHeartbeats 4000000 in
theorem m_told (len : Nat) (fa : Int32) (hd : Bool) (dd : Nat) (sd : Int32) (sg es a : Nat) (wr : Int32) (M : Nat → Nat → Int32) (tc wd cc kc : Nat) (G : Nat → Nat → Int32) (hG : m_G M G tc wd cc kc) (q : p_Q) (hq : M 9 = en q) (x : Int32) (htc : tc ≤ 12) (hcc : cc ≤ 9) (hkc : kc ≤ 6) (hu : q.1 ≤ 9100) (h0c : 0 < cc → 0 < tc) (h0k : 0 < kc → 0 < tc) (hI : m_I G cc kc q) : rr_C mX11_told 3 [.ref 0, .int x] (W_M (mv len fa hd dd sd sg es a wr) M) 0 0 (some (if x = 0 then nI tc else if x = 1 then nI wd else if x = 2 then nI cc else if x = 3 then nI kc else if x = 4 then nI len else if x = 5 then nI q.1 else if x = 6 then p_tide (G 0) tc q.1 else if x = 7 then p_wets G tc q.1 cc else if x = 8 then q.2.1 else if x = 9 then p_fs q.2.2.2.2 G kc else if x = 10 then q.2.2.1 + 1000000 else if x = 11 then q.2.2.2.1 + 1000000 else if x = 12 then nI sg else if x = 13 then nI es else if x = 14 then nI dd else (-1000000002))) (W_M (mv len fa hd dd sd sg es a wr) M) := by
  refine rr_C.of (n := 1) fX11_told.1 rfl rfl (fun Z hC => ?_)
  show rr_J Z 2 0 0 (rr_MQ Z 0 0 (some (if x = 0 then nI tc else if x = 1 then nI wd else if x = 2 then nI cc else if x = 3 then nI kc else if x = 4 then nI len else if x = 5 then nI q.1 else if x = 6 then p_tide (G 0) tc q.1 else if x = 7 then p_wets G tc q.1 cc else if x = 8 then q.2.1 else if x = 9 then p_fs q.2.2.2.2 G kc else if x = 10 then q.2.2.1 + 1000000 else if x = 11 then q.2.2.2.1 + 1000000 else if x = 12 then nI sg else if x = 13 then nI es else if x = 14 then nI dd else (-1000000002))) (W_M (mv len fa hd dd sd sg es a wr) M)) 0 [(0, .ref 0), (1, .int x)] [] (W_M (mv len fa hd dd sd sg es a wr) M)
  refine rr_go hC bk_X11_told_0_1 (l' := [(0, .ref 0), (1, .int x)]) (st' := [.int x]) (w' := (W_M (mv len fa hd dd sd sg es a wr) M)) rfl ?_
  by_cases hw0 : x = 0
  · refine rr_tab hC 0 (dflt := 212) (lo := 0) (hi := 14) (offs := #[75, 82, 89, 96, 103, 108, 115, 137, 159, 168, 177, 187, 197, 202, 207]) (n := 75) (off := 75) (tgt := 76) (by decide +kernel) (by rw [hw0]; decide) rfl (by decide) ?_
    refine rr_go hC bk_X11_told_76_82 (l' := [(0, .ref 0), (1, .int x)]) (st' := [.int (M 1 0)]) (w' := (W_M (mv len fa hd dd sd sg es a wr) M)) rfl ?_
    rw [show (M 1 0 : Int32) = nI tc from hG.1]
    exact rr_reti hC (by decide +kernel) (by rw [if_pos hw0]) (by rfl) ⟨Nat.zero_le _, Nat.zero_le _⟩
  by_cases hw1 : x = 1
  · refine rr_tab hC 1 (dflt := 212) (lo := 0) (hi := 14) (offs := #[75, 82, 89, 96, 103, 108, 115, 137, 159, 168, 177, 187, 197, 202, 207]) (n := 75) (off := 82) (tgt := 83) (by decide +kernel) (by rw [hw1]; decide) rfl (by decide) ?_
    refine rr_go hC bk_X11_told_83_89 (l' := [(0, .ref 0), (1, .int x)]) (st' := [.int (M 1 3)]) (w' := (W_M (mv len fa hd dd sd sg es a wr) M)) rfl ?_
    rw [show (M 1 3 : Int32) = nI wd from hG.2.2.2.1]
    exact rr_reti hC (by decide +kernel) (by rw [if_neg hw0, if_pos hw1]) (by rfl) ⟨Nat.zero_le _, Nat.zero_le _⟩
  by_cases hw2 : x = 2
  · refine rr_tab hC 2 (dflt := 212) (lo := 0) (hi := 14) (offs := #[75, 82, 89, 96, 103, 108, 115, 137, 159, 168, 177, 187, 197, 202, 207]) (n := 75) (off := 89) (tgt := 90) (by decide +kernel) (by rw [hw2]; decide) rfl (by decide) ?_
    refine rr_go hC bk_X11_told_90_96 (l' := [(0, .ref 0), (1, .int x)]) (st' := [.int (M 1 1)]) (w' := (W_M (mv len fa hd dd sd sg es a wr) M)) rfl ?_
    rw [show (M 1 1 : Int32) = nI cc from hG.2.1]
    exact rr_reti hC (by decide +kernel) (by rw [if_neg hw0, if_neg hw1, if_pos hw2]) (by rfl) ⟨Nat.zero_le _, Nat.zero_le _⟩
  by_cases hw3 : x = 3
  · refine rr_tab hC 3 (dflt := 212) (lo := 0) (hi := 14) (offs := #[75, 82, 89, 96, 103, 108, 115, 137, 159, 168, 177, 187, 197, 202, 207]) (n := 75) (off := 96) (tgt := 97) (by decide +kernel) (by rw [hw3]; decide) rfl (by decide) ?_
    refine rr_go hC bk_X11_told_97_103 (l' := [(0, .ref 0), (1, .int x)]) (st' := [.int (M 1 2)]) (w' := (W_M (mv len fa hd dd sd sg es a wr) M)) rfl ?_
    rw [show (M 1 2 : Int32) = nI kc from hG.2.2.1]
    exact rr_reti hC (by decide +kernel) (by rw [if_neg hw0, if_neg hw1, if_neg hw2, if_pos hw3]) (by rfl) ⟨Nat.zero_le _, Nat.zero_le _⟩
  by_cases hw4 : x = 4
  · refine rr_tab hC 4 (dflt := 212) (lo := 0) (hi := 14) (offs := #[75, 82, 89, 96, 103, 108, 115, 137, 159, 168, 177, 187, 197, 202, 207]) (n := 75) (off := 103) (tgt := 104) (by decide +kernel) (by rw [hw4]; decide) rfl (by decide) ?_
    refine rr_go hC bk_X11_told_104_108 (l' := [(0, .ref 0), (1, .int x)]) (st' := [.int (nI len)]) (w' := (W_M (mv len fa hd dd sd sg es a wr) M)) rfl ?_
    exact rr_reti hC (by decide +kernel) (by rw [if_neg hw0, if_neg hw1, if_neg hw2, if_neg hw3, if_pos hw4]) (by rfl) ⟨Nat.zero_le _, Nat.zero_le _⟩
  by_cases hw5 : x = 5
  · refine rr_tab hC 5 (dflt := 212) (lo := 0) (hi := 14) (offs := #[75, 82, 89, 96, 103, 108, 115, 137, 159, 168, 177, 187, 197, 202, 207]) (n := 75) (off := 108) (tgt := 109) (by decide +kernel) (by rw [hw5]; decide) rfl (by decide) ?_
    refine rr_go hC bk_X11_told_109_115 (l' := [(0, .ref 0), (1, .int x)]) (st' := [.int (M 9 0)]) (w' := (W_M (mv len fa hd dd sd sg es a wr) M)) rfl ?_
    rw [show (M 9 0 : Int32) = nI q.1 from (by rw [hq]; rfl)]
    exact rr_reti hC (by decide +kernel) (by rw [if_neg hw0, if_neg hw1, if_neg hw2, if_neg hw3, if_neg hw4, if_pos hw5]) (by rfl) ⟨Nat.zero_le _, Nat.zero_le _⟩
  by_cases hw6 : x = 6
  · refine rr_tab hC 6 (dflt := 212) (lo := 0) (hi := 14) (offs := #[75, 82, 89, 96, 103, 108, 115, 137, 159, 168, 177, 187, 197, 202, 207]) (n := 75) (off := 115) (tgt := 116) (by decide +kernel) (by rw [hw6]; decide) rfl (by decide) ?_
    refine rr_go hC bk_X11_told_116_117 (l' := [(0, .ref 0), (1, .int x)]) (st' := [.ref 0]) (w' := (W_M (mv len fa hd dd sd sg es a wr) M)) rfl ?_
    refine rr_callVI hC (by decide +kernel) kl_11_162 fX11_isStrand (m_isStrand (mv len fa hd dd sd sg es a wr) M tc wd cc kc G hG (by omega) (by omega) (by omega)) rfl rfl rfl rfl rfl (rest := []) rfl rfl ⟨Nat.zero_le _, Nat.zero_le _⟩ (Eq.refl 22) ?_
    show rr_J Z 2 0 0 _ 120 [(0, .ref 0), (1, .int x)] [.int (rr_b (decide (0 < tc)))] (W_M (mv len fa hd dd sd sg es a wr) M)
    refine rr_eqb hC (off := 16) (tgt := 136) (by decide +kernel) (fun h120 => ?_) (fun h120 => ?_)
    · replace h120 := of_decide_eq_false h120
      refine rr_go hC bk_X11_told_136_137 (l' := [(0, .ref 0), (1, .int x)]) (st' := [.int 0]) (w' := (W_M (mv len fa hd dd sd sg es a wr) M)) rfl ?_
      exact rr_reti hC (by decide +kernel) (by rw [if_neg hw0, if_neg hw1, if_neg hw2, if_neg hw3, if_neg hw4, if_neg hw5, if_pos hw6]; first | done | (unfold p_tide; rw [if_pos (show tc = 0 by omega)]; done)) (by rfl) ⟨Nat.zero_le _, Nat.zero_le _⟩
    · replace h120 := of_decide_eq_true h120
      refine rr_go hC bk_X11_told_123_130 (l' := [(0, .ref 0), (1, .int x)]) (st' := [.int (M 9 0), .ref 0]) (w' := (W_M (mv len fa hd dd sd sg es a wr) M)) rfl ?_
      rw [show (M 9 0 : Int32) = nI q.1 from (by rw [hq]; rfl)]
      refine rr_callVI hC (by decide +kernel) kl_11_147 fX11_tideAt (m_tideAt (mv len fa hd dd sd sg es a wr) M tc wd cc kc G hG q.1 (by omega) (by omega) (by omega) (by omega) (by omega)) rfl rfl rfl rfl rfl (rest := []) rfl rfl ⟨Nat.zero_le _, Nat.zero_le _⟩ (Eq.refl 22) ?_
      show rr_J Z 2 0 0 _ 133 [(0, .ref 0), (1, .int x)] [.int (p_tide (G 0) tc q.1)] (W_M (mv len fa hd dd sd sg es a wr) M)
      refine rr_go hC bk_X11_told_133_137 (l' := [(0, .ref 0), (1, .int x)]) (st' := [.int (p_tide (G 0) tc q.1)]) (w' := (W_M (mv len fa hd dd sd sg es a wr) M)) rfl ?_
      exact rr_reti hC (by decide +kernel) (by rw [if_neg hw0, if_neg hw1, if_neg hw2, if_neg hw3, if_neg hw4, if_neg hw5, if_pos hw6]; first | done | (unfold p_tide; rw [if_pos (show tc = 0 by omega)]; done)) (by rfl) ⟨Nat.zero_le _, Nat.zero_le _⟩
  by_cases hw7 : x = 7
  · refine rr_tab hC 7 (dflt := 212) (lo := 0) (hi := 14) (offs := #[75, 82, 89, 96, 103, 108, 115, 137, 159, 168, 177, 187, 197, 202, 207]) (n := 75) (off := 137) (tgt := 138) (by decide +kernel) (by rw [hw7]; decide) rfl (by decide) ?_
    refine rr_go hC bk_X11_told_138_139 (l' := [(0, .ref 0), (1, .int x)]) (st' := [.ref 0]) (w' := (W_M (mv len fa hd dd sd sg es a wr) M)) rfl ?_
    refine rr_callVI hC (by decide +kernel) kl_11_162 fX11_isStrand (m_isStrand (mv len fa hd dd sd sg es a wr) M tc wd cc kc G hG (by omega) (by omega) (by omega)) rfl rfl rfl rfl rfl (rest := []) rfl rfl ⟨Nat.zero_le _, Nat.zero_le _⟩ (Eq.refl 22) ?_
    show rr_J Z 2 0 0 _ 142 [(0, .ref 0), (1, .int x)] [.int (rr_b (decide (0 < tc)))] (W_M (mv len fa hd dd sd sg es a wr) M)
    refine rr_eqb hC (off := 16) (tgt := 158) (by decide +kernel) (fun h142 => ?_) (fun h142 => ?_)
    · replace h142 := of_decide_eq_false h142
      refine rr_go hC bk_X11_told_158_159 (l' := [(0, .ref 0), (1, .int x)]) (st' := [.int 0]) (w' := (W_M (mv len fa hd dd sd sg es a wr) M)) rfl ?_
      exact rr_reti hC (by decide +kernel) (by rw [if_neg hw0, if_neg hw1, if_neg hw2, if_neg hw3, if_neg hw4, if_neg hw5, if_neg hw6, if_pos hw7]; first | done | (have z : tc = 0 := by omega); rw [show cc = 0 by omega]; rfl) (by rfl) ⟨Nat.zero_le _, Nat.zero_le _⟩
    · replace h142 := of_decide_eq_true h142
      refine rr_go hC bk_X11_told_145_152 (l' := [(0, .ref 0), (1, .int x)]) (st' := [.int (M 9 0), .ref 0]) (w' := (W_M (mv len fa hd dd sd sg es a wr) M)) rfl ?_
      rw [show (M 9 0 : Int32) = nI q.1 from (by rw [hq]; rfl)]
      refine rr_callVI hC (by decide +kernel) kl_11_166 fX11_wetAt (m_wetAt (mv len fa hd dd sd sg es a wr) M tc wd cc kc G hG q.1 (by omega) (by omega) (by omega) (by omega) (by omega)) rfl rfl rfl rfl rfl (rest := []) rfl rfl ⟨Nat.zero_le _, Nat.zero_le _⟩ (Eq.refl 22) ?_
      show rr_J Z 2 0 0 _ 155 [(0, .ref 0), (1, .int x)] [.int (p_wets G tc q.1 cc)] (W_M (mv len fa hd dd sd sg es a wr) M)
      refine rr_go hC bk_X11_told_155_159 (l' := [(0, .ref 0), (1, .int x)]) (st' := [.int (p_wets G tc q.1 cc)]) (w' := (W_M (mv len fa hd dd sd sg es a wr) M)) rfl ?_
      exact rr_reti hC (by decide +kernel) (by rw [if_neg hw0, if_neg hw1, if_neg hw2, if_neg hw3, if_neg hw4, if_neg hw5, if_neg hw6, if_pos hw7]; first | done | (have z : tc = 0 := by omega); rw [show cc = 0 by omega]; rfl) (by rfl) ⟨Nat.zero_le _, Nat.zero_le _⟩
  by_cases hw8 : x = 8
  · refine rr_tab hC 8 (dflt := 212) (lo := 0) (hi := 14) (offs := #[75, 82, 89, 96, 103, 108, 115, 137, 159, 168, 177, 187, 197, 202, 207]) (n := 75) (off := 159) (tgt := 160) (by decide +kernel) (by rw [hw8]; decide) rfl (by decide) ?_
    refine rr_go hC bk_X11_told_160_166 (l' := [(0, .ref 0), (1, .int x)]) (st' := [.int (M 9 1)]) (w' := (W_M (mv len fa hd dd sd sg es a wr) M)) rfl ?_
    rw [hq, en_1]
    refine rr_go hC bk_X11_told_166_168 (l' := [(0, .ref 0), (1, .int x)]) (st' := [.int ((q.2.1 + 1) - 1)]) (w' := (W_M (mv len fa hd dd sd sg es a wr) M)) rfl ?_
    exact rr_reti hC (by decide +kernel) (by rw [if_neg hw0, if_neg hw1, if_neg hw2, if_neg hw3, if_neg hw4, if_neg hw5, if_neg hw6, if_neg hw7, if_pos hw8]; simp) (by rfl) ⟨Nat.zero_le _, Nat.zero_le _⟩
  by_cases hw9 : x = 9
  · refine rr_tab hC 9 (dflt := 212) (lo := 0) (hi := 14) (offs := #[75, 82, 89, 96, 103, 108, 115, 137, 159, 168, 177, 187, 197, 202, 207]) (n := 75) (off := 168) (tgt := 169) (by decide +kernel) (by rw [hw9]; decide) rfl (by decide) ?_
    refine rr_go hC bk_X11_told_169_174 (l' := [(0, .ref 0), (1, .int x)]) (st' := [.ref 10, .ref 0]) (w' := (W_M (mv len fa hd dd sd sg es a wr) M)) rfl ?_
    refine rr_callVI hC (by decide +kernel) kl_11_169 fX11_force (m_force_now (mv len fa hd dd sd sg es a wr) M tc wd cc kc G hG q hq (by omega) (by omega) (by omega) hI.ok) rfl rfl rfl rfl rfl (rest := []) rfl rfl ⟨Nat.zero_le _, Nat.zero_le _⟩ (Eq.refl 22) ?_
    show rr_J Z 2 0 0 _ 177 [(0, .ref 0), (1, .int x)] [.int (p_fs q.2.2.2.2 G kc)] (W_M (mv len fa hd dd sd sg es a wr) M)
    exact rr_reti hC (by decide +kernel) (by rw [if_neg hw0, if_neg hw1, if_neg hw2, if_neg hw3, if_neg hw4, if_neg hw5, if_neg hw6, if_neg hw7, if_neg hw8, if_pos hw9]) (by rfl) ⟨Nat.zero_le _, Nat.zero_le _⟩
  by_cases hw10 : x = 10
  · refine rr_tab hC 10 (dflt := 212) (lo := 0) (hi := 14) (offs := #[75, 82, 89, 96, 103, 108, 115, 137, 159, 168, 177, 187, 197, 202, 207]) (n := 75) (off := 177) (tgt := 178) (by decide +kernel) (by rw [hw10]; decide) rfl (by decide) ?_
    refine rr_go hC bk_X11_told_178_184 (l' := [(0, .ref 0), (1, .int x)]) (st' := [.int (M 9 2)]) (w' := (W_M (mv len fa hd dd sd sg es a wr) M)) rfl ?_
    rw [hq, en_2]
    refine rr_go hC bk_X11_told_184_187 (l' := [(0, .ref 0), (1, .int x)]) (st' := [.int (q.2.2.1 + 1000000)]) (w' := (W_M (mv len fa hd dd sd sg es a wr) M)) rfl ?_
    exact rr_reti hC (by decide +kernel) (by rw [if_neg hw0, if_neg hw1, if_neg hw2, if_neg hw3, if_neg hw4, if_neg hw5, if_neg hw6, if_neg hw7, if_neg hw8, if_neg hw9, if_pos hw10]) (by rfl) ⟨Nat.zero_le _, Nat.zero_le _⟩
  by_cases hw11 : x = 11
  · refine rr_tab hC 11 (dflt := 212) (lo := 0) (hi := 14) (offs := #[75, 82, 89, 96, 103, 108, 115, 137, 159, 168, 177, 187, 197, 202, 207]) (n := 75) (off := 187) (tgt := 188) (by decide +kernel) (by rw [hw11]; decide) rfl (by decide) ?_
    refine rr_go hC bk_X11_told_188_194 (l' := [(0, .ref 0), (1, .int x)]) (st' := [.int (M 9 3)]) (w' := (W_M (mv len fa hd dd sd sg es a wr) M)) rfl ?_
    rw [hq, en_3]
    refine rr_go hC bk_X11_told_194_197 (l' := [(0, .ref 0), (1, .int x)]) (st' := [.int (q.2.2.2.1 + 1000000)]) (w' := (W_M (mv len fa hd dd sd sg es a wr) M)) rfl ?_
    exact rr_reti hC (by decide +kernel) (by rw [if_neg hw0, if_neg hw1, if_neg hw2, if_neg hw3, if_neg hw4, if_neg hw5, if_neg hw6, if_neg hw7, if_neg hw8, if_neg hw9, if_neg hw10, if_pos hw11]) (by rfl) ⟨Nat.zero_le _, Nat.zero_le _⟩
  by_cases hw12 : x = 12
  · refine rr_tab hC 12 (dflt := 212) (lo := 0) (hi := 14) (offs := #[75, 82, 89, 96, 103, 108, 115, 137, 159, 168, 177, 187, 197, 202, 207]) (n := 75) (off := 197) (tgt := 198) (by decide +kernel) (by rw [hw12]; decide) rfl (by decide) ?_
    refine rr_go hC bk_X11_told_198_202 (l' := [(0, .ref 0), (1, .int x)]) (st' := [.int (nI sg)]) (w' := (W_M (mv len fa hd dd sd sg es a wr) M)) rfl ?_
    exact rr_reti hC (by decide +kernel) (by rw [if_neg hw0, if_neg hw1, if_neg hw2, if_neg hw3, if_neg hw4, if_neg hw5, if_neg hw6, if_neg hw7, if_neg hw8, if_neg hw9, if_neg hw10, if_neg hw11, if_pos hw12]) (by rfl) ⟨Nat.zero_le _, Nat.zero_le _⟩
  by_cases hw13 : x = 13
  · refine rr_tab hC 13 (dflt := 212) (lo := 0) (hi := 14) (offs := #[75, 82, 89, 96, 103, 108, 115, 137, 159, 168, 177, 187, 197, 202, 207]) (n := 75) (off := 202) (tgt := 203) (by decide +kernel) (by rw [hw13]; decide) rfl (by decide) ?_
    refine rr_go hC bk_X11_told_203_207 (l' := [(0, .ref 0), (1, .int x)]) (st' := [.int (nI es)]) (w' := (W_M (mv len fa hd dd sd sg es a wr) M)) rfl ?_
    exact rr_reti hC (by decide +kernel) (by rw [if_neg hw0, if_neg hw1, if_neg hw2, if_neg hw3, if_neg hw4, if_neg hw5, if_neg hw6, if_neg hw7, if_neg hw8, if_neg hw9, if_neg hw10, if_neg hw11, if_neg hw12, if_pos hw13]) (by rfl) ⟨Nat.zero_le _, Nat.zero_le _⟩
  by_cases hw14 : x = 14
  · refine rr_tab hC 14 (dflt := 212) (lo := 0) (hi := 14) (offs := #[75, 82, 89, 96, 103, 108, 115, 137, 159, 168, 177, 187, 197, 202, 207]) (n := 75) (off := 207) (tgt := 208) (by decide +kernel) (by rw [hw14]; decide) rfl (by decide) ?_
    refine rr_go hC bk_X11_told_208_212 (l' := [(0, .ref 0), (1, .int x)]) (st' := [.int (nI dd)]) (w' := (W_M (mv len fa hd dd sd sg es a wr) M)) rfl ?_
    exact rr_reti hC (by decide +kernel) (by rw [if_neg hw0, if_neg hw1, if_neg hw2, if_neg hw3, if_neg hw4, if_neg hw5, if_neg hw6, if_neg hw7, if_neg hw8, if_neg hw9, if_neg hw10, if_neg hw11, if_neg hw12, if_neg hw13, if_pos hw14]) (by rfl) ⟨Nat.zero_le _, Nat.zero_le _⟩
  have hdf : x.toInt < 0 ∨ 14 < x.toInt := by
    have z0 : ¬ x.toInt = 0 := fun e => hw0 (Int32.toInt_inj.mp (e.trans (by decide)))
    have z1 : ¬ x.toInt = 1 := fun e => hw1 (Int32.toInt_inj.mp (e.trans (by decide)))
    have z2 : ¬ x.toInt = 2 := fun e => hw2 (Int32.toInt_inj.mp (e.trans (by decide)))
    have z3 : ¬ x.toInt = 3 := fun e => hw3 (Int32.toInt_inj.mp (e.trans (by decide)))
    have z4 : ¬ x.toInt = 4 := fun e => hw4 (Int32.toInt_inj.mp (e.trans (by decide)))
    have z5 : ¬ x.toInt = 5 := fun e => hw5 (Int32.toInt_inj.mp (e.trans (by decide)))
    have z6 : ¬ x.toInt = 6 := fun e => hw6 (Int32.toInt_inj.mp (e.trans (by decide)))
    have z7 : ¬ x.toInt = 7 := fun e => hw7 (Int32.toInt_inj.mp (e.trans (by decide)))
    have z8 : ¬ x.toInt = 8 := fun e => hw8 (Int32.toInt_inj.mp (e.trans (by decide)))
    have z9 : ¬ x.toInt = 9 := fun e => hw9 (Int32.toInt_inj.mp (e.trans (by decide)))
    have z10 : ¬ x.toInt = 10 := fun e => hw10 (Int32.toInt_inj.mp (e.trans (by decide)))
    have z11 : ¬ x.toInt = 11 := fun e => hw11 (Int32.toInt_inj.mp (e.trans (by decide)))
    have z12 : ¬ x.toInt = 12 := fun e => hw12 (Int32.toInt_inj.mp (e.trans (by decide)))
    have z13 : ¬ x.toInt = 13 := fun e => hw13 (Int32.toInt_inj.mp (e.trans (by decide)))
    have z14 : ¬ x.toInt = 14 := fun e => hw14 (Int32.toInt_inj.mp (e.trans (by decide)))
    omega
  refine rr_tabd hC (dflt := 212) (lo := 0) (hi := 14) (offs := #[75, 82, 89, 96, 103, 108, 115, 137, 159, 168, 177, 187, 197, 202, 207]) (n := 75) (tgt := 213) (by decide +kernel) hdf ?_
  refine rr_go hC bk_X11_told_213_215 (l' := [(0, .ref 0), (1, .int x)]) (st' := [.int (-1000000002)]) (w' := (W_M (mv len fa hd dd sd sg es a wr) M)) rfl ?_
  exact rr_reti hC (by decide +kernel) (by rw [if_neg hw0, if_neg hw1, if_neg hw2, if_neg hw3, if_neg hw4, if_neg hw5, if_neg hw6, if_neg hw7, if_neg hw8, if_neg hw9, if_neg hw10, if_neg hw11, if_neg hw12, if_neg hw13, if_neg hw14]) (by rfl) ⟨Nat.zero_le _, Nat.zero_le _⟩
