/-! the model: nextPlan -/
theorem m_dlo {x r : Nat} (h : x % r + 1 < r) : (x + 1) % r = x % r + 1 ∧ (x + 1) / r = x / r := by
  have e := Nat.div_add_mod x r
  have e2 : x + 1 = r * (x / r) + (x % r + 1) := by omega
  constructor
  · conv => lhs; rw [e2]
    rw [Nat.mul_add_mod, Nat.mod_eq_of_lt h]
  · conv => lhs; rw [e2]
    rw [Nat.mul_add_div (by omega), Nat.div_eq_of_lt h, Nat.add_zero]
theorem m_dhi {x r : Nat} (hr : 0 < r) (h : ¬ x % r + 1 < r) : (x + 1) % r = 0 ∧ (x + 1) / r = x / r + 1 := by
  have e := Nat.div_add_mod x r
  have h2 := Nat.mod_lt x hr
  have e2 : x + 1 = r * (x / r + 1) := by rw [Nat.mul_add, Nat.mul_one]; omega
  constructor
  · conv => lhs; rw [e2]
    exact Nat.mul_mod_right _ _
  · conv => lhs; rw [e2]
    exact Nat.mul_div_cancel_left _ hr
theorem m_cb {cc x : Nat} (kc : Nat) (h : x % cc + 1 < cc) : (x + 1) % cc = x % cc + 1 ∧ (x + 1) / cc % kc = x / cc % kc ∧ (x + 1) / cc / kc = x / cc / kc := by
  obtain ⟨a, b⟩ := m_dlo h
  rw [a, b]
  exact ⟨rfl, rfl, rfl⟩
theorem m_ca {cc kc x : Nat} (hc : 0 < cc) (h : ¬ x % cc + 1 < cc) (h2 : x / cc % kc + 1 < kc) : (x + 1) % cc = 0 ∧ (x + 1) / cc % kc = x / cc % kc + 1 ∧ (x + 1) / cc / kc = x / cc / kc := by
  obtain ⟨a, b⟩ := m_dhi hc h
  obtain ⟨c, d⟩ := m_dlo h2
  rw [a, b, c, d]
  exact ⟨rfl, rfl, rfl⟩
theorem m_co {cc kc x : Nat} (hc : 0 < cc) (hk : 0 < kc) (h : ¬ x % cc + 1 < cc) (h2 : ¬ x / cc % kc + 1 < kc) : (x + 1) % cc = 0 ∧ (x + 1) / cc % kc = 0 ∧ (x + 1) / cc / kc = x / cc / kc + 1 := by
  obtain ⟨a, b⟩ := m_dhi hc h
  obtain ⟨c, d⟩ := m_dhi hk h2
  rw [a, b, c, d]
  exact ⟨rfl, rfl, rfl⟩
/-- what is left of e when j places are taken from its end -/
def m_r (cc kc : Nat) : Nat → Nat → Nat
  | 0, e => e
  | j + 1, e => m_r cc kc j e / cc / kc
theorem m_r_s (cc kc j e : Nat) : m_r cc kc (j + 1) e = m_r cc kc j e / cc / kc := rfl
def m_who (cc kc sz e p : Nat) : Nat := m_r cc kc (sz - 1 - p) e / cc % kc
def m_whe (cc kc sz e p : Nat) : Nat := m_r cc kc (sz - 1 - p) e % cc
theorem m_who_lt {cc kc : Nat} (hk : 0 < kc) (sz e p : Nat) : m_who cc kc sz e p < kc := Nat.mod_lt _ hk
theorem m_whe_lt {cc kc : Nat} (hc : 0 < cc) (sz e p : Nat) : m_whe cc kc sz e p < cc := Nat.mod_lt _ hc
theorem bk_X11_nextPlan_0_3 : rr_chk mX11_nextPlan [(.iload_n 1, 0, 1, 0), (.iconst 1, 1, 0, 0), (.isub, 0, 0, 0)] 0 3 = true := by decide +kernel
theorem bk_X11_nextPlan_3_4 : rr_chk mX11_nextPlan [(.istore_n 2, 0, 2, 0)] 3 4 = true := by decide +kernel
theorem bk_X11_nextPlan_4_5 : rr_chk mX11_nextPlan [(.iload_n 2, 0, 2, 0)] 4 5 = true := by decide +kernel
theorem bk_X11_nextPlan_8_15 : rr_chk mX11_nextPlan [(.aload_n 0, 0, 0, 0), (.getfield 69, 0, 11, 27), (.iload_n 2, 0, 2, 0), (.dup2, 0, 0, 0), (.iaload, 0, 0, 0)] 8 15 = true := by decide +kernel
theorem bk_X11_nextPlan_15_24 : rr_chk mX11_nextPlan [(.iconst 1, 1, 0, 0), (.iadd, 0, 0, 0), (.iastore, 0, 0, 0), (.aload_n 0, 0, 0, 0), (.getfield 69, 0, 11, 27), (.iload_n 2, 0, 2, 0), (.iaload, 0, 0, 0)] 15 24 = true := by decide +kernel
theorem bk_X11_nextPlan_24_30 : rr_chk mX11_nextPlan [(.aload_n 0, 0, 0, 0), (.getfield 17, 0, 11, 3), (.iconst 1, 1, 0, 0), (.iaload, 0, 1, 0)] 24 30 = true := by decide +kernel
theorem bk_X11_nextPlan_35_49 : rr_chk mX11_nextPlan [(.aload_n 0, 0, 0, 0), (.getfield 69, 0, 11, 27), (.iload_n 2, 0, 2, 0), (.iconst 0, 0, 0, 0), (.iastore, 0, 0, 0), (.aload_n 0, 0, 0, 0), (.getfield 66, 0, 11, 26), (.iload_n 2, 0, 2, 0), (.dup2, 0, 0, 0), (.iaload, 0, 0, 0)] 35 49 = true := by decide +kernel
theorem bk_X11_nextPlan_49_53 : rr_chk mX11_nextPlan [(.iconst 1, 1, 0, 0), (.iadd, 0, 0, 0), (.iastore, 0, 0, 0), (.aload_n 0, 0, 0, 0)] 49 53 = true := by decide +kernel
theorem bk_X11_nextPlan_53_58 : rr_chk mX11_nextPlan [(.getfield 66, 0, 11, 26), (.iload_n 2, 0, 2, 0), (.iaload, 0, 0, 0)] 53 58 = true := by decide +kernel
theorem bk_X11_nextPlan_58_64 : rr_chk mX11_nextPlan [(.aload_n 0, 0, 0, 0), (.getfield 17, 0, 11, 3), (.iconst 2, 2, 0, 0), (.iaload, 0, 2, 0)] 58 64 = true := by decide +kernel
theorem bk_X11_nextPlan_69_76 : rr_chk mX11_nextPlan [(.aload_n 0, 0, 0, 0), (.getfield 66, 0, 11, 26), (.iload_n 2, 0, 2, 0), (.iconst 0, 0, 0, 0), (.iastore, 0, 0, 0)] 69 76 = true := by decide +kernel
theorem bk_X11_nextPlan_76_4 : rr_chk mX11_nextPlan [(.iinc 2 (-1), (-1), 2, 0), (.goto (-75), 0, 0, 0)] 76 4 = true := by decide +kernel
theorem bk_X11_nextPlan_82_83 : rr_chk mX11_nextPlan [(.iconst 0, 0, 0, 0)] 82 83 = true := by decide +kernel
theorem bk_X11_nextPlan_67_68 : rr_chk mX11_nextPlan [(.iconst 1, 1, 0, 0)] 67 68 = true := by decide +kernel
theorem bk_X11_nextPlan_33_34 : rr_chk mX11_nextPlan [(.iconst 1, 1, 0, 0)] 33 34 = true := by decide +kernel
set_option maxRecDepth 100000 in
set_option maxHeartbeats 4000000 in
theorem m_nextPlan1 (len : Nat) (fa : Int32) (hd : Bool) (dd : Nat) (sd : Int32) (sg es a : Nat) (wr : Int32) (M : Nat → Nat → Int32) (tc wd cc kc : Nat) (G : Nat → Nat → Int32) (hG : m_G M G tc wd cc kc) (e : Nat) (htc : tc ≤ 12) (hcc : cc ≤ 9) (hkc : kc ≤ 6) (hc0 : 0 < cc) (hk0 : 0 < kc) (he : m_r cc kc 1 e = 0) (hA : ∀ p, p < 1 → M 17 p = nI (m_who cc kc 1 e p) ∧ M 18 p = nI (m_whe cc kc 1 e p)) : rr_CP mX11_nextPlan 0 [.ref 0, .int 1] (W_M (mv len fa hd dd sd sg es a wr) M) 0 0 (fun r w' => r = some (rr_b (decide (m_r cc kc 1 (e + 1) = 0))) ∧ ∃ f w : Nat → Int32, (m_r cc kc 1 (e + 1) = 0 → ∀ p, p < 1 → f p = nI (m_who cc kc 1 (e + 1) p) ∧ w p = nI (m_whe cc kc 1 (e + 1) p)) ∧ w' = (W_M (mv len fa hd dd sd sg es a wr) (va_up (va_up M 17 f) 18 w))) := by
  refine rr_CP.of (n := 1) fX11_nextPlan.1 rfl rfl (fun Z hC => ?_)
  show rr_J Z 3 0 0 (rr_MP Z 0 0 (fun r w' => r = some (rr_b (decide (m_r cc kc 1 (e + 1) = 0))) ∧ ∃ f w : Nat → Int32, (m_r cc kc 1 (e + 1) = 0 → ∀ p, p < 1 → f p = nI (m_who cc kc 1 (e + 1) p) ∧ w p = nI (m_whe cc kc 1 (e + 1) p)) ∧ w' = (W_M (mv len fa hd dd sd sg es a wr) (va_up (va_up M 17 f) 18 w)))) 0 [(0, .ref 0), (1, .int 1)] [] (W_M (mv len fa hd dd sd sg es a wr) M)
  have hk0 : 0 < kc := hk0
  have hc0 : 0 < cc := hc0
  obtain ⟨b0, hb0⟩ : ∃ z, z = m_r cc kc 0 e % cc := ⟨_, rfl⟩
  obtain ⟨a0, ha0⟩ : ∃ z, z = m_r cc kc 0 e / cc % kc := ⟨_, rfl⟩
  have hbl0 : b0 < cc := by rw [hb0]; exact Nat.mod_lt _ hc0
  have hal0 : a0 < kc := by rw [ha0]; exact Nat.mod_lt _ hk0
  have hF0_0 : M 17 0 = nI a0 := by rw [(hA 0 (by omega)).1, ha0]; rfl
  have hW0_0 : M 18 0 = nI b0 := by rw [(hA 0 (by omega)).2, hb0]; rfl
  refine rr_go hC bk_X11_nextPlan_0_3 (l' := [(0, .ref 0), (1, .int 1)]) (st' := [.int (1 - 1)]) (w' := (W_M (mv len fa hd dd sd sg es a wr) M)) rfl ?_
  rw [show (1 : Int32) - 1 = 0 from by decide]
  refine rr_go hC bk_X11_nextPlan_3_4 (l' := [(0, .ref 0), (1, .int 1), (2, .int 0)]) (st' := []) (w' := (W_M (mv len fa hd dd sd sg es a wr) M)) rfl ?_
  refine rr_go hC bk_X11_nextPlan_4_5 (l' := [(0, .ref 0), (1, .int 1), (2, .int 0)]) (st' := [.int 0]) (w' := (W_M (mv len fa hd dd sd sg es a wr) M)) rfl ?_
  refine rr_if_lt hC (off := 77) (tgt := 82) (by decide +kernel) (fun h5 => by  exact absurd h5 (by decide)) (fun h5 => ?_)
  refine rr_go hC bk_X11_nextPlan_8_15 (l' := [(0, .ref 0), (1, .int 1), (2, .int 0)]) (st' := [.int (M 18 0), .int 0, .ref 19]) (w' := (W_M (mv len fa hd dd sd sg es a wr) M)) rfl ?_
  rw [hW0_0]
  refine rr_go hC bk_X11_nextPlan_15_24 (l' := [(0, .ref 0), (1, .int 1), (2, .int 0)]) (st' := [.int ((upd (M 18) 0 ((nI b0) + 1)) 0)]) (w' := (W_M (mv len fa hd dd sd sg es a wr) (va_up M 18 (upd (M 18) 0 ((nI b0) + 1))))) rfl ?_
  rw [pk_us, nI_1]
  refine rr_cast (l' := [(0, .ref 0), (1, .int 1), (2, .int 0)]) rfl (st' := [.int (nI (b0 + 1))]) rfl (w' := (W_M (mv len fa hd dd sd sg es a wr) (va_up M 18 (upd (M 18) 0 (nI (b0 + 1)))))) rfl ?_
  refine rr_go hC bk_X11_nextPlan_24_30 (l' := [(0, .ref 0), (1, .int 1), (2, .int 0)]) (st' := [.int (M 1 1), .int (nI (b0 + 1))]) (w' := (W_M (mv len fa hd dd sd sg es a wr) (va_up M 18 (upd (M 18) 0 (nI (b0 + 1)))))) rfl ?_
  rw [show (M 1 1 : Int32) = nI cc from hG.2.1]
  refine rr_icmp_ge hC (off := 5) (tgt := 35) (by decide +kernel) (fun h30 => ?_) (fun h30 => ?_)
  · rw [rr_nn_le (by omega) (by omega)] at h30
    have gb0 := h30
    refine rr_go hC bk_X11_nextPlan_35_49 (l' := [(0, .ref 0), (1, .int 1), (2, .int 0)]) (st' := [.int (M 17 0), .int 0, .ref 18]) (w' := (W_M (mv len fa hd dd sd sg es a wr) (va_up M 18 (upd (upd (M 18) 0 (nI (b0 + 1))) 0 0)))) rfl ?_
    rw [hF0_0]
    refine rr_go hC bk_X11_nextPlan_49_53 (l' := [(0, .ref 0), (1, .int 1), (2, .int 0)]) (st' := [.ref 0]) (w' := (W_M (mv len fa hd dd sd sg es a wr) (va_up (va_up M 18 (upd (upd (M 18) 0 (nI (b0 + 1))) 0 0)) 17 (upd (M 17) 0 ((nI a0) + 1))))) rfl ?_
    refine rr_go hC bk_X11_nextPlan_53_58 (l' := [(0, .ref 0), (1, .int 1), (2, .int 0)]) (st' := [.int ((upd (M 17) 0 ((nI a0) + 1)) 0)]) (w' := (W_M (mv len fa hd dd sd sg es a wr) (va_up (va_up M 18 (upd (upd (M 18) 0 (nI (b0 + 1))) 0 0)) 17 (upd (M 17) 0 ((nI a0) + 1))))) rfl ?_
    rw [pk_us, nI_1]
    refine rr_cast (l' := [(0, .ref 0), (1, .int 1), (2, .int 0)]) rfl (st' := [.int (nI (a0 + 1))]) rfl (w' := (W_M (mv len fa hd dd sd sg es a wr) (va_up (va_up M 18 (upd (upd (M 18) 0 (nI (b0 + 1))) 0 0)) 17 (upd (M 17) 0 (nI (a0 + 1)))))) rfl ?_
    refine rr_go hC bk_X11_nextPlan_58_64 (l' := [(0, .ref 0), (1, .int 1), (2, .int 0)]) (st' := [.int (M 1 2), .int (nI (a0 + 1))]) (w' := (W_M (mv len fa hd dd sd sg es a wr) (va_up (va_up M 18 (upd (upd (M 18) 0 (nI (b0 + 1))) 0 0)) 17 (upd (M 17) 0 (nI (a0 + 1)))))) rfl ?_
    rw [show (M 1 2 : Int32) = nI kc from hG.2.2.1]
    refine rr_icmp_ge hC (off := 5) (tgt := 69) (by decide +kernel) (fun h64 => ?_) (fun h64 => ?_)
    · rw [rr_nn_le (by omega) (by omega)] at h64
      have ga0 := h64
      refine rr_go hC bk_X11_nextPlan_69_76 (l' := [(0, .ref 0), (1, .int 1), (2, .int 0)]) (st' := []) (w' := (W_M (mv len fa hd dd sd sg es a wr) (va_up (va_up M 18 (upd (upd (M 18) 0 (nI (b0 + 1))) 0 0)) 17 (upd (upd (M 17) 0 (nI (a0 + 1))) 0 0)))) rfl ?_
      refine rr_go hC bk_X11_nextPlan_76_4 (l' := [(0, .ref 0), (1, .int 1), (2, .int (0 + (-1)))]) (st' := []) (w' := (W_M (mv len fa hd dd sd sg es a wr) (va_up (va_up M 18 (upd (upd (M 18) 0 (nI (b0 + 1))) 0 0)) 17 (upd (upd (M 17) 0 (nI (a0 + 1))) 0 0)))) rfl ?_
      rw [show ((0 : Int32) + (-1)) = (-1) from by decide]
      obtain ⟨F1, hF1⟩ : ∃ z, z = upd (upd (M 17) 0 (nI (a0 + 1))) 0 0 := ⟨_, rfl⟩
      have hF1_0 : F1 0 = nI 0 := by rw [hF1, pk_us]; rfl
      obtain ⟨W1, hW1⟩ : ∃ z, z = upd (upd (M 18) 0 (nI (b0 + 1))) 0 0 := ⟨_, rfl⟩
      have hW1_0 : W1 0 = nI 0 := by rw [hW1, pk_us]; rfl
      refine rr_cast (l' := [(0, .ref 0), (1, .int 1), (2, .int (-1))]) rfl (st' := []) rfl (w' := (W_M (mv len fa hd dd sd sg es a wr) (va_up (va_up M 17 F1) 18 W1))) (by rw [hF1, hW1] <;> rfl) ?_
      refine rr_go hC bk_X11_nextPlan_4_5 (l' := [(0, .ref 0), (1, .int 1), (2, .int (-1))]) (st' := [.int (-1)]) (w' := (W_M (mv len fa hd dd sd sg es a wr) (va_up (va_up M 17 F1) 18 W1))) rfl ?_
      refine rr_if_lt hC (off := 77) (tgt := 82) (by decide +kernel) (fun h5 => ?_) (fun h5 => by  exact absurd h5 (by decide))
      have y0 : m_r cc kc 0 (e + 1) = m_r cc kc 0 e + 1 := rfl
      obtain ⟨u0, v0, w0⟩ := m_co hc0 hk0 (x := m_r cc kc 0 e) (by rw [← hb0]; omega) (by rw [← ha0]; omega)
      rw [← y0] at u0 v0 w0
      have y1 : m_r cc kc 1 (e + 1) = m_r cc kc 1 e + 1 := w0
      refine rr_go hC bk_X11_nextPlan_82_83 (l' := [(0, .ref 0), (1, .int 1), (2, .int (-1))]) (st' := [.int 0]) (w' := (W_M (mv len fa hd dd sd sg es a wr) (va_up (va_up M 17 F1) 18 W1))) rfl ?_
      exact rr_retzP hC (by decide +kernel) (Or.inl rfl) (by refine ⟨by rw [decide_eq_false (by rw [y1]; omega)]; rfl, F1, W1, fun z => absurd z (by rw [y1]; omega), rfl⟩) ⟨Nat.zero_le _, Nat.zero_le _⟩
    · rw [rr_nn_le (by omega) (by omega)] at h64
      have ga0 := h64
      have y0 : m_r cc kc 0 (e + 1) = m_r cc kc 0 e + 1 := rfl
      obtain ⟨u0, v0, w0⟩ := m_ca hc0 (x := m_r cc kc 0 e) (by rw [← hb0]; omega) (by rw [← ha0]; omega)
      rw [← y0] at u0 v0 w0
      have y1 : m_r cc kc 1 (e + 1) = m_r cc kc 1 e := w0
      refine rr_go hC bk_X11_nextPlan_67_68 (l' := [(0, .ref 0), (1, .int 1), (2, .int 0)]) (st' := [.int 1]) (w' := (W_M (mv len fa hd dd sd sg es a wr) (va_up (va_up M 18 (upd (upd (M 18) 0 (nI (b0 + 1))) 0 0)) 17 (upd (M 17) 0 (nI (a0 + 1)))))) rfl ?_
      exact rr_retzP hC (by decide +kernel) (Or.inr rfl) (by refine ⟨by rw [decide_eq_true (by rw [y1]; exact he)]; rfl, (upd (M 17) 0 (nI (a0 + 1))), (upd (upd (M 18) 0 (nI (b0 + 1))) 0 0), fun _ p hp => ?_, rfl⟩; obtain rfl : p = 0 := (by omega); exact ⟨by show _ = nI (m_r cc kc 0 (e + 1) / cc % kc); rw [v0]; rw [pk_us, ha0], by show _ = nI (m_r cc kc 0 (e + 1) % cc); rw [u0]; exact pk_us⟩) ⟨Nat.zero_le _, Nat.zero_le _⟩
  · rw [rr_nn_le (by omega) (by omega)] at h30
    have gb0 := h30
    have y0 : m_r cc kc 0 (e + 1) = m_r cc kc 0 e + 1 := rfl
    obtain ⟨u0, v0, w0⟩ := m_cb (x := m_r cc kc 0 e) kc (by rw [← hb0]; omega)
    rw [← y0] at u0 v0 w0
    have y1 : m_r cc kc 1 (e + 1) = m_r cc kc 1 e := w0
    refine rr_go hC bk_X11_nextPlan_33_34 (l' := [(0, .ref 0), (1, .int 1), (2, .int 0)]) (st' := [.int 1]) (w' := (W_M (mv len fa hd dd sd sg es a wr) (va_up M 18 (upd (M 18) 0 (nI (b0 + 1)))))) rfl ?_
    exact rr_retzP hC (by decide +kernel) (Or.inr rfl) (by refine ⟨by rw [decide_eq_true (by rw [y1]; exact he)]; rfl, (M 17), (upd (M 18) 0 (nI (b0 + 1))), fun _ p hp => ?_, rfl⟩; obtain rfl : p = 0 := (by omega); exact ⟨by show _ = nI (m_r cc kc 0 (e + 1) / cc % kc); rw [v0]; exact hF0_0.trans (by rw [ha0]), by show _ = nI (m_r cc kc 0 (e + 1) % cc); rw [u0]; rw [pk_us, hb0]⟩) ⟨Nat.zero_le _, Nat.zero_le _⟩
theorem bk_X11_nextPlan_8_15_5 : rr_chk mX11_nextPlan [(.aload_n 0, 0, 0, 0), (.getfield 69, 0, 11, 27), (.iload_n 2, 0, 2, 0), (.dup2, 0, 0, 0), (.iaload, 0, 1, 0)] 8 15 = true := by decide +kernel
theorem bk_X11_nextPlan_15_24_7 : rr_chk mX11_nextPlan [(.iconst 1, 1, 0, 0), (.iadd, 0, 0, 0), (.iastore, 0, 1, 0), (.aload_n 0, 0, 0, 0), (.getfield 69, 0, 11, 27), (.iload_n 2, 0, 2, 0), (.iaload, 0, 1, 0)] 15 24 = true := by decide +kernel
theorem bk_X11_nextPlan_35_49_10 : rr_chk mX11_nextPlan [(.aload_n 0, 0, 0, 0), (.getfield 69, 0, 11, 27), (.iload_n 2, 0, 2, 0), (.iconst 0, 0, 0, 0), (.iastore, 0, 1, 0), (.aload_n 0, 0, 0, 0), (.getfield 66, 0, 11, 26), (.iload_n 2, 0, 2, 0), (.dup2, 0, 0, 0), (.iaload, 0, 1, 0)] 35 49 = true := by decide +kernel
theorem bk_X11_nextPlan_49_53_4 : rr_chk mX11_nextPlan [(.iconst 1, 1, 0, 0), (.iadd, 0, 0, 0), (.iastore, 0, 1, 0), (.aload_n 0, 0, 0, 0)] 49 53 = true := by decide +kernel
theorem bk_X11_nextPlan_53_58_3 : rr_chk mX11_nextPlan [(.getfield 66, 0, 11, 26), (.iload_n 2, 0, 2, 0), (.iaload, 0, 1, 0)] 53 58 = true := by decide +kernel
theorem bk_X11_nextPlan_69_76_5 : rr_chk mX11_nextPlan [(.aload_n 0, 0, 0, 0), (.getfield 66, 0, 11, 26), (.iload_n 2, 0, 2, 0), (.iconst 0, 0, 0, 0), (.iastore, 0, 1, 0)] 69 76 = true := by decide +kernel
set_option maxRecDepth 100000 in
set_option maxHeartbeats 4000000 in
theorem m_nextPlan2 (len : Nat) (fa : Int32) (hd : Bool) (dd : Nat) (sd : Int32) (sg es a : Nat) (wr : Int32) (M : Nat → Nat → Int32) (tc wd cc kc : Nat) (G : Nat → Nat → Int32) (hG : m_G M G tc wd cc kc) (e : Nat) (htc : tc ≤ 12) (hcc : cc ≤ 9) (hkc : kc ≤ 6) (hc0 : 0 < cc) (hk0 : 0 < kc) (he : m_r cc kc 2 e = 0) (hA : ∀ p, p < 2 → M 17 p = nI (m_who cc kc 2 e p) ∧ M 18 p = nI (m_whe cc kc 2 e p)) : rr_CP mX11_nextPlan 0 [.ref 0, .int 2] (W_M (mv len fa hd dd sd sg es a wr) M) 0 0 (fun r w' => r = some (rr_b (decide (m_r cc kc 2 (e + 1) = 0))) ∧ ∃ f w : Nat → Int32, (m_r cc kc 2 (e + 1) = 0 → ∀ p, p < 2 → f p = nI (m_who cc kc 2 (e + 1) p) ∧ w p = nI (m_whe cc kc 2 (e + 1) p)) ∧ w' = (W_M (mv len fa hd dd sd sg es a wr) (va_up (va_up M 17 f) 18 w))) := by
  refine rr_CP.of (n := 1) fX11_nextPlan.1 rfl rfl (fun Z hC => ?_)
  show rr_J Z 3 0 0 (rr_MP Z 0 0 (fun r w' => r = some (rr_b (decide (m_r cc kc 2 (e + 1) = 0))) ∧ ∃ f w : Nat → Int32, (m_r cc kc 2 (e + 1) = 0 → ∀ p, p < 2 → f p = nI (m_who cc kc 2 (e + 1) p) ∧ w p = nI (m_whe cc kc 2 (e + 1) p)) ∧ w' = (W_M (mv len fa hd dd sd sg es a wr) (va_up (va_up M 17 f) 18 w)))) 0 [(0, .ref 0), (1, .int 2)] [] (W_M (mv len fa hd dd sd sg es a wr) M)
  have hk0 : 0 < kc := hk0
  have hc0 : 0 < cc := hc0
  obtain ⟨b0, hb0⟩ : ∃ z, z = m_r cc kc 0 e % cc := ⟨_, rfl⟩
  obtain ⟨a0, ha0⟩ : ∃ z, z = m_r cc kc 0 e / cc % kc := ⟨_, rfl⟩
  have hbl0 : b0 < cc := by rw [hb0]; exact Nat.mod_lt _ hc0
  have hal0 : a0 < kc := by rw [ha0]; exact Nat.mod_lt _ hk0
  have hF0_1 : M 17 1 = nI a0 := by rw [(hA 1 (by omega)).1, ha0]; rfl
  have hW0_1 : M 18 1 = nI b0 := by rw [(hA 1 (by omega)).2, hb0]; rfl
  obtain ⟨b1, hb1⟩ : ∃ z, z = m_r cc kc 1 e % cc := ⟨_, rfl⟩
  obtain ⟨a1, ha1⟩ : ∃ z, z = m_r cc kc 1 e / cc % kc := ⟨_, rfl⟩
  have hbl1 : b1 < cc := by rw [hb1]; exact Nat.mod_lt _ hc0
  have hal1 : a1 < kc := by rw [ha1]; exact Nat.mod_lt _ hk0
  have hF0_0 : M 17 0 = nI a1 := by rw [(hA 0 (by omega)).1, ha1]; rfl
  have hW0_0 : M 18 0 = nI b1 := by rw [(hA 0 (by omega)).2, hb1]; rfl
  refine rr_go hC bk_X11_nextPlan_0_3 (l' := [(0, .ref 0), (1, .int 2)]) (st' := [.int (2 - 1)]) (w' := (W_M (mv len fa hd dd sd sg es a wr) M)) rfl ?_
  rw [show (2 : Int32) - 1 = 1 from by decide]
  refine rr_go hC bk_X11_nextPlan_3_4 (l' := [(0, .ref 0), (1, .int 2), (2, .int 1)]) (st' := []) (w' := (W_M (mv len fa hd dd sd sg es a wr) M)) rfl ?_
  refine rr_go hC bk_X11_nextPlan_4_5 (l' := [(0, .ref 0), (1, .int 2), (2, .int 1)]) (st' := [.int 1]) (w' := (W_M (mv len fa hd dd sd sg es a wr) M)) rfl ?_
  refine rr_if_lt hC (off := 77) (tgt := 82) (by decide +kernel) (fun h5 => by  exact absurd h5 (by decide)) (fun h5 => ?_)
  refine rr_go hC bk_X11_nextPlan_8_15_5 (l' := [(0, .ref 0), (1, .int 2), (2, .int 1)]) (st' := [.int (M 18 1), .int 1, .ref 19]) (w' := (W_M (mv len fa hd dd sd sg es a wr) M)) rfl ?_
  rw [hW0_1]
  refine rr_go hC bk_X11_nextPlan_15_24_7 (l' := [(0, .ref 0), (1, .int 2), (2, .int 1)]) (st' := [.int ((upd (M 18) 1 ((nI b0) + 1)) 1)]) (w' := (W_M (mv len fa hd dd sd sg es a wr) (va_up M 18 (upd (M 18) 1 ((nI b0) + 1))))) rfl ?_
  rw [pk_us, nI_1]
  refine rr_cast (l' := [(0, .ref 0), (1, .int 2), (2, .int 1)]) rfl (st' := [.int (nI (b0 + 1))]) rfl (w' := (W_M (mv len fa hd dd sd sg es a wr) (va_up M 18 (upd (M 18) 1 (nI (b0 + 1)))))) rfl ?_
  refine rr_go hC bk_X11_nextPlan_24_30 (l' := [(0, .ref 0), (1, .int 2), (2, .int 1)]) (st' := [.int (M 1 1), .int (nI (b0 + 1))]) (w' := (W_M (mv len fa hd dd sd sg es a wr) (va_up M 18 (upd (M 18) 1 (nI (b0 + 1)))))) rfl ?_
  rw [show (M 1 1 : Int32) = nI cc from hG.2.1]
  refine rr_icmp_ge hC (off := 5) (tgt := 35) (by decide +kernel) (fun h30 => ?_) (fun h30 => ?_)
  · rw [rr_nn_le (by omega) (by omega)] at h30
    have gb0 := h30
    refine rr_go hC bk_X11_nextPlan_35_49_10 (l' := [(0, .ref 0), (1, .int 2), (2, .int 1)]) (st' := [.int (M 17 1), .int 1, .ref 18]) (w' := (W_M (mv len fa hd dd sd sg es a wr) (va_up M 18 (upd (upd (M 18) 1 (nI (b0 + 1))) 1 0)))) rfl ?_
    rw [hF0_1]
    refine rr_go hC bk_X11_nextPlan_49_53_4 (l' := [(0, .ref 0), (1, .int 2), (2, .int 1)]) (st' := [.ref 0]) (w' := (W_M (mv len fa hd dd sd sg es a wr) (va_up (va_up M 18 (upd (upd (M 18) 1 (nI (b0 + 1))) 1 0)) 17 (upd (M 17) 1 ((nI a0) + 1))))) rfl ?_
    refine rr_go hC bk_X11_nextPlan_53_58_3 (l' := [(0, .ref 0), (1, .int 2), (2, .int 1)]) (st' := [.int ((upd (M 17) 1 ((nI a0) + 1)) 1)]) (w' := (W_M (mv len fa hd dd sd sg es a wr) (va_up (va_up M 18 (upd (upd (M 18) 1 (nI (b0 + 1))) 1 0)) 17 (upd (M 17) 1 ((nI a0) + 1))))) rfl ?_
    rw [pk_us, nI_1]
    refine rr_cast (l' := [(0, .ref 0), (1, .int 2), (2, .int 1)]) rfl (st' := [.int (nI (a0 + 1))]) rfl (w' := (W_M (mv len fa hd dd sd sg es a wr) (va_up (va_up M 18 (upd (upd (M 18) 1 (nI (b0 + 1))) 1 0)) 17 (upd (M 17) 1 (nI (a0 + 1)))))) rfl ?_
    refine rr_go hC bk_X11_nextPlan_58_64 (l' := [(0, .ref 0), (1, .int 2), (2, .int 1)]) (st' := [.int (M 1 2), .int (nI (a0 + 1))]) (w' := (W_M (mv len fa hd dd sd sg es a wr) (va_up (va_up M 18 (upd (upd (M 18) 1 (nI (b0 + 1))) 1 0)) 17 (upd (M 17) 1 (nI (a0 + 1)))))) rfl ?_
    rw [show (M 1 2 : Int32) = nI kc from hG.2.2.1]
    refine rr_icmp_ge hC (off := 5) (tgt := 69) (by decide +kernel) (fun h64 => ?_) (fun h64 => ?_)
    · rw [rr_nn_le (by omega) (by omega)] at h64
      have ga0 := h64
      refine rr_go hC bk_X11_nextPlan_69_76_5 (l' := [(0, .ref 0), (1, .int 2), (2, .int 1)]) (st' := []) (w' := (W_M (mv len fa hd dd sd sg es a wr) (va_up (va_up M 18 (upd (upd (M 18) 1 (nI (b0 + 1))) 1 0)) 17 (upd (upd (M 17) 1 (nI (a0 + 1))) 1 0)))) rfl ?_
      refine rr_go hC bk_X11_nextPlan_76_4 (l' := [(0, .ref 0), (1, .int 2), (2, .int (1 + (-1)))]) (st' := []) (w' := (W_M (mv len fa hd dd sd sg es a wr) (va_up (va_up M 18 (upd (upd (M 18) 1 (nI (b0 + 1))) 1 0)) 17 (upd (upd (M 17) 1 (nI (a0 + 1))) 1 0)))) rfl ?_
      rw [show ((1 : Int32) + (-1)) = 0 from by decide]
      obtain ⟨F1, hF1⟩ : ∃ z, z = upd (upd (M 17) 1 (nI (a0 + 1))) 1 0 := ⟨_, rfl⟩
      have hF1_0 : F1 0 = nI a1 := by rw [hF1, pk_un (by omega), pk_un (by omega)]; exact hF0_0
      have hF1_1 : F1 1 = nI 0 := by rw [hF1, pk_us]; rfl
      obtain ⟨W1, hW1⟩ : ∃ z, z = upd (upd (M 18) 1 (nI (b0 + 1))) 1 0 := ⟨_, rfl⟩
      have hW1_0 : W1 0 = nI b1 := by rw [hW1, pk_un (by omega), pk_un (by omega)]; exact hW0_0
      have hW1_1 : W1 1 = nI 0 := by rw [hW1, pk_us]; rfl
      refine rr_cast (l' := [(0, .ref 0), (1, .int 2), (2, .int 0)]) rfl (st' := []) rfl (w' := (W_M (mv len fa hd dd sd sg es a wr) (va_up (va_up M 17 F1) 18 W1))) (by rw [hF1, hW1] <;> rfl) ?_
      refine rr_go hC bk_X11_nextPlan_4_5 (l' := [(0, .ref 0), (1, .int 2), (2, .int 0)]) (st' := [.int 0]) (w' := (W_M (mv len fa hd dd sd sg es a wr) (va_up (va_up M 17 F1) 18 W1))) rfl ?_
      refine rr_if_lt hC (off := 77) (tgt := 82) (by decide +kernel) (fun h5 => by  exact absurd h5 (by decide)) (fun h5 => ?_)
      refine rr_go hC bk_X11_nextPlan_8_15 (l' := [(0, .ref 0), (1, .int 2), (2, .int 0)]) (st' := [.int (W1 0), .int 0, .ref 19]) (w' := (W_M (mv len fa hd dd sd sg es a wr) (va_up (va_up M 17 F1) 18 W1))) rfl ?_
      rw [hW1_0]
      refine rr_go hC bk_X11_nextPlan_15_24 (l' := [(0, .ref 0), (1, .int 2), (2, .int 0)]) (st' := [.int ((upd W1 0 ((nI b1) + 1)) 0)]) (w' := (W_M (mv len fa hd dd sd sg es a wr) (va_up (va_up M 17 F1) 18 (upd W1 0 ((nI b1) + 1))))) rfl ?_
      rw [pk_us, nI_1]
      refine rr_cast (l' := [(0, .ref 0), (1, .int 2), (2, .int 0)]) rfl (st' := [.int (nI (b1 + 1))]) rfl (w' := (W_M (mv len fa hd dd sd sg es a wr) (va_up (va_up M 17 F1) 18 (upd W1 0 (nI (b1 + 1)))))) rfl ?_
      refine rr_go hC bk_X11_nextPlan_24_30 (l' := [(0, .ref 0), (1, .int 2), (2, .int 0)]) (st' := [.int (M 1 1), .int (nI (b1 + 1))]) (w' := (W_M (mv len fa hd dd sd sg es a wr) (va_up (va_up M 17 F1) 18 (upd W1 0 (nI (b1 + 1)))))) rfl ?_
      rw [show (M 1 1 : Int32) = nI cc from hG.2.1]
      refine rr_icmp_ge hC (off := 5) (tgt := 35) (by decide +kernel) (fun h30 => ?_) (fun h30 => ?_)
      · rw [rr_nn_le (by omega) (by omega)] at h30
        have gb1 := h30
        refine rr_go hC bk_X11_nextPlan_35_49 (l' := [(0, .ref 0), (1, .int 2), (2, .int 0)]) (st' := [.int (F1 0), .int 0, .ref 18]) (w' := (W_M (mv len fa hd dd sd sg es a wr) (va_up (va_up M 17 F1) 18 (upd (upd W1 0 (nI (b1 + 1))) 0 0)))) rfl ?_
        rw [hF1_0]
        refine rr_go hC bk_X11_nextPlan_49_53 (l' := [(0, .ref 0), (1, .int 2), (2, .int 0)]) (st' := [.ref 0]) (w' := (W_M (mv len fa hd dd sd sg es a wr) (va_up (va_up M 18 (upd (upd W1 0 (nI (b1 + 1))) 0 0)) 17 (upd F1 0 ((nI a1) + 1))))) rfl ?_
        refine rr_go hC bk_X11_nextPlan_53_58 (l' := [(0, .ref 0), (1, .int 2), (2, .int 0)]) (st' := [.int ((upd F1 0 ((nI a1) + 1)) 0)]) (w' := (W_M (mv len fa hd dd sd sg es a wr) (va_up (va_up M 18 (upd (upd W1 0 (nI (b1 + 1))) 0 0)) 17 (upd F1 0 ((nI a1) + 1))))) rfl ?_
        rw [pk_us, nI_1]
        refine rr_cast (l' := [(0, .ref 0), (1, .int 2), (2, .int 0)]) rfl (st' := [.int (nI (a1 + 1))]) rfl (w' := (W_M (mv len fa hd dd sd sg es a wr) (va_up (va_up M 18 (upd (upd W1 0 (nI (b1 + 1))) 0 0)) 17 (upd F1 0 (nI (a1 + 1)))))) rfl ?_
        refine rr_go hC bk_X11_nextPlan_58_64 (l' := [(0, .ref 0), (1, .int 2), (2, .int 0)]) (st' := [.int (M 1 2), .int (nI (a1 + 1))]) (w' := (W_M (mv len fa hd dd sd sg es a wr) (va_up (va_up M 18 (upd (upd W1 0 (nI (b1 + 1))) 0 0)) 17 (upd F1 0 (nI (a1 + 1)))))) rfl ?_
        rw [show (M 1 2 : Int32) = nI kc from hG.2.2.1]
        refine rr_icmp_ge hC (off := 5) (tgt := 69) (by decide +kernel) (fun h64 => ?_) (fun h64 => ?_)
        · rw [rr_nn_le (by omega) (by omega)] at h64
          have ga1 := h64
          refine rr_go hC bk_X11_nextPlan_69_76 (l' := [(0, .ref 0), (1, .int 2), (2, .int 0)]) (st' := []) (w' := (W_M (mv len fa hd dd sd sg es a wr) (va_up (va_up M 18 (upd (upd W1 0 (nI (b1 + 1))) 0 0)) 17 (upd (upd F1 0 (nI (a1 + 1))) 0 0)))) rfl ?_
          refine rr_go hC bk_X11_nextPlan_76_4 (l' := [(0, .ref 0), (1, .int 2), (2, .int (0 + (-1)))]) (st' := []) (w' := (W_M (mv len fa hd dd sd sg es a wr) (va_up (va_up M 18 (upd (upd W1 0 (nI (b1 + 1))) 0 0)) 17 (upd (upd F1 0 (nI (a1 + 1))) 0 0)))) rfl ?_
          rw [show ((0 : Int32) + (-1)) = (-1) from by decide]
          obtain ⟨F2, hF2⟩ : ∃ z, z = upd (upd F1 0 (nI (a1 + 1))) 0 0 := ⟨_, rfl⟩
          have hF2_0 : F2 0 = nI 0 := by rw [hF2, pk_us]; rfl
          have hF2_1 : F2 1 = nI 0 := by rw [hF2, pk_un (by omega), pk_un (by omega)]; exact hF1_1
          obtain ⟨W2, hW2⟩ : ∃ z, z = upd (upd W1 0 (nI (b1 + 1))) 0 0 := ⟨_, rfl⟩
          have hW2_0 : W2 0 = nI 0 := by rw [hW2, pk_us]; rfl
          have hW2_1 : W2 1 = nI 0 := by rw [hW2, pk_un (by omega), pk_un (by omega)]; exact hW1_1
          refine rr_cast (l' := [(0, .ref 0), (1, .int 2), (2, .int (-1))]) rfl (st' := []) rfl (w' := (W_M (mv len fa hd dd sd sg es a wr) (va_up (va_up M 17 F2) 18 W2))) (by rw [hF2, hW2] <;> rfl) ?_
          refine rr_go hC bk_X11_nextPlan_4_5 (l' := [(0, .ref 0), (1, .int 2), (2, .int (-1))]) (st' := [.int (-1)]) (w' := (W_M (mv len fa hd dd sd sg es a wr) (va_up (va_up M 17 F2) 18 W2))) rfl ?_
          refine rr_if_lt hC (off := 77) (tgt := 82) (by decide +kernel) (fun h5 => ?_) (fun h5 => by  exact absurd h5 (by decide))
          have y0 : m_r cc kc 0 (e + 1) = m_r cc kc 0 e + 1 := rfl
          obtain ⟨u0, v0, w0⟩ := m_co hc0 hk0 (x := m_r cc kc 0 e) (by rw [← hb0]; omega) (by rw [← ha0]; omega)
          rw [← y0] at u0 v0 w0
          have y1 : m_r cc kc 1 (e + 1) = m_r cc kc 1 e + 1 := w0
          obtain ⟨u1, v1, w1⟩ := m_co hc0 hk0 (x := m_r cc kc 1 e) (by rw [← hb1]; omega) (by rw [← ha1]; omega)
          rw [← y1] at u1 v1 w1
          have y2 : m_r cc kc 2 (e + 1) = m_r cc kc 2 e + 1 := w1
          refine rr_go hC bk_X11_nextPlan_82_83 (l' := [(0, .ref 0), (1, .int 2), (2, .int (-1))]) (st' := [.int 0]) (w' := (W_M (mv len fa hd dd sd sg es a wr) (va_up (va_up M 17 F2) 18 W2))) rfl ?_
          exact rr_retzP hC (by decide +kernel) (Or.inl rfl) (by refine ⟨by rw [decide_eq_false (by rw [y2]; omega)]; rfl, F2, W2, fun z => absurd z (by rw [y2]; omega), rfl⟩) ⟨Nat.zero_le _, Nat.zero_le _⟩
        · rw [rr_nn_le (by omega) (by omega)] at h64
          have ga1 := h64
          have y0 : m_r cc kc 0 (e + 1) = m_r cc kc 0 e + 1 := rfl
          obtain ⟨u0, v0, w0⟩ := m_co hc0 hk0 (x := m_r cc kc 0 e) (by rw [← hb0]; omega) (by rw [← ha0]; omega)
          rw [← y0] at u0 v0 w0
          have y1 : m_r cc kc 1 (e + 1) = m_r cc kc 1 e + 1 := w0
          obtain ⟨u1, v1, w1⟩ := m_ca hc0 (x := m_r cc kc 1 e) (by rw [← hb1]; omega) (by rw [← ha1]; omega)
          rw [← y1] at u1 v1 w1
          have y2 : m_r cc kc 2 (e + 1) = m_r cc kc 2 e := w1
          refine rr_go hC bk_X11_nextPlan_67_68 (l' := [(0, .ref 0), (1, .int 2), (2, .int 0)]) (st' := [.int 1]) (w' := (W_M (mv len fa hd dd sd sg es a wr) (va_up (va_up M 18 (upd (upd W1 0 (nI (b1 + 1))) 0 0)) 17 (upd F1 0 (nI (a1 + 1)))))) rfl ?_
          exact rr_retzP hC (by decide +kernel) (Or.inr rfl) (by refine ⟨by rw [decide_eq_true (by rw [y2]; exact he)]; rfl, (upd F1 0 (nI (a1 + 1))), (upd (upd W1 0 (nI (b1 + 1))) 0 0), fun _ p hp => ?_, rfl⟩; rcases (show p = 0 ∨ p = 1 by omega) with rfl | rfl; exact ⟨by show _ = nI (m_r cc kc 1 (e + 1) / cc % kc); rw [v1]; rw [pk_us, ha1], by show _ = nI (m_r cc kc 1 (e + 1) % cc); rw [u1]; exact pk_us⟩; exact ⟨by show _ = nI (m_r cc kc 0 (e + 1) / cc % kc); rw [v0]; rw [pk_un (by omega)]; exact hF1_1, by show _ = nI (m_r cc kc 0 (e + 1) % cc); rw [u0]; rw [pk_un (by omega), pk_un (by omega)]; exact hW1_1⟩) ⟨Nat.zero_le _, Nat.zero_le _⟩
      · rw [rr_nn_le (by omega) (by omega)] at h30
        have gb1 := h30
        have y0 : m_r cc kc 0 (e + 1) = m_r cc kc 0 e + 1 := rfl
        obtain ⟨u0, v0, w0⟩ := m_co hc0 hk0 (x := m_r cc kc 0 e) (by rw [← hb0]; omega) (by rw [← ha0]; omega)
        rw [← y0] at u0 v0 w0
        have y1 : m_r cc kc 1 (e + 1) = m_r cc kc 1 e + 1 := w0
        obtain ⟨u1, v1, w1⟩ := m_cb (x := m_r cc kc 1 e) kc (by rw [← hb1]; omega)
        rw [← y1] at u1 v1 w1
        have y2 : m_r cc kc 2 (e + 1) = m_r cc kc 2 e := w1
        refine rr_go hC bk_X11_nextPlan_33_34 (l' := [(0, .ref 0), (1, .int 2), (2, .int 0)]) (st' := [.int 1]) (w' := (W_M (mv len fa hd dd sd sg es a wr) (va_up (va_up M 17 F1) 18 (upd W1 0 (nI (b1 + 1)))))) rfl ?_
        exact rr_retzP hC (by decide +kernel) (Or.inr rfl) (by refine ⟨by rw [decide_eq_true (by rw [y2]; exact he)]; rfl, F1, (upd W1 0 (nI (b1 + 1))), fun _ p hp => ?_, rfl⟩; rcases (show p = 0 ∨ p = 1 by omega) with rfl | rfl; exact ⟨by show _ = nI (m_r cc kc 1 (e + 1) / cc % kc); rw [v1]; exact hF1_0.trans (by rw [ha1]), by show _ = nI (m_r cc kc 1 (e + 1) % cc); rw [u1]; rw [pk_us, hb1]⟩; exact ⟨by show _ = nI (m_r cc kc 0 (e + 1) / cc % kc); rw [v0]; exact hF1_1, by show _ = nI (m_r cc kc 0 (e + 1) % cc); rw [u0]; rw [pk_un (by omega)]; exact hW1_1⟩) ⟨Nat.zero_le _, Nat.zero_le _⟩
    · rw [rr_nn_le (by omega) (by omega)] at h64
      have ga0 := h64
      have y0 : m_r cc kc 0 (e + 1) = m_r cc kc 0 e + 1 := rfl
      obtain ⟨u0, v0, w0⟩ := m_ca hc0 (x := m_r cc kc 0 e) (by rw [← hb0]; omega) (by rw [← ha0]; omega)
      rw [← y0] at u0 v0 w0
      have y1 : m_r cc kc 1 (e + 1) = m_r cc kc 1 e := w0
      have u1 : m_r cc kc 1 (e + 1) % cc = m_r cc kc 1 e % cc := by rw [y1]
      have v1 : m_r cc kc 1 (e + 1) / cc % kc = m_r cc kc 1 e / cc % kc := by rw [y1]
      have y2 : m_r cc kc 2 (e + 1) = m_r cc kc 2 e := by rw [m_r_s, y1]; rfl
      refine rr_go hC bk_X11_nextPlan_67_68 (l' := [(0, .ref 0), (1, .int 2), (2, .int 1)]) (st' := [.int 1]) (w' := (W_M (mv len fa hd dd sd sg es a wr) (va_up (va_up M 18 (upd (upd (M 18) 1 (nI (b0 + 1))) 1 0)) 17 (upd (M 17) 1 (nI (a0 + 1)))))) rfl ?_
      exact rr_retzP hC (by decide +kernel) (Or.inr rfl) (by refine ⟨by rw [decide_eq_true (by rw [y2]; exact he)]; rfl, (upd (M 17) 1 (nI (a0 + 1))), (upd (upd (M 18) 1 (nI (b0 + 1))) 1 0), fun _ p hp => ?_, rfl⟩; rcases (show p = 0 ∨ p = 1 by omega) with rfl | rfl; exact ⟨by show _ = nI (m_r cc kc 1 (e + 1) / cc % kc); rw [v1]; rw [pk_un (by omega)]; exact hF0_0.trans (by rw [ha1]), by show _ = nI (m_r cc kc 1 (e + 1) % cc); rw [u1]; rw [pk_un (by omega), pk_un (by omega)]; exact hW0_0.trans (by rw [hb1])⟩; exact ⟨by show _ = nI (m_r cc kc 0 (e + 1) / cc % kc); rw [v0]; rw [pk_us, ha0], by show _ = nI (m_r cc kc 0 (e + 1) % cc); rw [u0]; exact pk_us⟩) ⟨Nat.zero_le _, Nat.zero_le _⟩
  · rw [rr_nn_le (by omega) (by omega)] at h30
    have gb0 := h30
    have y0 : m_r cc kc 0 (e + 1) = m_r cc kc 0 e + 1 := rfl
    obtain ⟨u0, v0, w0⟩ := m_cb (x := m_r cc kc 0 e) kc (by rw [← hb0]; omega)
    rw [← y0] at u0 v0 w0
    have y1 : m_r cc kc 1 (e + 1) = m_r cc kc 1 e := w0
    have u1 : m_r cc kc 1 (e + 1) % cc = m_r cc kc 1 e % cc := by rw [y1]
    have v1 : m_r cc kc 1 (e + 1) / cc % kc = m_r cc kc 1 e / cc % kc := by rw [y1]
    have y2 : m_r cc kc 2 (e + 1) = m_r cc kc 2 e := by rw [m_r_s, y1]; rfl
    refine rr_go hC bk_X11_nextPlan_33_34 (l' := [(0, .ref 0), (1, .int 2), (2, .int 1)]) (st' := [.int 1]) (w' := (W_M (mv len fa hd dd sd sg es a wr) (va_up M 18 (upd (M 18) 1 (nI (b0 + 1)))))) rfl ?_
    exact rr_retzP hC (by decide +kernel) (Or.inr rfl) (by refine ⟨by rw [decide_eq_true (by rw [y2]; exact he)]; rfl, (M 17), (upd (M 18) 1 (nI (b0 + 1))), fun _ p hp => ?_, rfl⟩; rcases (show p = 0 ∨ p = 1 by omega) with rfl | rfl; exact ⟨by show _ = nI (m_r cc kc 1 (e + 1) / cc % kc); rw [v1]; exact hF0_0.trans (by rw [ha1]), by show _ = nI (m_r cc kc 1 (e + 1) % cc); rw [u1]; rw [pk_un (by omega)]; exact hW0_0.trans (by rw [hb1])⟩; exact ⟨by show _ = nI (m_r cc kc 0 (e + 1) / cc % kc); rw [v0]; exact hF0_1.trans (by rw [ha0]), by show _ = nI (m_r cc kc 0 (e + 1) % cc); rw [u0]; rw [pk_us, hb0]⟩) ⟨Nat.zero_le _, Nat.zero_le _⟩
theorem bk_X11_nextPlan_8_15_5x : rr_chk mX11_nextPlan [(.aload_n 0, 0, 0, 0), (.getfield 69, 0, 11, 27), (.iload_n 2, 0, 2, 0), (.dup2, 0, 0, 0), (.iaload, 0, 2, 0)] 8 15 = true := by decide +kernel
theorem bk_X11_nextPlan_15_24_7x : rr_chk mX11_nextPlan [(.iconst 1, 1, 0, 0), (.iadd, 0, 0, 0), (.iastore, 0, 2, 0), (.aload_n 0, 0, 0, 0), (.getfield 69, 0, 11, 27), (.iload_n 2, 0, 2, 0), (.iaload, 0, 2, 0)] 15 24 = true := by decide +kernel
theorem bk_X11_nextPlan_35_49_10x : rr_chk mX11_nextPlan [(.aload_n 0, 0, 0, 0), (.getfield 69, 0, 11, 27), (.iload_n 2, 0, 2, 0), (.iconst 0, 0, 0, 0), (.iastore, 0, 2, 0), (.aload_n 0, 0, 0, 0), (.getfield 66, 0, 11, 26), (.iload_n 2, 0, 2, 0), (.dup2, 0, 0, 0), (.iaload, 0, 2, 0)] 35 49 = true := by decide +kernel
theorem bk_X11_nextPlan_49_53_4x : rr_chk mX11_nextPlan [(.iconst 1, 1, 0, 0), (.iadd, 0, 0, 0), (.iastore, 0, 2, 0), (.aload_n 0, 0, 0, 0)] 49 53 = true := by decide +kernel
theorem bk_X11_nextPlan_53_58_3x : rr_chk mX11_nextPlan [(.getfield 66, 0, 11, 26), (.iload_n 2, 0, 2, 0), (.iaload, 0, 2, 0)] 53 58 = true := by decide +kernel
theorem bk_X11_nextPlan_69_76_5x : rr_chk mX11_nextPlan [(.aload_n 0, 0, 0, 0), (.getfield 66, 0, 11, 26), (.iload_n 2, 0, 2, 0), (.iconst 0, 0, 0, 0), (.iastore, 0, 2, 0)] 69 76 = true := by decide +kernel
set_option maxRecDepth 100000 in
set_option maxHeartbeats 4000000 in
theorem m_nextPlan3 (len : Nat) (fa : Int32) (hd : Bool) (dd : Nat) (sd : Int32) (sg es a : Nat) (wr : Int32) (M : Nat → Nat → Int32) (tc wd cc kc : Nat) (G : Nat → Nat → Int32) (hG : m_G M G tc wd cc kc) (e : Nat) (htc : tc ≤ 12) (hcc : cc ≤ 9) (hkc : kc ≤ 6) (hc0 : 0 < cc) (hk0 : 0 < kc) (he : m_r cc kc 3 e = 0) (hA : ∀ p, p < 3 → M 17 p = nI (m_who cc kc 3 e p) ∧ M 18 p = nI (m_whe cc kc 3 e p)) : rr_CP mX11_nextPlan 0 [.ref 0, .int 3] (W_M (mv len fa hd dd sd sg es a wr) M) 0 0 (fun r w' => r = some (rr_b (decide (m_r cc kc 3 (e + 1) = 0))) ∧ ∃ f w : Nat → Int32, (m_r cc kc 3 (e + 1) = 0 → ∀ p, p < 3 → f p = nI (m_who cc kc 3 (e + 1) p) ∧ w p = nI (m_whe cc kc 3 (e + 1) p)) ∧ w' = (W_M (mv len fa hd dd sd sg es a wr) (va_up (va_up M 17 f) 18 w))) := by
  refine rr_CP.of (n := 1) fX11_nextPlan.1 rfl rfl (fun Z hC => ?_)
  show rr_J Z 3 0 0 (rr_MP Z 0 0 (fun r w' => r = some (rr_b (decide (m_r cc kc 3 (e + 1) = 0))) ∧ ∃ f w : Nat → Int32, (m_r cc kc 3 (e + 1) = 0 → ∀ p, p < 3 → f p = nI (m_who cc kc 3 (e + 1) p) ∧ w p = nI (m_whe cc kc 3 (e + 1) p)) ∧ w' = (W_M (mv len fa hd dd sd sg es a wr) (va_up (va_up M 17 f) 18 w)))) 0 [(0, .ref 0), (1, .int 3)] [] (W_M (mv len fa hd dd sd sg es a wr) M)
  have hk0 : 0 < kc := hk0
  have hc0 : 0 < cc := hc0
  obtain ⟨b0, hb0⟩ : ∃ z, z = m_r cc kc 0 e % cc := ⟨_, rfl⟩
  obtain ⟨a0, ha0⟩ : ∃ z, z = m_r cc kc 0 e / cc % kc := ⟨_, rfl⟩
  have hbl0 : b0 < cc := by rw [hb0]; exact Nat.mod_lt _ hc0
  have hal0 : a0 < kc := by rw [ha0]; exact Nat.mod_lt _ hk0
  have hF0_2 : M 17 2 = nI a0 := by rw [(hA 2 (by omega)).1, ha0]; rfl
  have hW0_2 : M 18 2 = nI b0 := by rw [(hA 2 (by omega)).2, hb0]; rfl
  obtain ⟨b1, hb1⟩ : ∃ z, z = m_r cc kc 1 e % cc := ⟨_, rfl⟩
  obtain ⟨a1, ha1⟩ : ∃ z, z = m_r cc kc 1 e / cc % kc := ⟨_, rfl⟩
  have hbl1 : b1 < cc := by rw [hb1]; exact Nat.mod_lt _ hc0
  have hal1 : a1 < kc := by rw [ha1]; exact Nat.mod_lt _ hk0
  have hF0_1 : M 17 1 = nI a1 := by rw [(hA 1 (by omega)).1, ha1]; rfl
  have hW0_1 : M 18 1 = nI b1 := by rw [(hA 1 (by omega)).2, hb1]; rfl
  obtain ⟨b2, hb2⟩ : ∃ z, z = m_r cc kc 2 e % cc := ⟨_, rfl⟩
  obtain ⟨a2, ha2⟩ : ∃ z, z = m_r cc kc 2 e / cc % kc := ⟨_, rfl⟩
  have hbl2 : b2 < cc := by rw [hb2]; exact Nat.mod_lt _ hc0
  have hal2 : a2 < kc := by rw [ha2]; exact Nat.mod_lt _ hk0
  have hF0_0 : M 17 0 = nI a2 := by rw [(hA 0 (by omega)).1, ha2]; rfl
  have hW0_0 : M 18 0 = nI b2 := by rw [(hA 0 (by omega)).2, hb2]; rfl
  refine rr_go hC bk_X11_nextPlan_0_3 (l' := [(0, .ref 0), (1, .int 3)]) (st' := [.int (3 - 1)]) (w' := (W_M (mv len fa hd dd sd sg es a wr) M)) rfl ?_
  rw [show (3 : Int32) - 1 = 2 from by decide]
  refine rr_go hC bk_X11_nextPlan_3_4 (l' := [(0, .ref 0), (1, .int 3), (2, .int 2)]) (st' := []) (w' := (W_M (mv len fa hd dd sd sg es a wr) M)) rfl ?_
  refine rr_go hC bk_X11_nextPlan_4_5 (l' := [(0, .ref 0), (1, .int 3), (2, .int 2)]) (st' := [.int 2]) (w' := (W_M (mv len fa hd dd sd sg es a wr) M)) rfl ?_
  refine rr_if_lt hC (off := 77) (tgt := 82) (by decide +kernel) (fun h5 => by  exact absurd h5 (by decide)) (fun h5 => ?_)
  refine rr_go hC bk_X11_nextPlan_8_15_5x (l' := [(0, .ref 0), (1, .int 3), (2, .int 2)]) (st' := [.int (M 18 2), .int 2, .ref 19]) (w' := (W_M (mv len fa hd dd sd sg es a wr) M)) rfl ?_
  rw [hW0_2]
  refine rr_go hC bk_X11_nextPlan_15_24_7x (l' := [(0, .ref 0), (1, .int 3), (2, .int 2)]) (st' := [.int ((upd (M 18) 2 ((nI b0) + 1)) 2)]) (w' := (W_M (mv len fa hd dd sd sg es a wr) (va_up M 18 (upd (M 18) 2 ((nI b0) + 1))))) rfl ?_
  rw [pk_us, nI_1]
  refine rr_cast (l' := [(0, .ref 0), (1, .int 3), (2, .int 2)]) rfl (st' := [.int (nI (b0 + 1))]) rfl (w' := (W_M (mv len fa hd dd sd sg es a wr) (va_up M 18 (upd (M 18) 2 (nI (b0 + 1)))))) rfl ?_
  refine rr_go hC bk_X11_nextPlan_24_30 (l' := [(0, .ref 0), (1, .int 3), (2, .int 2)]) (st' := [.int (M 1 1), .int (nI (b0 + 1))]) (w' := (W_M (mv len fa hd dd sd sg es a wr) (va_up M 18 (upd (M 18) 2 (nI (b0 + 1)))))) rfl ?_
  rw [show (M 1 1 : Int32) = nI cc from hG.2.1]
  refine rr_icmp_ge hC (off := 5) (tgt := 35) (by decide +kernel) (fun h30 => ?_) (fun h30 => ?_)
  · rw [rr_nn_le (by omega) (by omega)] at h30
    have gb0 := h30
    refine rr_go hC bk_X11_nextPlan_35_49_10x (l' := [(0, .ref 0), (1, .int 3), (2, .int 2)]) (st' := [.int (M 17 2), .int 2, .ref 18]) (w' := (W_M (mv len fa hd dd sd sg es a wr) (va_up M 18 (upd (upd (M 18) 2 (nI (b0 + 1))) 2 0)))) rfl ?_
    rw [hF0_2]
    refine rr_go hC bk_X11_nextPlan_49_53_4x (l' := [(0, .ref 0), (1, .int 3), (2, .int 2)]) (st' := [.ref 0]) (w' := (W_M (mv len fa hd dd sd sg es a wr) (va_up (va_up M 18 (upd (upd (M 18) 2 (nI (b0 + 1))) 2 0)) 17 (upd (M 17) 2 ((nI a0) + 1))))) rfl ?_
    refine rr_go hC bk_X11_nextPlan_53_58_3x (l' := [(0, .ref 0), (1, .int 3), (2, .int 2)]) (st' := [.int ((upd (M 17) 2 ((nI a0) + 1)) 2)]) (w' := (W_M (mv len fa hd dd sd sg es a wr) (va_up (va_up M 18 (upd (upd (M 18) 2 (nI (b0 + 1))) 2 0)) 17 (upd (M 17) 2 ((nI a0) + 1))))) rfl ?_
    rw [pk_us, nI_1]
    refine rr_cast (l' := [(0, .ref 0), (1, .int 3), (2, .int 2)]) rfl (st' := [.int (nI (a0 + 1))]) rfl (w' := (W_M (mv len fa hd dd sd sg es a wr) (va_up (va_up M 18 (upd (upd (M 18) 2 (nI (b0 + 1))) 2 0)) 17 (upd (M 17) 2 (nI (a0 + 1)))))) rfl ?_
    refine rr_go hC bk_X11_nextPlan_58_64 (l' := [(0, .ref 0), (1, .int 3), (2, .int 2)]) (st' := [.int (M 1 2), .int (nI (a0 + 1))]) (w' := (W_M (mv len fa hd dd sd sg es a wr) (va_up (va_up M 18 (upd (upd (M 18) 2 (nI (b0 + 1))) 2 0)) 17 (upd (M 17) 2 (nI (a0 + 1)))))) rfl ?_
    rw [show (M 1 2 : Int32) = nI kc from hG.2.2.1]
    refine rr_icmp_ge hC (off := 5) (tgt := 69) (by decide +kernel) (fun h64 => ?_) (fun h64 => ?_)
    · rw [rr_nn_le (by omega) (by omega)] at h64
      have ga0 := h64
      refine rr_go hC bk_X11_nextPlan_69_76_5x (l' := [(0, .ref 0), (1, .int 3), (2, .int 2)]) (st' := []) (w' := (W_M (mv len fa hd dd sd sg es a wr) (va_up (va_up M 18 (upd (upd (M 18) 2 (nI (b0 + 1))) 2 0)) 17 (upd (upd (M 17) 2 (nI (a0 + 1))) 2 0)))) rfl ?_
      refine rr_go hC bk_X11_nextPlan_76_4 (l' := [(0, .ref 0), (1, .int 3), (2, .int (2 + (-1)))]) (st' := []) (w' := (W_M (mv len fa hd dd sd sg es a wr) (va_up (va_up M 18 (upd (upd (M 18) 2 (nI (b0 + 1))) 2 0)) 17 (upd (upd (M 17) 2 (nI (a0 + 1))) 2 0)))) rfl ?_
      rw [show ((2 : Int32) + (-1)) = 1 from by decide]
      obtain ⟨F1, hF1⟩ : ∃ z, z = upd (upd (M 17) 2 (nI (a0 + 1))) 2 0 := ⟨_, rfl⟩
      have hF1_0 : F1 0 = nI a2 := by rw [hF1, pk_un (by omega), pk_un (by omega)]; exact hF0_0
      have hF1_1 : F1 1 = nI a1 := by rw [hF1, pk_un (by omega), pk_un (by omega)]; exact hF0_1
      have hF1_2 : F1 2 = nI 0 := by rw [hF1, pk_us]; rfl
      obtain ⟨W1, hW1⟩ : ∃ z, z = upd (upd (M 18) 2 (nI (b0 + 1))) 2 0 := ⟨_, rfl⟩
      have hW1_0 : W1 0 = nI b2 := by rw [hW1, pk_un (by omega), pk_un (by omega)]; exact hW0_0
      have hW1_1 : W1 1 = nI b1 := by rw [hW1, pk_un (by omega), pk_un (by omega)]; exact hW0_1
      have hW1_2 : W1 2 = nI 0 := by rw [hW1, pk_us]; rfl
      refine rr_cast (l' := [(0, .ref 0), (1, .int 3), (2, .int 1)]) rfl (st' := []) rfl (w' := (W_M (mv len fa hd dd sd sg es a wr) (va_up (va_up M 17 F1) 18 W1))) (by rw [hF1, hW1] <;> rfl) ?_
      refine rr_go hC bk_X11_nextPlan_4_5 (l' := [(0, .ref 0), (1, .int 3), (2, .int 1)]) (st' := [.int 1]) (w' := (W_M (mv len fa hd dd sd sg es a wr) (va_up (va_up M 17 F1) 18 W1))) rfl ?_
      refine rr_if_lt hC (off := 77) (tgt := 82) (by decide +kernel) (fun h5 => by  exact absurd h5 (by decide)) (fun h5 => ?_)
      refine rr_go hC bk_X11_nextPlan_8_15_5 (l' := [(0, .ref 0), (1, .int 3), (2, .int 1)]) (st' := [.int (W1 1), .int 1, .ref 19]) (w' := (W_M (mv len fa hd dd sd sg es a wr) (va_up (va_up M 17 F1) 18 W1))) rfl ?_
      rw [hW1_1]
      refine rr_go hC bk_X11_nextPlan_15_24_7 (l' := [(0, .ref 0), (1, .int 3), (2, .int 1)]) (st' := [.int ((upd W1 1 ((nI b1) + 1)) 1)]) (w' := (W_M (mv len fa hd dd sd sg es a wr) (va_up (va_up M 17 F1) 18 (upd W1 1 ((nI b1) + 1))))) rfl ?_
      rw [pk_us, nI_1]
      refine rr_cast (l' := [(0, .ref 0), (1, .int 3), (2, .int 1)]) rfl (st' := [.int (nI (b1 + 1))]) rfl (w' := (W_M (mv len fa hd dd sd sg es a wr) (va_up (va_up M 17 F1) 18 (upd W1 1 (nI (b1 + 1)))))) rfl ?_
      refine rr_go hC bk_X11_nextPlan_24_30 (l' := [(0, .ref 0), (1, .int 3), (2, .int 1)]) (st' := [.int (M 1 1), .int (nI (b1 + 1))]) (w' := (W_M (mv len fa hd dd sd sg es a wr) (va_up (va_up M 17 F1) 18 (upd W1 1 (nI (b1 + 1)))))) rfl ?_
      rw [show (M 1 1 : Int32) = nI cc from hG.2.1]
      refine rr_icmp_ge hC (off := 5) (tgt := 35) (by decide +kernel) (fun h30 => ?_) (fun h30 => ?_)
      · rw [rr_nn_le (by omega) (by omega)] at h30
        have gb1 := h30
        refine rr_go hC bk_X11_nextPlan_35_49_10 (l' := [(0, .ref 0), (1, .int 3), (2, .int 1)]) (st' := [.int (F1 1), .int 1, .ref 18]) (w' := (W_M (mv len fa hd dd sd sg es a wr) (va_up (va_up M 17 F1) 18 (upd (upd W1 1 (nI (b1 + 1))) 1 0)))) rfl ?_
        rw [hF1_1]
        refine rr_go hC bk_X11_nextPlan_49_53_4 (l' := [(0, .ref 0), (1, .int 3), (2, .int 1)]) (st' := [.ref 0]) (w' := (W_M (mv len fa hd dd sd sg es a wr) (va_up (va_up M 18 (upd (upd W1 1 (nI (b1 + 1))) 1 0)) 17 (upd F1 1 ((nI a1) + 1))))) rfl ?_
        refine rr_go hC bk_X11_nextPlan_53_58_3 (l' := [(0, .ref 0), (1, .int 3), (2, .int 1)]) (st' := [.int ((upd F1 1 ((nI a1) + 1)) 1)]) (w' := (W_M (mv len fa hd dd sd sg es a wr) (va_up (va_up M 18 (upd (upd W1 1 (nI (b1 + 1))) 1 0)) 17 (upd F1 1 ((nI a1) + 1))))) rfl ?_
        rw [pk_us, nI_1]
        refine rr_cast (l' := [(0, .ref 0), (1, .int 3), (2, .int 1)]) rfl (st' := [.int (nI (a1 + 1))]) rfl (w' := (W_M (mv len fa hd dd sd sg es a wr) (va_up (va_up M 18 (upd (upd W1 1 (nI (b1 + 1))) 1 0)) 17 (upd F1 1 (nI (a1 + 1)))))) rfl ?_
        refine rr_go hC bk_X11_nextPlan_58_64 (l' := [(0, .ref 0), (1, .int 3), (2, .int 1)]) (st' := [.int (M 1 2), .int (nI (a1 + 1))]) (w' := (W_M (mv len fa hd dd sd sg es a wr) (va_up (va_up M 18 (upd (upd W1 1 (nI (b1 + 1))) 1 0)) 17 (upd F1 1 (nI (a1 + 1)))))) rfl ?_
        rw [show (M 1 2 : Int32) = nI kc from hG.2.2.1]
        refine rr_icmp_ge hC (off := 5) (tgt := 69) (by decide +kernel) (fun h64 => ?_) (fun h64 => ?_)
        · rw [rr_nn_le (by omega) (by omega)] at h64
          have ga1 := h64
          refine rr_go hC bk_X11_nextPlan_69_76_5 (l' := [(0, .ref 0), (1, .int 3), (2, .int 1)]) (st' := []) (w' := (W_M (mv len fa hd dd sd sg es a wr) (va_up (va_up M 18 (upd (upd W1 1 (nI (b1 + 1))) 1 0)) 17 (upd (upd F1 1 (nI (a1 + 1))) 1 0)))) rfl ?_
          refine rr_go hC bk_X11_nextPlan_76_4 (l' := [(0, .ref 0), (1, .int 3), (2, .int (1 + (-1)))]) (st' := []) (w' := (W_M (mv len fa hd dd sd sg es a wr) (va_up (va_up M 18 (upd (upd W1 1 (nI (b1 + 1))) 1 0)) 17 (upd (upd F1 1 (nI (a1 + 1))) 1 0)))) rfl ?_
          rw [show ((1 : Int32) + (-1)) = 0 from by decide]
          obtain ⟨F2, hF2⟩ : ∃ z, z = upd (upd F1 1 (nI (a1 + 1))) 1 0 := ⟨_, rfl⟩
          have hF2_0 : F2 0 = nI a2 := by rw [hF2, pk_un (by omega), pk_un (by omega)]; exact hF1_0
          have hF2_1 : F2 1 = nI 0 := by rw [hF2, pk_us]; rfl
          have hF2_2 : F2 2 = nI 0 := by rw [hF2, pk_un (by omega), pk_un (by omega)]; exact hF1_2
          obtain ⟨W2, hW2⟩ : ∃ z, z = upd (upd W1 1 (nI (b1 + 1))) 1 0 := ⟨_, rfl⟩
          have hW2_0 : W2 0 = nI b2 := by rw [hW2, pk_un (by omega), pk_un (by omega)]; exact hW1_0
          have hW2_1 : W2 1 = nI 0 := by rw [hW2, pk_us]; rfl
          have hW2_2 : W2 2 = nI 0 := by rw [hW2, pk_un (by omega), pk_un (by omega)]; exact hW1_2
          refine rr_cast (l' := [(0, .ref 0), (1, .int 3), (2, .int 0)]) rfl (st' := []) rfl (w' := (W_M (mv len fa hd dd sd sg es a wr) (va_up (va_up M 17 F2) 18 W2))) (by rw [hF2, hW2] <;> rfl) ?_
          refine rr_go hC bk_X11_nextPlan_4_5 (l' := [(0, .ref 0), (1, .int 3), (2, .int 0)]) (st' := [.int 0]) (w' := (W_M (mv len fa hd dd sd sg es a wr) (va_up (va_up M 17 F2) 18 W2))) rfl ?_
          refine rr_if_lt hC (off := 77) (tgt := 82) (by decide +kernel) (fun h5 => by  exact absurd h5 (by decide)) (fun h5 => ?_)
          refine rr_go hC bk_X11_nextPlan_8_15 (l' := [(0, .ref 0), (1, .int 3), (2, .int 0)]) (st' := [.int (W2 0), .int 0, .ref 19]) (w' := (W_M (mv len fa hd dd sd sg es a wr) (va_up (va_up M 17 F2) 18 W2))) rfl ?_
          rw [hW2_0]
          refine rr_go hC bk_X11_nextPlan_15_24 (l' := [(0, .ref 0), (1, .int 3), (2, .int 0)]) (st' := [.int ((upd W2 0 ((nI b2) + 1)) 0)]) (w' := (W_M (mv len fa hd dd sd sg es a wr) (va_up (va_up M 17 F2) 18 (upd W2 0 ((nI b2) + 1))))) rfl ?_
          rw [pk_us, nI_1]
          refine rr_cast (l' := [(0, .ref 0), (1, .int 3), (2, .int 0)]) rfl (st' := [.int (nI (b2 + 1))]) rfl (w' := (W_M (mv len fa hd dd sd sg es a wr) (va_up (va_up M 17 F2) 18 (upd W2 0 (nI (b2 + 1)))))) rfl ?_
          refine rr_go hC bk_X11_nextPlan_24_30 (l' := [(0, .ref 0), (1, .int 3), (2, .int 0)]) (st' := [.int (M 1 1), .int (nI (b2 + 1))]) (w' := (W_M (mv len fa hd dd sd sg es a wr) (va_up (va_up M 17 F2) 18 (upd W2 0 (nI (b2 + 1)))))) rfl ?_
          rw [show (M 1 1 : Int32) = nI cc from hG.2.1]
          refine rr_icmp_ge hC (off := 5) (tgt := 35) (by decide +kernel) (fun h30 => ?_) (fun h30 => ?_)
          · rw [rr_nn_le (by omega) (by omega)] at h30
            have gb2 := h30
            refine rr_go hC bk_X11_nextPlan_35_49 (l' := [(0, .ref 0), (1, .int 3), (2, .int 0)]) (st' := [.int (F2 0), .int 0, .ref 18]) (w' := (W_M (mv len fa hd dd sd sg es a wr) (va_up (va_up M 17 F2) 18 (upd (upd W2 0 (nI (b2 + 1))) 0 0)))) rfl ?_
            rw [hF2_0]
            refine rr_go hC bk_X11_nextPlan_49_53 (l' := [(0, .ref 0), (1, .int 3), (2, .int 0)]) (st' := [.ref 0]) (w' := (W_M (mv len fa hd dd sd sg es a wr) (va_up (va_up M 18 (upd (upd W2 0 (nI (b2 + 1))) 0 0)) 17 (upd F2 0 ((nI a2) + 1))))) rfl ?_
            refine rr_go hC bk_X11_nextPlan_53_58 (l' := [(0, .ref 0), (1, .int 3), (2, .int 0)]) (st' := [.int ((upd F2 0 ((nI a2) + 1)) 0)]) (w' := (W_M (mv len fa hd dd sd sg es a wr) (va_up (va_up M 18 (upd (upd W2 0 (nI (b2 + 1))) 0 0)) 17 (upd F2 0 ((nI a2) + 1))))) rfl ?_
            rw [pk_us, nI_1]
            refine rr_cast (l' := [(0, .ref 0), (1, .int 3), (2, .int 0)]) rfl (st' := [.int (nI (a2 + 1))]) rfl (w' := (W_M (mv len fa hd dd sd sg es a wr) (va_up (va_up M 18 (upd (upd W2 0 (nI (b2 + 1))) 0 0)) 17 (upd F2 0 (nI (a2 + 1)))))) rfl ?_
            refine rr_go hC bk_X11_nextPlan_58_64 (l' := [(0, .ref 0), (1, .int 3), (2, .int 0)]) (st' := [.int (M 1 2), .int (nI (a2 + 1))]) (w' := (W_M (mv len fa hd dd sd sg es a wr) (va_up (va_up M 18 (upd (upd W2 0 (nI (b2 + 1))) 0 0)) 17 (upd F2 0 (nI (a2 + 1)))))) rfl ?_
            rw [show (M 1 2 : Int32) = nI kc from hG.2.2.1]
            refine rr_icmp_ge hC (off := 5) (tgt := 69) (by decide +kernel) (fun h64 => ?_) (fun h64 => ?_)
            · rw [rr_nn_le (by omega) (by omega)] at h64
              have ga2 := h64
              refine rr_go hC bk_X11_nextPlan_69_76 (l' := [(0, .ref 0), (1, .int 3), (2, .int 0)]) (st' := []) (w' := (W_M (mv len fa hd dd sd sg es a wr) (va_up (va_up M 18 (upd (upd W2 0 (nI (b2 + 1))) 0 0)) 17 (upd (upd F2 0 (nI (a2 + 1))) 0 0)))) rfl ?_
              refine rr_go hC bk_X11_nextPlan_76_4 (l' := [(0, .ref 0), (1, .int 3), (2, .int (0 + (-1)))]) (st' := []) (w' := (W_M (mv len fa hd dd sd sg es a wr) (va_up (va_up M 18 (upd (upd W2 0 (nI (b2 + 1))) 0 0)) 17 (upd (upd F2 0 (nI (a2 + 1))) 0 0)))) rfl ?_
              rw [show ((0 : Int32) + (-1)) = (-1) from by decide]
              obtain ⟨F3, hF3⟩ : ∃ z, z = upd (upd F2 0 (nI (a2 + 1))) 0 0 := ⟨_, rfl⟩
              have hF3_0 : F3 0 = nI 0 := by rw [hF3, pk_us]; rfl
              have hF3_1 : F3 1 = nI 0 := by rw [hF3, pk_un (by omega), pk_un (by omega)]; exact hF2_1
              have hF3_2 : F3 2 = nI 0 := by rw [hF3, pk_un (by omega), pk_un (by omega)]; exact hF2_2
              obtain ⟨W3, hW3⟩ : ∃ z, z = upd (upd W2 0 (nI (b2 + 1))) 0 0 := ⟨_, rfl⟩
              have hW3_0 : W3 0 = nI 0 := by rw [hW3, pk_us]; rfl
              have hW3_1 : W3 1 = nI 0 := by rw [hW3, pk_un (by omega), pk_un (by omega)]; exact hW2_1
              have hW3_2 : W3 2 = nI 0 := by rw [hW3, pk_un (by omega), pk_un (by omega)]; exact hW2_2
              refine rr_cast (l' := [(0, .ref 0), (1, .int 3), (2, .int (-1))]) rfl (st' := []) rfl (w' := (W_M (mv len fa hd dd sd sg es a wr) (va_up (va_up M 17 F3) 18 W3))) (by rw [hF3, hW3] <;> rfl) ?_
              refine rr_go hC bk_X11_nextPlan_4_5 (l' := [(0, .ref 0), (1, .int 3), (2, .int (-1))]) (st' := [.int (-1)]) (w' := (W_M (mv len fa hd dd sd sg es a wr) (va_up (va_up M 17 F3) 18 W3))) rfl ?_
              refine rr_if_lt hC (off := 77) (tgt := 82) (by decide +kernel) (fun h5 => ?_) (fun h5 => by  exact absurd h5 (by decide))
              have y0 : m_r cc kc 0 (e + 1) = m_r cc kc 0 e + 1 := rfl
              obtain ⟨u0, v0, w0⟩ := m_co hc0 hk0 (x := m_r cc kc 0 e) (by rw [← hb0]; omega) (by rw [← ha0]; omega)
              rw [← y0] at u0 v0 w0
              have y1 : m_r cc kc 1 (e + 1) = m_r cc kc 1 e + 1 := w0
              obtain ⟨u1, v1, w1⟩ := m_co hc0 hk0 (x := m_r cc kc 1 e) (by rw [← hb1]; omega) (by rw [← ha1]; omega)
              rw [← y1] at u1 v1 w1
              have y2 : m_r cc kc 2 (e + 1) = m_r cc kc 2 e + 1 := w1
              obtain ⟨u2, v2, w2⟩ := m_co hc0 hk0 (x := m_r cc kc 2 e) (by rw [← hb2]; omega) (by rw [← ha2]; omega)
              rw [← y2] at u2 v2 w2
              have y3 : m_r cc kc 3 (e + 1) = m_r cc kc 3 e + 1 := w2
              refine rr_go hC bk_X11_nextPlan_82_83 (l' := [(0, .ref 0), (1, .int 3), (2, .int (-1))]) (st' := [.int 0]) (w' := (W_M (mv len fa hd dd sd sg es a wr) (va_up (va_up M 17 F3) 18 W3))) rfl ?_
              exact rr_retzP hC (by decide +kernel) (Or.inl rfl) (by refine ⟨by rw [decide_eq_false (by rw [y3]; omega)]; rfl, F3, W3, fun z => absurd z (by rw [y3]; omega), rfl⟩) ⟨Nat.zero_le _, Nat.zero_le _⟩
            · rw [rr_nn_le (by omega) (by omega)] at h64
              have ga2 := h64
              have y0 : m_r cc kc 0 (e + 1) = m_r cc kc 0 e + 1 := rfl
              obtain ⟨u0, v0, w0⟩ := m_co hc0 hk0 (x := m_r cc kc 0 e) (by rw [← hb0]; omega) (by rw [← ha0]; omega)
              rw [← y0] at u0 v0 w0
              have y1 : m_r cc kc 1 (e + 1) = m_r cc kc 1 e + 1 := w0
              obtain ⟨u1, v1, w1⟩ := m_co hc0 hk0 (x := m_r cc kc 1 e) (by rw [← hb1]; omega) (by rw [← ha1]; omega)
              rw [← y1] at u1 v1 w1
              have y2 : m_r cc kc 2 (e + 1) = m_r cc kc 2 e + 1 := w1
              obtain ⟨u2, v2, w2⟩ := m_ca hc0 (x := m_r cc kc 2 e) (by rw [← hb2]; omega) (by rw [← ha2]; omega)
              rw [← y2] at u2 v2 w2
              have y3 : m_r cc kc 3 (e + 1) = m_r cc kc 3 e := w2
              refine rr_go hC bk_X11_nextPlan_67_68 (l' := [(0, .ref 0), (1, .int 3), (2, .int 0)]) (st' := [.int 1]) (w' := (W_M (mv len fa hd dd sd sg es a wr) (va_up (va_up M 18 (upd (upd W2 0 (nI (b2 + 1))) 0 0)) 17 (upd F2 0 (nI (a2 + 1)))))) rfl ?_
              exact rr_retzP hC (by decide +kernel) (Or.inr rfl) (by refine ⟨by rw [decide_eq_true (by rw [y3]; exact he)]; rfl, (upd F2 0 (nI (a2 + 1))), (upd (upd W2 0 (nI (b2 + 1))) 0 0), fun _ p hp => ?_, rfl⟩; rcases (show p = 0 ∨ p = 1 ∨ p = 2 by omega) with rfl | rfl | rfl; exact ⟨by show _ = nI (m_r cc kc 2 (e + 1) / cc % kc); rw [v2]; rw [pk_us, ha2], by show _ = nI (m_r cc kc 2 (e + 1) % cc); rw [u2]; exact pk_us⟩; exact ⟨by show _ = nI (m_r cc kc 1 (e + 1) / cc % kc); rw [v1]; rw [pk_un (by omega)]; exact hF2_1, by show _ = nI (m_r cc kc 1 (e + 1) % cc); rw [u1]; rw [pk_un (by omega), pk_un (by omega)]; exact hW2_1⟩; exact ⟨by show _ = nI (m_r cc kc 0 (e + 1) / cc % kc); rw [v0]; rw [pk_un (by omega)]; exact hF2_2, by show _ = nI (m_r cc kc 0 (e + 1) % cc); rw [u0]; rw [pk_un (by omega), pk_un (by omega)]; exact hW2_2⟩) ⟨Nat.zero_le _, Nat.zero_le _⟩
          · rw [rr_nn_le (by omega) (by omega)] at h30
            have gb2 := h30
            have y0 : m_r cc kc 0 (e + 1) = m_r cc kc 0 e + 1 := rfl
            obtain ⟨u0, v0, w0⟩ := m_co hc0 hk0 (x := m_r cc kc 0 e) (by rw [← hb0]; omega) (by rw [← ha0]; omega)
            rw [← y0] at u0 v0 w0
            have y1 : m_r cc kc 1 (e + 1) = m_r cc kc 1 e + 1 := w0
            obtain ⟨u1, v1, w1⟩ := m_co hc0 hk0 (x := m_r cc kc 1 e) (by rw [← hb1]; omega) (by rw [← ha1]; omega)
            rw [← y1] at u1 v1 w1
            have y2 : m_r cc kc 2 (e + 1) = m_r cc kc 2 e + 1 := w1
            obtain ⟨u2, v2, w2⟩ := m_cb (x := m_r cc kc 2 e) kc (by rw [← hb2]; omega)
            rw [← y2] at u2 v2 w2
            have y3 : m_r cc kc 3 (e + 1) = m_r cc kc 3 e := w2
            refine rr_go hC bk_X11_nextPlan_33_34 (l' := [(0, .ref 0), (1, .int 3), (2, .int 0)]) (st' := [.int 1]) (w' := (W_M (mv len fa hd dd sd sg es a wr) (va_up (va_up M 17 F2) 18 (upd W2 0 (nI (b2 + 1)))))) rfl ?_
            exact rr_retzP hC (by decide +kernel) (Or.inr rfl) (by refine ⟨by rw [decide_eq_true (by rw [y3]; exact he)]; rfl, F2, (upd W2 0 (nI (b2 + 1))), fun _ p hp => ?_, rfl⟩; rcases (show p = 0 ∨ p = 1 ∨ p = 2 by omega) with rfl | rfl | rfl; exact ⟨by show _ = nI (m_r cc kc 2 (e + 1) / cc % kc); rw [v2]; exact hF2_0.trans (by rw [ha2]), by show _ = nI (m_r cc kc 2 (e + 1) % cc); rw [u2]; rw [pk_us, hb2]⟩; exact ⟨by show _ = nI (m_r cc kc 1 (e + 1) / cc % kc); rw [v1]; exact hF2_1, by show _ = nI (m_r cc kc 1 (e + 1) % cc); rw [u1]; rw [pk_un (by omega)]; exact hW2_1⟩; exact ⟨by show _ = nI (m_r cc kc 0 (e + 1) / cc % kc); rw [v0]; exact hF2_2, by show _ = nI (m_r cc kc 0 (e + 1) % cc); rw [u0]; rw [pk_un (by omega)]; exact hW2_2⟩) ⟨Nat.zero_le _, Nat.zero_le _⟩
        · rw [rr_nn_le (by omega) (by omega)] at h64
          have ga1 := h64
          have y0 : m_r cc kc 0 (e + 1) = m_r cc kc 0 e + 1 := rfl
          obtain ⟨u0, v0, w0⟩ := m_co hc0 hk0 (x := m_r cc kc 0 e) (by rw [← hb0]; omega) (by rw [← ha0]; omega)
          rw [← y0] at u0 v0 w0
          have y1 : m_r cc kc 1 (e + 1) = m_r cc kc 1 e + 1 := w0
          obtain ⟨u1, v1, w1⟩ := m_ca hc0 (x := m_r cc kc 1 e) (by rw [← hb1]; omega) (by rw [← ha1]; omega)
          rw [← y1] at u1 v1 w1
          have y2 : m_r cc kc 2 (e + 1) = m_r cc kc 2 e := w1
          have u2 : m_r cc kc 2 (e + 1) % cc = m_r cc kc 2 e % cc := by rw [y2]
          have v2 : m_r cc kc 2 (e + 1) / cc % kc = m_r cc kc 2 e / cc % kc := by rw [y2]
          have y3 : m_r cc kc 3 (e + 1) = m_r cc kc 3 e := by rw [m_r_s, y2]; rfl
          refine rr_go hC bk_X11_nextPlan_67_68 (l' := [(0, .ref 0), (1, .int 3), (2, .int 1)]) (st' := [.int 1]) (w' := (W_M (mv len fa hd dd sd sg es a wr) (va_up (va_up M 18 (upd (upd W1 1 (nI (b1 + 1))) 1 0)) 17 (upd F1 1 (nI (a1 + 1)))))) rfl ?_
          exact rr_retzP hC (by decide +kernel) (Or.inr rfl) (by refine ⟨by rw [decide_eq_true (by rw [y3]; exact he)]; rfl, (upd F1 1 (nI (a1 + 1))), (upd (upd W1 1 (nI (b1 + 1))) 1 0), fun _ p hp => ?_, rfl⟩; rcases (show p = 0 ∨ p = 1 ∨ p = 2 by omega) with rfl | rfl | rfl; exact ⟨by show _ = nI (m_r cc kc 2 (e + 1) / cc % kc); rw [v2]; rw [pk_un (by omega)]; exact hF1_0.trans (by rw [ha2]), by show _ = nI (m_r cc kc 2 (e + 1) % cc); rw [u2]; rw [pk_un (by omega), pk_un (by omega)]; exact hW1_0.trans (by rw [hb2])⟩; exact ⟨by show _ = nI (m_r cc kc 1 (e + 1) / cc % kc); rw [v1]; rw [pk_us, ha1], by show _ = nI (m_r cc kc 1 (e + 1) % cc); rw [u1]; exact pk_us⟩; exact ⟨by show _ = nI (m_r cc kc 0 (e + 1) / cc % kc); rw [v0]; rw [pk_un (by omega)]; exact hF1_2, by show _ = nI (m_r cc kc 0 (e + 1) % cc); rw [u0]; rw [pk_un (by omega), pk_un (by omega)]; exact hW1_2⟩) ⟨Nat.zero_le _, Nat.zero_le _⟩
      · rw [rr_nn_le (by omega) (by omega)] at h30
        have gb1 := h30
        have y0 : m_r cc kc 0 (e + 1) = m_r cc kc 0 e + 1 := rfl
        obtain ⟨u0, v0, w0⟩ := m_co hc0 hk0 (x := m_r cc kc 0 e) (by rw [← hb0]; omega) (by rw [← ha0]; omega)
        rw [← y0] at u0 v0 w0
        have y1 : m_r cc kc 1 (e + 1) = m_r cc kc 1 e + 1 := w0
        obtain ⟨u1, v1, w1⟩ := m_cb (x := m_r cc kc 1 e) kc (by rw [← hb1]; omega)
        rw [← y1] at u1 v1 w1
        have y2 : m_r cc kc 2 (e + 1) = m_r cc kc 2 e := w1
        have u2 : m_r cc kc 2 (e + 1) % cc = m_r cc kc 2 e % cc := by rw [y2]
        have v2 : m_r cc kc 2 (e + 1) / cc % kc = m_r cc kc 2 e / cc % kc := by rw [y2]
        have y3 : m_r cc kc 3 (e + 1) = m_r cc kc 3 e := by rw [m_r_s, y2]; rfl
        refine rr_go hC bk_X11_nextPlan_33_34 (l' := [(0, .ref 0), (1, .int 3), (2, .int 1)]) (st' := [.int 1]) (w' := (W_M (mv len fa hd dd sd sg es a wr) (va_up (va_up M 17 F1) 18 (upd W1 1 (nI (b1 + 1)))))) rfl ?_
        exact rr_retzP hC (by decide +kernel) (Or.inr rfl) (by refine ⟨by rw [decide_eq_true (by rw [y3]; exact he)]; rfl, F1, (upd W1 1 (nI (b1 + 1))), fun _ p hp => ?_, rfl⟩; rcases (show p = 0 ∨ p = 1 ∨ p = 2 by omega) with rfl | rfl | rfl; exact ⟨by show _ = nI (m_r cc kc 2 (e + 1) / cc % kc); rw [v2]; exact hF1_0.trans (by rw [ha2]), by show _ = nI (m_r cc kc 2 (e + 1) % cc); rw [u2]; rw [pk_un (by omega)]; exact hW1_0.trans (by rw [hb2])⟩; exact ⟨by show _ = nI (m_r cc kc 1 (e + 1) / cc % kc); rw [v1]; exact hF1_1.trans (by rw [ha1]), by show _ = nI (m_r cc kc 1 (e + 1) % cc); rw [u1]; rw [pk_us, hb1]⟩; exact ⟨by show _ = nI (m_r cc kc 0 (e + 1) / cc % kc); rw [v0]; exact hF1_2, by show _ = nI (m_r cc kc 0 (e + 1) % cc); rw [u0]; rw [pk_un (by omega)]; exact hW1_2⟩) ⟨Nat.zero_le _, Nat.zero_le _⟩
    · rw [rr_nn_le (by omega) (by omega)] at h64
      have ga0 := h64
      have y0 : m_r cc kc 0 (e + 1) = m_r cc kc 0 e + 1 := rfl
      obtain ⟨u0, v0, w0⟩ := m_ca hc0 (x := m_r cc kc 0 e) (by rw [← hb0]; omega) (by rw [← ha0]; omega)
      rw [← y0] at u0 v0 w0
      have y1 : m_r cc kc 1 (e + 1) = m_r cc kc 1 e := w0
      have u1 : m_r cc kc 1 (e + 1) % cc = m_r cc kc 1 e % cc := by rw [y1]
      have v1 : m_r cc kc 1 (e + 1) / cc % kc = m_r cc kc 1 e / cc % kc := by rw [y1]
      have y2 : m_r cc kc 2 (e + 1) = m_r cc kc 2 e := by rw [m_r_s, y1]; rfl
      have u2 : m_r cc kc 2 (e + 1) % cc = m_r cc kc 2 e % cc := by rw [y2]
      have v2 : m_r cc kc 2 (e + 1) / cc % kc = m_r cc kc 2 e / cc % kc := by rw [y2]
      have y3 : m_r cc kc 3 (e + 1) = m_r cc kc 3 e := by rw [m_r_s, y2]; rfl
      refine rr_go hC bk_X11_nextPlan_67_68 (l' := [(0, .ref 0), (1, .int 3), (2, .int 2)]) (st' := [.int 1]) (w' := (W_M (mv len fa hd dd sd sg es a wr) (va_up (va_up M 18 (upd (upd (M 18) 2 (nI (b0 + 1))) 2 0)) 17 (upd (M 17) 2 (nI (a0 + 1)))))) rfl ?_
      exact rr_retzP hC (by decide +kernel) (Or.inr rfl) (by refine ⟨by rw [decide_eq_true (by rw [y3]; exact he)]; rfl, (upd (M 17) 2 (nI (a0 + 1))), (upd (upd (M 18) 2 (nI (b0 + 1))) 2 0), fun _ p hp => ?_, rfl⟩; rcases (show p = 0 ∨ p = 1 ∨ p = 2 by omega) with rfl | rfl | rfl; exact ⟨by show _ = nI (m_r cc kc 2 (e + 1) / cc % kc); rw [v2]; rw [pk_un (by omega)]; exact hF0_0.trans (by rw [ha2]), by show _ = nI (m_r cc kc 2 (e + 1) % cc); rw [u2]; rw [pk_un (by omega), pk_un (by omega)]; exact hW0_0.trans (by rw [hb2])⟩; exact ⟨by show _ = nI (m_r cc kc 1 (e + 1) / cc % kc); rw [v1]; rw [pk_un (by omega)]; exact hF0_1.trans (by rw [ha1]), by show _ = nI (m_r cc kc 1 (e + 1) % cc); rw [u1]; rw [pk_un (by omega), pk_un (by omega)]; exact hW0_1.trans (by rw [hb1])⟩; exact ⟨by show _ = nI (m_r cc kc 0 (e + 1) / cc % kc); rw [v0]; rw [pk_us, ha0], by show _ = nI (m_r cc kc 0 (e + 1) % cc); rw [u0]; exact pk_us⟩) ⟨Nat.zero_le _, Nat.zero_le _⟩
  · rw [rr_nn_le (by omega) (by omega)] at h30
    have gb0 := h30
    have y0 : m_r cc kc 0 (e + 1) = m_r cc kc 0 e + 1 := rfl
    obtain ⟨u0, v0, w0⟩ := m_cb (x := m_r cc kc 0 e) kc (by rw [← hb0]; omega)
    rw [← y0] at u0 v0 w0
    have y1 : m_r cc kc 1 (e + 1) = m_r cc kc 1 e := w0
    have u1 : m_r cc kc 1 (e + 1) % cc = m_r cc kc 1 e % cc := by rw [y1]
    have v1 : m_r cc kc 1 (e + 1) / cc % kc = m_r cc kc 1 e / cc % kc := by rw [y1]
    have y2 : m_r cc kc 2 (e + 1) = m_r cc kc 2 e := by rw [m_r_s, y1]; rfl
    have u2 : m_r cc kc 2 (e + 1) % cc = m_r cc kc 2 e % cc := by rw [y2]
    have v2 : m_r cc kc 2 (e + 1) / cc % kc = m_r cc kc 2 e / cc % kc := by rw [y2]
    have y3 : m_r cc kc 3 (e + 1) = m_r cc kc 3 e := by rw [m_r_s, y2]; rfl
    refine rr_go hC bk_X11_nextPlan_33_34 (l' := [(0, .ref 0), (1, .int 3), (2, .int 2)]) (st' := [.int 1]) (w' := (W_M (mv len fa hd dd sd sg es a wr) (va_up M 18 (upd (M 18) 2 (nI (b0 + 1)))))) rfl ?_
    exact rr_retzP hC (by decide +kernel) (Or.inr rfl) (by refine ⟨by rw [decide_eq_true (by rw [y3]; exact he)]; rfl, (M 17), (upd (M 18) 2 (nI (b0 + 1))), fun _ p hp => ?_, rfl⟩; rcases (show p = 0 ∨ p = 1 ∨ p = 2 by omega) with rfl | rfl | rfl; exact ⟨by show _ = nI (m_r cc kc 2 (e + 1) / cc % kc); rw [v2]; exact hF0_0.trans (by rw [ha2]), by show _ = nI (m_r cc kc 2 (e + 1) % cc); rw [u2]; rw [pk_un (by omega)]; exact hW0_0.trans (by rw [hb2])⟩; exact ⟨by show _ = nI (m_r cc kc 1 (e + 1) / cc % kc); rw [v1]; exact hF0_1.trans (by rw [ha1]), by show _ = nI (m_r cc kc 1 (e + 1) % cc); rw [u1]; rw [pk_un (by omega)]; exact hW0_1.trans (by rw [hb1])⟩; exact ⟨by show _ = nI (m_r cc kc 0 (e + 1) / cc % kc); rw [v0]; exact hF0_2.trans (by rw [ha0]), by show _ = nI (m_r cc kc 0 (e + 1) % cc); rw [u0]; rw [pk_us, hb0]⟩) ⟨Nat.zero_le _, Nat.zero_le _⟩
theorem m_nextPlan (len : Nat) (fa : Int32) (hd : Bool) (dd : Nat) (sd : Int32) (sg es a : Nat) (wr : Int32) (M : Nat → Nat → Int32) (tc wd cc kc : Nat) (G : Nat → Nat → Int32) (hG : m_G M G tc wd cc kc) (sz e : Nat) (htc : tc ≤ 12) (hcc : cc ≤ 9) (hkc : kc ≤ 6) (hs1 : 1 ≤ sz) (hs3 : sz ≤ 3) (hc0 : 0 < cc) (hk0 : 0 < kc) (he : m_r cc kc sz e = 0) (hA : ∀ p, p < sz → M 17 p = nI (m_who cc kc sz e p) ∧ M 18 p = nI (m_whe cc kc sz e p)) : rr_CP mX11_nextPlan 0 [.ref 0, .int (nI sz)] (W_M (mv len fa hd dd sd sg es a wr) M) 0 0 (fun r w' => r = some (rr_b (decide (m_r cc kc sz (e + 1) = 0))) ∧ ∃ f w : Nat → Int32, (m_r cc kc sz (e + 1) = 0 → ∀ p, p < sz → f p = nI (m_who cc kc sz (e + 1) p) ∧ w p = nI (m_whe cc kc sz (e + 1) p)) ∧ w' = (W_M (mv len fa hd dd sd sg es a wr) (va_up (va_up M 17 f) 18 w))) := by
  rcases (show sz = 1 ∨ sz = 2 ∨ sz = 3 by omega) with h | h | h
  · subst h
    exact m_nextPlan1 len fa hd dd sd sg es a wr M tc wd cc kc G hG e htc hcc hkc hc0 hk0 he hA
  · subst h
    exact m_nextPlan2 len fa hd dd sd sg es a wr M tc wd cc kc G hG e htc hcc hkc hc0 hk0 he hA
  · subst h
    exact m_nextPlan3 len fa hd dd sd sg es a wr M tc wd cc kc G hG e htc hcc hkc hc0 hk0 he hA
