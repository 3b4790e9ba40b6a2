/-! the model: clause, cell, write, rub, storm, hour, drift, undo -/
theorem m_x7 {x : Int32} (h : m_in x 0 6 = true) : x = 0 ∨ x = 1 ∨ x = 2 ∨ x = 3 ∨ x = 4 ∨ x = 5 ∨ x = 6 := by
  unfold m_in at h
  simp only [Bool.and_eq_true, Bool.not_eq_true', decide_eq_false_iff_not, Int32.lt_iff_toInt_lt] at h
  have h1 := h.1
  have h2 := h.2
  rw [show (0 : Int32).toInt = 0 from by decide] at h1
  rw [show (6 : Int32).toInt = 6 from by decide] at h2
  have key : ∀ n : Nat, n < 7 → x.toInt = n → x = nI n := fun n hn e => Int32.toInt_inj.mp (e.trans (nI_toInt (by omega)).symm)
  rcases (show x.toInt = (0 : Nat) ∨ x.toInt = (1 : Nat) ∨ x.toInt = (2 : Nat) ∨ x.toInt = (3 : Nat) ∨ x.toInt = (4 : Nat) ∨ x.toInt = (5 : Nat) ∨ x.toInt = (6 : Nat) by omega) with z | z | z | z | z | z | z
  · exact Or.inl (key 0 (by omega) z)
  · exact Or.inr (Or.inl (key 1 (by omega) z))
  · exact Or.inr (Or.inr (Or.inl (key 2 (by omega) z)))
  · exact Or.inr (Or.inr (Or.inr (Or.inl (key 3 (by omega) z))))
  · exact Or.inr (Or.inr (Or.inr (Or.inr (Or.inl (key 4 (by omega) z)))))
  · exact Or.inr (Or.inr (Or.inr (Or.inr (Or.inr (Or.inl (key 5 (by omega) z))))))
  · exact Or.inr (Or.inr (Or.inr (Or.inr (Or.inr (Or.inr (key 6 (by omega) z))))))
theorem bk_X11_clause_0_2 : rr_chk mX11_clause [(.aload_n 0, 0, 0, 0), (.iload_n 1, 0, 1, 0)] 0 2 = true := by decide +kernel
theorem bk_X11_clause_8_10 : rr_chk mX11_clause [(.ldc 178, (-1000000001), 0, 0)] 8 10 = true := by decide +kernel
set_option maxRecDepth 100000 in
set_option maxHeartbeats 4000000 in
theorem m_clauseU (len : Nat) (fa : Int32) (hd : Bool) (dd : Nat) (sd : Int32) (sg es a : Nat) (wr : Int32) (M : Nat → Nat → Int32) (tc wd cc kc : Nat) (G : Nat → Nat → Int32) (hG : m_G M G tc wd cc kc) (k x : Int32) (htc : tc ≤ 12) (hcc : cc ≤ 9) (hkc : kc ≤ 6) (hn : p_in k (nI kc) = false) : rr_C mX11_clause 6 [.ref 0, .int k, .int x] (W_M (mv len fa hd dd sd sg es a wr) M) 0 0 (some (-1000000001)) (W_M (mv len fa hd dd sd sg es a wr) M) := by
  refine rr_C.of (n := 2) fX11_clause.1 rfl rfl (fun Z hC => ?_)
  show rr_J Z 3 0 0 (rr_MQ Z 0 0 (some (-1000000001)) (W_M (mv len fa hd dd sd sg es a wr) M)) 0 [(0, .ref 0), (1, .int k), (2, .int x)] [] (W_M (mv len fa hd dd sd sg es a wr) M)
  refine rr_go hC bk_X11_clause_0_2 (l' := [(0, .ref 0), (1, .int k), (2, .int x)]) (st' := [.int k, .ref 0]) (w' := (W_M (mv len fa hd dd sd sg es a wr) M)) rfl ?_
  refine rr_callVI hC (by decide +kernel) kl_11_174 fX11_isClause (m_isClause (mv len fa hd dd sd sg es a wr) M tc wd cc kc G hG k (by omega) (by omega) (by omega)) rfl rfl rfl rfl rfl (rest := []) rfl rfl ⟨Nat.zero_le _, Nat.zero_le _⟩ (Eq.refl 22) ?_
  show rr_J Z 3 0 0 _ 5 [(0, .ref 0), (1, .int k), (2, .int x)] [.int (rr_b (p_in k (nI kc)))] (W_M (mv len fa hd dd sd sg es a wr) M)
  refine rr_neb hC (off := 6) (tgt := 11) (by decide +kernel) (fun h5 => by  rw [hn] at h5; cases h5) (fun h5 => ?_)
  refine rr_go hC bk_X11_clause_8_10 (l' := [(0, .ref 0), (1, .int k), (2, .int x)]) (st' := [.int (-1000000001)]) (w' := (W_M (mv len fa hd dd sd sg es a wr) M)) rfl ?_
  exact rr_reti hC (by decide +kernel) (by rfl) (by rfl) ⟨Nat.zero_le _, Nat.zero_le _⟩
theorem bk_X11_clause_11_15 : rr_chk mX11_clause [(.iload_n 2, 0, 2, 0), (.iconst 0, 0, 0, 0), (.bipush 6, 6, 0, 0)] 11 15 = true := by decide +kernel
theorem bk_X11_clause_21_23 : rr_chk mX11_clause [(.ldc 82, (-1000000002), 0, 0)] 21 23 = true := by decide +kernel
set_option maxRecDepth 100000 in
set_option maxHeartbeats 4000000 in
theorem m_clauseO (len : Nat) (fa : Int32) (hd : Bool) (dd : Nat) (sd : Int32) (sg es a : Nat) (wr : Int32) (M : Nat → Nat → Int32) (tc wd cc kc : Nat) (G : Nat → Nat → Int32) (hG : m_G M G tc wd cc kc) (k : Nat) (x : Int32) (htc : tc ≤ 12) (hcc : cc ≤ 9) (hkc : kc ≤ 6) (hk : k < kc) (hx : m_in x 0 6 = false) : rr_C mX11_clause 6 [.ref 0, .int (nI k), .int x] (W_M (mv len fa hd dd sd sg es a wr) M) 0 0 (some (-1000000002)) (W_M (mv len fa hd dd sd sg es a wr) M) := by
  refine rr_C.of (n := 2) fX11_clause.1 rfl rfl (fun Z hC => ?_)
  show rr_J Z 3 0 0 (rr_MQ Z 0 0 (some (-1000000002)) (W_M (mv len fa hd dd sd sg es a wr) M)) 0 [(0, .ref 0), (1, .int (nI k)), (2, .int x)] [] (W_M (mv len fa hd dd sd sg es a wr) M)
  refine rr_go hC bk_X11_clause_0_2 (l' := [(0, .ref 0), (1, .int (nI k)), (2, .int x)]) (st' := [.int (nI k), .ref 0]) (w' := (W_M (mv len fa hd dd sd sg es a wr) M)) rfl ?_
  refine rr_callVI hC (by decide +kernel) kl_11_174 fX11_isClause (m_isClause (mv len fa hd dd sd sg es a wr) M tc wd cc kc G hG (nI k) (by omega) (by omega) (by omega)) rfl rfl rfl rfl rfl (rest := []) rfl rfl ⟨Nat.zero_le _, Nat.zero_le _⟩ (Eq.refl 22) ?_
  show rr_J Z 3 0 0 _ 5 [(0, .ref 0), (1, .int (nI k)), (2, .int x)] [.int (rr_b (p_in (nI k) (nI kc)))] (W_M (mv len fa hd dd sd sg es a wr) M)
  refine rr_neb hC (off := 6) (tgt := 11) (by decide +kernel) (fun h5 => ?_) (fun h5 => by  exact absurd h5 (by rw [p_in_n (by omega) (by omega)]; simp; omega))
  refine rr_go hC bk_X11_clause_11_15 (l' := [(0, .ref 0), (1, .int (nI k)), (2, .int x)]) (st' := [.int 6, .int 0, .int x]) (w' := (W_M (mv len fa hd dd sd sg es a wr) M)) rfl ?_
  refine rr_callS hC (by decide +kernel) kl_11_78 fX11_in (m_c_in x 0 6) rfl rfl [] rfl rfl (Eq.refl 0) rfl (rest := []) rfl rfl ⟨Nat.zero_le _, Nat.zero_le _⟩ (w2 := (W_M (mv len fa hd dd sd sg es a wr) M)) rfl ?_
  show rr_J Z 3 0 0 _ 18 [(0, .ref 0), (1, .int (nI k)), (2, .int x)] [.int (rr_b (m_in x 0 6))] (W_M (mv len fa hd dd sd sg es a wr) M)
  refine rr_neb hC (off := 6) (tgt := 24) (by decide +kernel) (fun h18 => by  rw [hx] at h18; cases h18) (fun h18 => ?_)
  refine rr_go hC bk_X11_clause_21_23 (l' := [(0, .ref 0), (1, .int (nI k)), (2, .int x)]) (st' := [.int (-1000000002)]) (w' := (W_M (mv len fa hd dd sd sg es a wr) M)) rfl ?_
  exact rr_reti hC (by decide +kernel) (by rfl) (by rfl) ⟨Nat.zero_le _, Nat.zero_le _⟩
theorem bk_X11_clause_24_26 : rr_chk mX11_clause [(.iload_n 2, 0, 2, 0), (.iconst 4, 4, 0, 0)] 24 26 = true := by decide +kernel
theorem bk_X11_clause_29_38 : rr_chk mX11_clause [(.aload_n 0, 0, 0, 0), (.getfield 26, 0, 11, 6), (.iconst 4, 4, 0, 0), (.iload_n 1, 0, 1, 0), (.imul, 0, 0, 0), (.iload_n 2, 0, 2, 0), (.iadd, 0, 0, 0)] 29 38 = true := by decide +kernel
theorem bk_X11_clause_39_76 : rr_chk mX11_clause [(.goto 37, 0, 0, 0)] 39 76 = true := by decide +kernel
set_option maxRecDepth 100000 in
set_option maxHeartbeats 4000000 in
theorem m_clause0 (len : Nat) (fa : Int32) (hd : Bool) (dd : Nat) (sd : Int32) (sg es a : Nat) (wr : Int32) (M : Nat → Nat → Int32) (tc wd cc kc : Nat) (G : Nat → Nat → Int32) (hG : m_G M G tc wd cc kc) (q : p_Q) (hq : M 9 = en q) (k : Nat) (htc : tc ≤ 12) (hcc : cc ≤ 9) (hkc : kc ≤ 6) (hk : k < kc) : rr_C mX11_clause 6 [.ref 0, .int (nI k), .int 0] (W_M (mv len fa hd dd sd sg es a wr) M) 0 0 (some (G 2 k)) (W_M (mv len fa hd dd sd sg es a wr) M) := by
  refine rr_C.of (n := 2) fX11_clause.1 rfl rfl (fun Z hC => ?_)
  show rr_J Z 3 0 0 (rr_MQ Z 0 0 (some (G 2 k)) (W_M (mv len fa hd dd sd sg es a wr) M)) 0 [(0, .ref 0), (1, .int (nI k)), (2, .int 0)] [] (W_M (mv len fa hd dd sd sg es a wr) M)
  refine rr_go hC bk_X11_clause_0_2 (l' := [(0, .ref 0), (1, .int (nI k)), (2, .int 0)]) (st' := [.int (nI k), .ref 0]) (w' := (W_M (mv len fa hd dd sd sg es a wr) M)) rfl ?_
  refine rr_callVI hC (by decide +kernel) kl_11_174 fX11_isClause (m_isClause (mv len fa hd dd sd sg es a wr) M tc wd cc kc G hG (nI k) (by omega) (by omega) (by omega)) rfl rfl rfl rfl rfl (rest := []) rfl rfl ⟨Nat.zero_le _, Nat.zero_le _⟩ (Eq.refl 22) ?_
  show rr_J Z 3 0 0 _ 5 [(0, .ref 0), (1, .int (nI k)), (2, .int 0)] [.int (rr_b (p_in (nI k) (nI kc)))] (W_M (mv len fa hd dd sd sg es a wr) M)
  refine rr_neb hC (off := 6) (tgt := 11) (by decide +kernel) (fun h5 => ?_) (fun h5 => by  exact absurd h5 (by rw [p_in_n (by omega) (by omega)]; simp; omega))
  refine rr_go hC bk_X11_clause_11_15 (l' := [(0, .ref 0), (1, .int (nI k)), (2, .int 0)]) (st' := [.int 6, .int 0, .int 0]) (w' := (W_M (mv len fa hd dd sd sg es a wr) M)) rfl ?_
  refine rr_callS hC (by decide +kernel) kl_11_78 fX11_in (m_c_in 0 0 6) rfl rfl [] rfl rfl (Eq.refl 0) rfl (rest := []) rfl rfl ⟨Nat.zero_le _, Nat.zero_le _⟩ (w2 := (W_M (mv len fa hd dd sd sg es a wr) M)) rfl ?_
  show rr_J Z 3 0 0 _ 18 [(0, .ref 0), (1, .int (nI k)), (2, .int 0)] [.int (rr_b (m_in 0 0 6))] (W_M (mv len fa hd dd sd sg es a wr) M)
  refine rr_neb hC (off := 6) (tgt := 24) (by decide +kernel) (fun h18 => ?_) (fun h18 => by  cases h18)
  refine rr_go hC bk_X11_clause_24_26 (l' := [(0, .ref 0), (1, .int (nI k)), (2, .int 0)]) (st' := [.int 4, .int 0]) (w' := (W_M (mv len fa hd dd sd sg es a wr) M)) rfl ?_
  refine rr_icmp_ge hC (off := 16) (tgt := 42) (by decide +kernel) (fun h26 => by  exact absurd h26 (by decide)) (fun h26 => ?_)
  refine rr_go hC bk_X11_clause_29_38 (l' := [(0, .ref 0), (1, .int (nI k)), (2, .int 0)]) (st' := [.int ((4 * (nI k)) + 0), .ref 5]) (w' := (W_M (mv len fa hd dd sd sg es a wr) M)) rfl ?_
  rw [show (4 * (nI k) : Int32) = nI (4 * k) from pk_mul 4 k]
  rw [show ((nI (4 * k)) + 0 : Int32) = nI ((4 * k) + 0) from nI_add (4 * k) 0]
  refine rr_iald hC (4 * k) (by decide +kernel) rfl (by first | rfl | simp only [fa_lit, rr_lmul, rr_mull, nI_add, Nat.add_zero]) (by omega) rfl ?_
  show rr_J Z 3 0 0 _ 39 [(0, .ref 0), (1, .int (nI k)), (2, .int 0)] [.int (M 4 (4 * k))] (W_M (mv len fa hd dd sd sg es a wr) M)
  refine rr_go hC bk_X11_clause_39_76 (l' := [(0, .ref 0), (1, .int (nI k)), (2, .int 0)]) (st' := [.int (M 4 (4 * k))]) (w' := (W_M (mv len fa hd dd sd sg es a wr) M)) rfl ?_
  exact rr_reti hC (by decide +kernel) (by exact (hG.2.2.2.2.2.2 k hk).1) (by rfl) ⟨Nat.zero_le _, Nat.zero_le _⟩
set_option maxRecDepth 100000 in
set_option maxHeartbeats 4000000 in
theorem m_clause1 (len : Nat) (fa : Int32) (hd : Bool) (dd : Nat) (sd : Int32) (sg es a : Nat) (wr : Int32) (M : Nat → Nat → Int32) (tc wd cc kc : Nat) (G : Nat → Nat → Int32) (hG : m_G M G tc wd cc kc) (q : p_Q) (hq : M 9 = en q) (k : Nat) (htc : tc ≤ 12) (hcc : cc ≤ 9) (hkc : kc ≤ 6) (hk : k < kc) : rr_C mX11_clause 6 [.ref 0, .int (nI k), .int 1] (W_M (mv len fa hd dd sd sg es a wr) M) 0 0 (some (G 3 k)) (W_M (mv len fa hd dd sd sg es a wr) M) := by
  refine rr_C.of (n := 2) fX11_clause.1 rfl rfl (fun Z hC => ?_)
  show rr_J Z 3 0 0 (rr_MQ Z 0 0 (some (G 3 k)) (W_M (mv len fa hd dd sd sg es a wr) M)) 0 [(0, .ref 0), (1, .int (nI k)), (2, .int 1)] [] (W_M (mv len fa hd dd sd sg es a wr) M)
  refine rr_go hC bk_X11_clause_0_2 (l' := [(0, .ref 0), (1, .int (nI k)), (2, .int 1)]) (st' := [.int (nI k), .ref 0]) (w' := (W_M (mv len fa hd dd sd sg es a wr) M)) rfl ?_
  refine rr_callVI hC (by decide +kernel) kl_11_174 fX11_isClause (m_isClause (mv len fa hd dd sd sg es a wr) M tc wd cc kc G hG (nI k) (by omega) (by omega) (by omega)) rfl rfl rfl rfl rfl (rest := []) rfl rfl ⟨Nat.zero_le _, Nat.zero_le _⟩ (Eq.refl 22) ?_
  show rr_J Z 3 0 0 _ 5 [(0, .ref 0), (1, .int (nI k)), (2, .int 1)] [.int (rr_b (p_in (nI k) (nI kc)))] (W_M (mv len fa hd dd sd sg es a wr) M)
  refine rr_neb hC (off := 6) (tgt := 11) (by decide +kernel) (fun h5 => ?_) (fun h5 => by  exact absurd h5 (by rw [p_in_n (by omega) (by omega)]; simp; omega))
  refine rr_go hC bk_X11_clause_11_15 (l' := [(0, .ref 0), (1, .int (nI k)), (2, .int 1)]) (st' := [.int 6, .int 0, .int 1]) (w' := (W_M (mv len fa hd dd sd sg es a wr) M)) rfl ?_
  refine rr_callS hC (by decide +kernel) kl_11_78 fX11_in (m_c_in 1 0 6) rfl rfl [] rfl rfl (Eq.refl 0) rfl (rest := []) rfl rfl ⟨Nat.zero_le _, Nat.zero_le _⟩ (w2 := (W_M (mv len fa hd dd sd sg es a wr) M)) rfl ?_
  show rr_J Z 3 0 0 _ 18 [(0, .ref 0), (1, .int (nI k)), (2, .int 1)] [.int (rr_b (m_in 1 0 6))] (W_M (mv len fa hd dd sd sg es a wr) M)
  refine rr_neb hC (off := 6) (tgt := 24) (by decide +kernel) (fun h18 => ?_) (fun h18 => by  cases h18)
  refine rr_go hC bk_X11_clause_24_26 (l' := [(0, .ref 0), (1, .int (nI k)), (2, .int 1)]) (st' := [.int 4, .int 1]) (w' := (W_M (mv len fa hd dd sd sg es a wr) M)) rfl ?_
  refine rr_icmp_ge hC (off := 16) (tgt := 42) (by decide +kernel) (fun h26 => by  exact absurd h26 (by decide)) (fun h26 => ?_)
  refine rr_go hC bk_X11_clause_29_38 (l' := [(0, .ref 0), (1, .int (nI k)), (2, .int 1)]) (st' := [.int ((4 * (nI k)) + 1), .ref 5]) (w' := (W_M (mv len fa hd dd sd sg es a wr) M)) rfl ?_
  rw [show (4 * (nI k) : Int32) = nI (4 * k) from pk_mul 4 k]
  rw [show ((nI (4 * k)) + 1 : Int32) = nI ((4 * k) + 1) from nI_add (4 * k) 1]
  refine rr_iald hC ((4 * k) + 1) (by decide +kernel) rfl (by first | rfl | simp only [fa_lit, rr_lmul, rr_mull, nI_add, Nat.add_zero]) (by omega) rfl ?_
  show rr_J Z 3 0 0 _ 39 [(0, .ref 0), (1, .int (nI k)), (2, .int 1)] [.int (M 4 ((4 * k) + 1))] (W_M (mv len fa hd dd sd sg es a wr) M)
  refine rr_go hC bk_X11_clause_39_76 (l' := [(0, .ref 0), (1, .int (nI k)), (2, .int 1)]) (st' := [.int (M 4 ((4 * k) + 1))]) (w' := (W_M (mv len fa hd dd sd sg es a wr) M)) rfl ?_
  exact rr_reti hC (by decide +kernel) (by exact (hG.2.2.2.2.2.2 k hk).2.1) (by rfl) ⟨Nat.zero_le _, Nat.zero_le _⟩
set_option maxRecDepth 100000 in
set_option maxHeartbeats 4000000 in
theorem m_clause2 (len : Nat) (fa : Int32) (hd : Bool) (dd : Nat) (sd : Int32) (sg es a : Nat) (wr : Int32) (M : Nat → Nat → Int32) (tc wd cc kc : Nat) (G : Nat → Nat → Int32) (hG : m_G M G tc wd cc kc) (q : p_Q) (hq : M 9 = en q) (k : Nat) (htc : tc ≤ 12) (hcc : cc ≤ 9) (hkc : kc ≤ 6) (hk : k < kc) : rr_C mX11_clause 6 [.ref 0, .int (nI k), .int 2] (W_M (mv len fa hd dd sd sg es a wr) M) 0 0 (some (G 4 k + 10)) (W_M (mv len fa hd dd sd sg es a wr) M) := by
  refine rr_C.of (n := 2) fX11_clause.1 rfl rfl (fun Z hC => ?_)
  show rr_J Z 3 0 0 (rr_MQ Z 0 0 (some (G 4 k + 10)) (W_M (mv len fa hd dd sd sg es a wr) M)) 0 [(0, .ref 0), (1, .int (nI k)), (2, .int 2)] [] (W_M (mv len fa hd dd sd sg es a wr) M)
  refine rr_go hC bk_X11_clause_0_2 (l' := [(0, .ref 0), (1, .int (nI k)), (2, .int 2)]) (st' := [.int (nI k), .ref 0]) (w' := (W_M (mv len fa hd dd sd sg es a wr) M)) rfl ?_
  refine rr_callVI hC (by decide +kernel) kl_11_174 fX11_isClause (m_isClause (mv len fa hd dd sd sg es a wr) M tc wd cc kc G hG (nI k) (by omega) (by omega) (by omega)) rfl rfl rfl rfl rfl (rest := []) rfl rfl ⟨Nat.zero_le _, Nat.zero_le _⟩ (Eq.refl 22) ?_
  show rr_J Z 3 0 0 _ 5 [(0, .ref 0), (1, .int (nI k)), (2, .int 2)] [.int (rr_b (p_in (nI k) (nI kc)))] (W_M (mv len fa hd dd sd sg es a wr) M)
  refine rr_neb hC (off := 6) (tgt := 11) (by decide +kernel) (fun h5 => ?_) (fun h5 => by  exact absurd h5 (by rw [p_in_n (by omega) (by omega)]; simp; omega))
  refine rr_go hC bk_X11_clause_11_15 (l' := [(0, .ref 0), (1, .int (nI k)), (2, .int 2)]) (st' := [.int 6, .int 0, .int 2]) (w' := (W_M (mv len fa hd dd sd sg es a wr) M)) rfl ?_
  refine rr_callS hC (by decide +kernel) kl_11_78 fX11_in (m_c_in 2 0 6) rfl rfl [] rfl rfl (Eq.refl 0) rfl (rest := []) rfl rfl ⟨Nat.zero_le _, Nat.zero_le _⟩ (w2 := (W_M (mv len fa hd dd sd sg es a wr) M)) rfl ?_
  show rr_J Z 3 0 0 _ 18 [(0, .ref 0), (1, .int (nI k)), (2, .int 2)] [.int (rr_b (m_in 2 0 6))] (W_M (mv len fa hd dd sd sg es a wr) M)
  refine rr_neb hC (off := 6) (tgt := 24) (by decide +kernel) (fun h18 => ?_) (fun h18 => by  cases h18)
  refine rr_go hC bk_X11_clause_24_26 (l' := [(0, .ref 0), (1, .int (nI k)), (2, .int 2)]) (st' := [.int 4, .int 2]) (w' := (W_M (mv len fa hd dd sd sg es a wr) M)) rfl ?_
  refine rr_icmp_ge hC (off := 16) (tgt := 42) (by decide +kernel) (fun h26 => by  exact absurd h26 (by decide)) (fun h26 => ?_)
  refine rr_go hC bk_X11_clause_29_38 (l' := [(0, .ref 0), (1, .int (nI k)), (2, .int 2)]) (st' := [.int ((4 * (nI k)) + 2), .ref 5]) (w' := (W_M (mv len fa hd dd sd sg es a wr) M)) rfl ?_
  rw [show (4 * (nI k) : Int32) = nI (4 * k) from pk_mul 4 k]
  rw [show ((nI (4 * k)) + 2 : Int32) = nI ((4 * k) + 2) from nI_add (4 * k) 2]
  refine rr_iald hC ((4 * k) + 2) (by decide +kernel) rfl (by first | rfl | simp only [fa_lit, rr_lmul, rr_mull, nI_add, Nat.add_zero]) (by omega) rfl ?_
  show rr_J Z 3 0 0 _ 39 [(0, .ref 0), (1, .int (nI k)), (2, .int 2)] [.int (M 4 ((4 * k) + 2))] (W_M (mv len fa hd dd sd sg es a wr) M)
  refine rr_go hC bk_X11_clause_39_76 (l' := [(0, .ref 0), (1, .int (nI k)), (2, .int 2)]) (st' := [.int (M 4 ((4 * k) + 2))]) (w' := (W_M (mv len fa hd dd sd sg es a wr) M)) rfl ?_
  exact rr_reti hC (by decide +kernel) (by exact (hG.2.2.2.2.2.2 k hk).2.2.1) (by rfl) ⟨Nat.zero_le _, Nat.zero_le _⟩
set_option maxRecDepth 100000 in
set_option maxHeartbeats 4000000 in
theorem m_clause3 (len : Nat) (fa : Int32) (hd : Bool) (dd : Nat) (sd : Int32) (sg es a : Nat) (wr : Int32) (M : Nat → Nat → Int32) (tc wd cc kc : Nat) (G : Nat → Nat → Int32) (hG : m_G M G tc wd cc kc) (q : p_Q) (hq : M 9 = en q) (k : Nat) (htc : tc ≤ 12) (hcc : cc ≤ 9) (hkc : kc ≤ 6) (hk : k < kc) : rr_C mX11_clause 6 [.ref 0, .int (nI k), .int 3] (W_M (mv len fa hd dd sd sg es a wr) M) 0 0 (some (G 5 k + 10)) (W_M (mv len fa hd dd sd sg es a wr) M) := by
  refine rr_C.of (n := 2) fX11_clause.1 rfl rfl (fun Z hC => ?_)
  show rr_J Z 3 0 0 (rr_MQ Z 0 0 (some (G 5 k + 10)) (W_M (mv len fa hd dd sd sg es a wr) M)) 0 [(0, .ref 0), (1, .int (nI k)), (2, .int 3)] [] (W_M (mv len fa hd dd sd sg es a wr) M)
  refine rr_go hC bk_X11_clause_0_2 (l' := [(0, .ref 0), (1, .int (nI k)), (2, .int 3)]) (st' := [.int (nI k), .ref 0]) (w' := (W_M (mv len fa hd dd sd sg es a wr) M)) rfl ?_
  refine rr_callVI hC (by decide +kernel) kl_11_174 fX11_isClause (m_isClause (mv len fa hd dd sd sg es a wr) M tc wd cc kc G hG (nI k) (by omega) (by omega) (by omega)) rfl rfl rfl rfl rfl (rest := []) rfl rfl ⟨Nat.zero_le _, Nat.zero_le _⟩ (Eq.refl 22) ?_
  show rr_J Z 3 0 0 _ 5 [(0, .ref 0), (1, .int (nI k)), (2, .int 3)] [.int (rr_b (p_in (nI k) (nI kc)))] (W_M (mv len fa hd dd sd sg es a wr) M)
  refine rr_neb hC (off := 6) (tgt := 11) (by decide +kernel) (fun h5 => ?_) (fun h5 => by  exact absurd h5 (by rw [p_in_n (by omega) (by omega)]; simp; omega))
  refine rr_go hC bk_X11_clause_11_15 (l' := [(0, .ref 0), (1, .int (nI k)), (2, .int 3)]) (st' := [.int 6, .int 0, .int 3]) (w' := (W_M (mv len fa hd dd sd sg es a wr) M)) rfl ?_
  refine rr_callS hC (by decide +kernel) kl_11_78 fX11_in (m_c_in 3 0 6) rfl rfl [] rfl rfl (Eq.refl 0) rfl (rest := []) rfl rfl ⟨Nat.zero_le _, Nat.zero_le _⟩ (w2 := (W_M (mv len fa hd dd sd sg es a wr) M)) rfl ?_
  show rr_J Z 3 0 0 _ 18 [(0, .ref 0), (1, .int (nI k)), (2, .int 3)] [.int (rr_b (m_in 3 0 6))] (W_M (mv len fa hd dd sd sg es a wr) M)
  refine rr_neb hC (off := 6) (tgt := 24) (by decide +kernel) (fun h18 => ?_) (fun h18 => by  cases h18)
  refine rr_go hC bk_X11_clause_24_26 (l' := [(0, .ref 0), (1, .int (nI k)), (2, .int 3)]) (st' := [.int 4, .int 3]) (w' := (W_M (mv len fa hd dd sd sg es a wr) M)) rfl ?_
  refine rr_icmp_ge hC (off := 16) (tgt := 42) (by decide +kernel) (fun h26 => by  exact absurd h26 (by decide)) (fun h26 => ?_)
  refine rr_go hC bk_X11_clause_29_38 (l' := [(0, .ref 0), (1, .int (nI k)), (2, .int 3)]) (st' := [.int ((4 * (nI k)) + 3), .ref 5]) (w' := (W_M (mv len fa hd dd sd sg es a wr) M)) rfl ?_
  rw [show (4 * (nI k) : Int32) = nI (4 * k) from pk_mul 4 k]
  rw [show ((nI (4 * k)) + 3 : Int32) = nI ((4 * k) + 3) from nI_add (4 * k) 3]
  refine rr_iald hC ((4 * k) + 3) (by decide +kernel) rfl (by first | rfl | simp only [fa_lit, rr_lmul, rr_mull, nI_add, Nat.add_zero]) (by omega) rfl ?_
  show rr_J Z 3 0 0 _ 39 [(0, .ref 0), (1, .int (nI k)), (2, .int 3)] [.int (M 4 ((4 * k) + 3))] (W_M (mv len fa hd dd sd sg es a wr) M)
  refine rr_go hC bk_X11_clause_39_76 (l' := [(0, .ref 0), (1, .int (nI k)), (2, .int 3)]) (st' := [.int (M 4 ((4 * k) + 3))]) (w' := (W_M (mv len fa hd dd sd sg es a wr) M)) rfl ?_
  exact rr_reti hC (by decide +kernel) (by exact (hG.2.2.2.2.2.2 k hk).2.2.2) (by rfl) ⟨Nat.zero_le _, Nat.zero_le _⟩
theorem bk_X11_clause_42_44 : rr_chk mX11_clause [(.iload_n 2, 0, 2, 0), (.iconst 4, 4, 0, 0)] 42 44 = true := by decide +kernel
theorem bk_X11_clause_47_56 : rr_chk mX11_clause [(.aload_n 0, 0, 0, 0), (.getfield 41, 0, 11, 12), (.iconst 4, 4, 0, 0), (.iconst 3, 3, 0, 0), (.iload_n 1, 0, 1, 0), (.imul, 0, 0, 0), (.iadd, 0, 0, 0)] 47 56 = true := by decide +kernel
theorem bk_X11_clause_57_76 : rr_chk mX11_clause [(.iconst 1, 1, 0, 0), (.isub, 0, 0, 0), (.goto 17, 0, 0, 0)] 57 76 = true := by decide +kernel
set_option maxRecDepth 100000 in
set_option maxHeartbeats 4000000 in
theorem m_clause4 (len : Nat) (fa : Int32) (hd : Bool) (dd : Nat) (sd : Int32) (sg es a : Nat) (wr : Int32) (M : Nat → Nat → Int32) (tc wd cc kc : Nat) (G : Nat → Nat → Int32) (hG : m_G M G tc wd cc kc) (q : p_Q) (hq : M 9 = en q) (k : Nat) (htc : tc ≤ 12) (hcc : cc ≤ 9) (hkc : kc ≤ 6) (hk : k < kc) : rr_C mX11_clause 6 [.ref 0, .int (nI k), .int 4] (W_M (mv len fa hd dd sd sg es a wr) M) 0 0 (some (q.2.2.2.2 0 k)) (W_M (mv len fa hd dd sd sg es a wr) M) := by
  refine rr_C.of (n := 2) fX11_clause.1 rfl rfl (fun Z hC => ?_)
  show rr_J Z 3 0 0 (rr_MQ Z 0 0 (some (q.2.2.2.2 0 k)) (W_M (mv len fa hd dd sd sg es a wr) M)) 0 [(0, .ref 0), (1, .int (nI k)), (2, .int 4)] [] (W_M (mv len fa hd dd sd sg es a wr) M)
  refine rr_go hC bk_X11_clause_0_2 (l' := [(0, .ref 0), (1, .int (nI k)), (2, .int 4)]) (st' := [.int (nI k), .ref 0]) (w' := (W_M (mv len fa hd dd sd sg es a wr) M)) rfl ?_
  refine rr_callVI hC (by decide +kernel) kl_11_174 fX11_isClause (m_isClause (mv len fa hd dd sd sg es a wr) M tc wd cc kc G hG (nI k) (by omega) (by omega) (by omega)) rfl rfl rfl rfl rfl (rest := []) rfl rfl ⟨Nat.zero_le _, Nat.zero_le _⟩ (Eq.refl 22) ?_
  show rr_J Z 3 0 0 _ 5 [(0, .ref 0), (1, .int (nI k)), (2, .int 4)] [.int (rr_b (p_in (nI k) (nI kc)))] (W_M (mv len fa hd dd sd sg es a wr) M)
  refine rr_neb hC (off := 6) (tgt := 11) (by decide +kernel) (fun h5 => ?_) (fun h5 => by  exact absurd h5 (by rw [p_in_n (by omega) (by omega)]; simp; omega))
  refine rr_go hC bk_X11_clause_11_15 (l' := [(0, .ref 0), (1, .int (nI k)), (2, .int 4)]) (st' := [.int 6, .int 0, .int 4]) (w' := (W_M (mv len fa hd dd sd sg es a wr) M)) rfl ?_
  refine rr_callS hC (by decide +kernel) kl_11_78 fX11_in (m_c_in 4 0 6) rfl rfl [] rfl rfl (Eq.refl 0) rfl (rest := []) rfl rfl ⟨Nat.zero_le _, Nat.zero_le _⟩ (w2 := (W_M (mv len fa hd dd sd sg es a wr) M)) rfl ?_
  show rr_J Z 3 0 0 _ 18 [(0, .ref 0), (1, .int (nI k)), (2, .int 4)] [.int (rr_b (m_in 4 0 6))] (W_M (mv len fa hd dd sd sg es a wr) M)
  refine rr_neb hC (off := 6) (tgt := 24) (by decide +kernel) (fun h18 => ?_) (fun h18 => by  cases h18)
  refine rr_go hC bk_X11_clause_24_26 (l' := [(0, .ref 0), (1, .int (nI k)), (2, .int 4)]) (st' := [.int 4, .int 4]) (w' := (W_M (mv len fa hd dd sd sg es a wr) M)) rfl ?_
  refine rr_icmp_ge hC (off := 16) (tgt := 42) (by decide +kernel) (fun h26 => ?_) (fun h26 => by  exact absurd h26 (by decide))
  refine rr_go hC bk_X11_clause_42_44 (l' := [(0, .ref 0), (1, .int (nI k)), (2, .int 4)]) (st' := [.int 4, .int 4]) (w' := (W_M (mv len fa hd dd sd sg es a wr) M)) rfl ?_
  refine rr_icmp_ne hC (off := 18) (tgt := 62) (by decide +kernel) (fun h44 => by  exact absurd rfl h44) (fun h44 => ?_)
  refine rr_go hC bk_X11_clause_47_56 (l' := [(0, .ref 0), (1, .int (nI k)), (2, .int 4)]) (st' := [.int (4 + (3 * (nI k))), .ref 10]) (w' := (W_M (mv len fa hd dd sd sg es a wr) M)) rfl ?_
  rw [show (3 * (nI k) : Int32) = nI (3 * k) from pk_mul 3 k]
  rw [show (4 + (nI (3 * k)) : Int32) = nI (4 + (3 * k)) from nI_add 4 (3 * k)]
  refine rr_iald hC (4 + (3 * k)) (by decide +kernel) rfl rfl (by omega) rfl ?_
  show rr_J Z 3 0 0 _ 57 [(0, .ref 0), (1, .int (nI k)), (2, .int 4)] [.int (M 9 (4 + (3 * k)))] (W_M (mv len fa hd dd sd sg es a wr) M)
  refine rr_go hC bk_X11_clause_57_76 (l' := [(0, .ref 0), (1, .int (nI k)), (2, .int 4)]) (st' := [.int ((M 9 (4 + (3 * k))) - 1)]) (w' := (W_M (mv len fa hd dd sd sg es a wr) M)) rfl ?_
  exact rr_reti hC (by decide +kernel) (by rw [hq, en_c q (show k < 6 by omega)]; simp) (by rfl) ⟨Nat.zero_le _, Nat.zero_le _⟩
theorem bk_X11_clause_62_75 : rr_chk mX11_clause [(.aload_n 0, 0, 0, 0), (.getfield 41, 0, 11, 12), (.iconst 4, 4, 0, 0), (.iconst 3, 3, 0, 0), (.iload_n 1, 0, 1, 0), (.imul, 0, 0, 0), (.iadd, 0, 0, 0), (.iload_n 2, 0, 2, 0), (.iadd, 0, 0, 0), (.iconst 4, 4, 0, 0), (.isub, 0, 0, 0)] 62 75 = true := by decide +kernel
set_option maxRecDepth 100000 in
set_option maxHeartbeats 4000000 in
theorem m_clause5 (len : Nat) (fa : Int32) (hd : Bool) (dd : Nat) (sd : Int32) (sg es a : Nat) (wr : Int32) (M : Nat → Nat → Int32) (tc wd cc kc : Nat) (G : Nat → Nat → Int32) (hG : m_G M G tc wd cc kc) (q : p_Q) (hq : M 9 = en q) (k : Nat) (htc : tc ≤ 12) (hcc : cc ≤ 9) (hkc : kc ≤ 6) (hk : k < kc) : rr_C mX11_clause 6 [.ref 0, .int (nI k), .int 5] (W_M (mv len fa hd dd sd sg es a wr) M) 0 0 (some (q.2.2.2.2 1 k)) (W_M (mv len fa hd dd sd sg es a wr) M) := by
  refine rr_C.of (n := 2) fX11_clause.1 rfl rfl (fun Z hC => ?_)
  show rr_J Z 3 0 0 (rr_MQ Z 0 0 (some (q.2.2.2.2 1 k)) (W_M (mv len fa hd dd sd sg es a wr) M)) 0 [(0, .ref 0), (1, .int (nI k)), (2, .int 5)] [] (W_M (mv len fa hd dd sd sg es a wr) M)
  refine rr_go hC bk_X11_clause_0_2 (l' := [(0, .ref 0), (1, .int (nI k)), (2, .int 5)]) (st' := [.int (nI k), .ref 0]) (w' := (W_M (mv len fa hd dd sd sg es a wr) M)) rfl ?_
  refine rr_callVI hC (by decide +kernel) kl_11_174 fX11_isClause (m_isClause (mv len fa hd dd sd sg es a wr) M tc wd cc kc G hG (nI k) (by omega) (by omega) (by omega)) rfl rfl rfl rfl rfl (rest := []) rfl rfl ⟨Nat.zero_le _, Nat.zero_le _⟩ (Eq.refl 22) ?_
  show rr_J Z 3 0 0 _ 5 [(0, .ref 0), (1, .int (nI k)), (2, .int 5)] [.int (rr_b (p_in (nI k) (nI kc)))] (W_M (mv len fa hd dd sd sg es a wr) M)
  refine rr_neb hC (off := 6) (tgt := 11) (by decide +kernel) (fun h5 => ?_) (fun h5 => by  exact absurd h5 (by rw [p_in_n (by omega) (by omega)]; simp; omega))
  refine rr_go hC bk_X11_clause_11_15 (l' := [(0, .ref 0), (1, .int (nI k)), (2, .int 5)]) (st' := [.int 6, .int 0, .int 5]) (w' := (W_M (mv len fa hd dd sd sg es a wr) M)) rfl ?_
  refine rr_callS hC (by decide +kernel) kl_11_78 fX11_in (m_c_in 5 0 6) rfl rfl [] rfl rfl (Eq.refl 0) rfl (rest := []) rfl rfl ⟨Nat.zero_le _, Nat.zero_le _⟩ (w2 := (W_M (mv len fa hd dd sd sg es a wr) M)) rfl ?_
  show rr_J Z 3 0 0 _ 18 [(0, .ref 0), (1, .int (nI k)), (2, .int 5)] [.int (rr_b (m_in 5 0 6))] (W_M (mv len fa hd dd sd sg es a wr) M)
  refine rr_neb hC (off := 6) (tgt := 24) (by decide +kernel) (fun h18 => ?_) (fun h18 => by  cases h18)
  refine rr_go hC bk_X11_clause_24_26 (l' := [(0, .ref 0), (1, .int (nI k)), (2, .int 5)]) (st' := [.int 4, .int 5]) (w' := (W_M (mv len fa hd dd sd sg es a wr) M)) rfl ?_
  refine rr_icmp_ge hC (off := 16) (tgt := 42) (by decide +kernel) (fun h26 => ?_) (fun h26 => by  exact absurd h26 (by decide))
  refine rr_go hC bk_X11_clause_42_44 (l' := [(0, .ref 0), (1, .int (nI k)), (2, .int 5)]) (st' := [.int 4, .int 5]) (w' := (W_M (mv len fa hd dd sd sg es a wr) M)) rfl ?_
  refine rr_icmp_ne hC (off := 18) (tgt := 62) (by decide +kernel) (fun h44 => ?_) (fun h44 => by  exact absurd h44 (by decide))
  refine rr_go hC bk_X11_clause_62_75 (l' := [(0, .ref 0), (1, .int (nI k)), (2, .int 5)]) (st' := [.int (((4 + (3 * (nI k))) + 5) - 4), .ref 10]) (w' := (W_M (mv len fa hd dd sd sg es a wr) M)) rfl ?_
  refine rr_iald hC ((4 + (3 * k)) + 1) (by decide +kernel) rfl (by simp only [fa_lit]; rw [pk_mul, nI_add, nI_add, pk_sub (by omega)]; exact congrArg nI (by omega)) (by omega) rfl ?_
  show rr_J Z 3 0 0 _ 76 [(0, .ref 0), (1, .int (nI k)), (2, .int 5)] [.int (M 9 ((4 + (3 * k)) + 1))] (W_M (mv len fa hd dd sd sg es a wr) M)
  exact rr_reti hC (by decide +kernel) (by rw [hq, en_w q (show k < 6 by omega)]) (by rfl) ⟨Nat.zero_le _, Nat.zero_le _⟩
set_option maxRecDepth 100000 in
set_option maxHeartbeats 4000000 in
theorem m_clause6 (len : Nat) (fa : Int32) (hd : Bool) (dd : Nat) (sd : Int32) (sg es a : Nat) (wr : Int32) (M : Nat → Nat → Int32) (tc wd cc kc : Nat) (G : Nat → Nat → Int32) (hG : m_G M G tc wd cc kc) (q : p_Q) (hq : M 9 = en q) (k : Nat) (htc : tc ≤ 12) (hcc : cc ≤ 9) (hkc : kc ≤ 6) (hk : k < kc) : rr_C mX11_clause 6 [.ref 0, .int (nI k), .int 6] (W_M (mv len fa hd dd sd sg es a wr) M) 0 0 (some (q.2.2.2.2 2 k)) (W_M (mv len fa hd dd sd sg es a wr) M) := by
  refine rr_C.of (n := 2) fX11_clause.1 rfl rfl (fun Z hC => ?_)
  show rr_J Z 3 0 0 (rr_MQ Z 0 0 (some (q.2.2.2.2 2 k)) (W_M (mv len fa hd dd sd sg es a wr) M)) 0 [(0, .ref 0), (1, .int (nI k)), (2, .int 6)] [] (W_M (mv len fa hd dd sd sg es a wr) M)
  refine rr_go hC bk_X11_clause_0_2 (l' := [(0, .ref 0), (1, .int (nI k)), (2, .int 6)]) (st' := [.int (nI k), .ref 0]) (w' := (W_M (mv len fa hd dd sd sg es a wr) M)) rfl ?_
  refine rr_callVI hC (by decide +kernel) kl_11_174 fX11_isClause (m_isClause (mv len fa hd dd sd sg es a wr) M tc wd cc kc G hG (nI k) (by omega) (by omega) (by omega)) rfl rfl rfl rfl rfl (rest := []) rfl rfl ⟨Nat.zero_le _, Nat.zero_le _⟩ (Eq.refl 22) ?_
  show rr_J Z 3 0 0 _ 5 [(0, .ref 0), (1, .int (nI k)), (2, .int 6)] [.int (rr_b (p_in (nI k) (nI kc)))] (W_M (mv len fa hd dd sd sg es a wr) M)
  refine rr_neb hC (off := 6) (tgt := 11) (by decide +kernel) (fun h5 => ?_) (fun h5 => by  exact absurd h5 (by rw [p_in_n (by omega) (by omega)]; simp; omega))
  refine rr_go hC bk_X11_clause_11_15 (l' := [(0, .ref 0), (1, .int (nI k)), (2, .int 6)]) (st' := [.int 6, .int 0, .int 6]) (w' := (W_M (mv len fa hd dd sd sg es a wr) M)) rfl ?_
  refine rr_callS hC (by decide +kernel) kl_11_78 fX11_in (m_c_in 6 0 6) rfl rfl [] rfl rfl (Eq.refl 0) rfl (rest := []) rfl rfl ⟨Nat.zero_le _, Nat.zero_le _⟩ (w2 := (W_M (mv len fa hd dd sd sg es a wr) M)) rfl ?_
  show rr_J Z 3 0 0 _ 18 [(0, .ref 0), (1, .int (nI k)), (2, .int 6)] [.int (rr_b (m_in 6 0 6))] (W_M (mv len fa hd dd sd sg es a wr) M)
  refine rr_neb hC (off := 6) (tgt := 24) (by decide +kernel) (fun h18 => ?_) (fun h18 => by  cases h18)
  refine rr_go hC bk_X11_clause_24_26 (l' := [(0, .ref 0), (1, .int (nI k)), (2, .int 6)]) (st' := [.int 4, .int 6]) (w' := (W_M (mv len fa hd dd sd sg es a wr) M)) rfl ?_
  refine rr_icmp_ge hC (off := 16) (tgt := 42) (by decide +kernel) (fun h26 => ?_) (fun h26 => by  exact absurd h26 (by decide))
  refine rr_go hC bk_X11_clause_42_44 (l' := [(0, .ref 0), (1, .int (nI k)), (2, .int 6)]) (st' := [.int 4, .int 6]) (w' := (W_M (mv len fa hd dd sd sg es a wr) M)) rfl ?_
  refine rr_icmp_ne hC (off := 18) (tgt := 62) (by decide +kernel) (fun h44 => ?_) (fun h44 => by  exact absurd h44 (by decide))
  refine rr_go hC bk_X11_clause_62_75 (l' := [(0, .ref 0), (1, .int (nI k)), (2, .int 6)]) (st' := [.int (((4 + (3 * (nI k))) + 6) - 4), .ref 10]) (w' := (W_M (mv len fa hd dd sd sg es a wr) M)) rfl ?_
  refine rr_iald hC ((4 + (3 * k)) + 2) (by decide +kernel) rfl (by simp only [fa_lit]; rw [pk_mul, nI_add, nI_add, pk_sub (by omega)]; exact congrArg nI (by omega)) (by omega) rfl ?_
  show rr_J Z 3 0 0 _ 76 [(0, .ref 0), (1, .int (nI k)), (2, .int 6)] [.int (M 9 ((4 + (3 * k)) + 2))] (W_M (mv len fa hd dd sd sg es a wr) M)
  exact rr_reti hC (by decide +kernel) (by rw [hq, en_d q (show k < 6 by omega)]) (by rfl) ⟨Nat.zero_le _, Nat.zero_le _⟩
theorem bk_X11_cell_0_2 : rr_chk mX11_cell [(.aload_n 0, 0, 0, 0), (.iload_n 1, 0, 1, 0)] 0 2 = true := by decide +kernel
theorem bk_X11_cell_8_10 : rr_chk mX11_cell [(.ldc 178, (-1000000001), 0, 0)] 8 10 = true := by decide +kernel
set_option maxRecDepth 100000 in
set_option maxHeartbeats 4000000 in
theorem m_cellU (len : Nat) (fa : Int32) (hd : Bool) (dd : Nat) (sd : Int32) (sg es a : Nat) (wr : Int32) (M : Nat → Nat → Int32) (tc wd cc kc : Nat) (G : Nat → Nat → Int32) (hG : m_G M G tc wd cc kc) (c x : Int32) (htc : tc ≤ 12) (hcc : cc ≤ 9) (hkc : kc ≤ 6) (hn : p_in c (nI cc) = false) : rr_C mX11_cell 6 [.ref 0, .int c, .int x] (W_M (mv len fa hd dd sd sg es a wr) M) 0 0 (some (-1000000001)) (W_M (mv len fa hd dd sd sg es a wr) M) := by
  refine rr_C.of (n := 2) fX11_cell.1 rfl rfl (fun Z hC => ?_)
  show rr_J Z 3 0 0 (rr_MQ Z 0 0 (some (-1000000001)) (W_M (mv len fa hd dd sd sg es a wr) M)) 0 [(0, .ref 0), (1, .int c), (2, .int x)] [] (W_M (mv len fa hd dd sd sg es a wr) M)
  refine rr_go hC bk_X11_cell_0_2 (l' := [(0, .ref 0), (1, .int c), (2, .int x)]) (st' := [.int c, .ref 0]) (w' := (W_M (mv len fa hd dd sd sg es a wr) M)) rfl ?_
  refine rr_callVI hC (by decide +kernel) kl_11_179 fX11_isCell (m_isCell (mv len fa hd dd sd sg es a wr) M tc wd cc kc G hG c (by omega) (by omega) (by omega)) rfl rfl rfl rfl rfl (rest := []) rfl rfl ⟨Nat.zero_le _, Nat.zero_le _⟩ (Eq.refl 22) ?_
  show rr_J Z 3 0 0 _ 5 [(0, .ref 0), (1, .int c), (2, .int x)] [.int (rr_b (p_in c (nI cc)))] (W_M (mv len fa hd dd sd sg es a wr) M)
  refine rr_neb hC (off := 6) (tgt := 11) (by decide +kernel) (fun h5 => by  rw [hn] at h5; cases h5) (fun h5 => ?_)
  refine rr_go hC bk_X11_cell_8_10 (l' := [(0, .ref 0), (1, .int c), (2, .int x)]) (st' := [.int (-1000000001)]) (w' := (W_M (mv len fa hd dd sd sg es a wr) M)) rfl ?_
  exact rr_reti hC (by decide +kernel) (by rfl) (by rfl) ⟨Nat.zero_le _, Nat.zero_le _⟩
theorem bk_X11_cell_11_12 : rr_chk mX11_cell [(.iload_n 2, 0, 2, 0)] 11 12 = true := by decide +kernel
theorem bk_X11_cell_40_45 : rr_chk mX11_cell [(.aload_n 0, 0, 0, 0), (.getfield 23, 0, 11, 5), (.iload_n 1, 0, 1, 0)] 40 45 = true := by decide +kernel
theorem bk_X11_cell_47_52 : rr_chk mX11_cell [(.aload_n 0, 0, 0, 0), (.getfield 41, 0, 11, 12), (.iload_n 1, 0, 1, 0)] 47 52 = true := by decide +kernel
theorem bk_X11_cell_56_64 : rr_chk mX11_cell [(.aload_n 0, 0, 0, 0), (.iload_n 1, 0, 1, 0), (.aload_n 0, 0, 0, 0), (.getfield 41, 0, 11, 12), (.iconst 0, 0, 0, 0), (.iaload, 0, 0, 0)] 56 64 = true := by decide +kernel
theorem bk_X11_cell_74_75 : rr_chk mX11_cell [(.iconst 0, 0, 0, 0)] 74 75 = true := by decide +kernel
theorem bk_X11_cell_70_75 : rr_chk mX11_cell [(.iconst 1, 1, 0, 0), (.goto 4, 0, 0, 0)] 70 75 = true := by decide +kernel
theorem bk_X11_cell_76_78 : rr_chk mX11_cell [(.ldc 82, (-1000000002), 0, 0)] 76 78 = true := by decide +kernel
set_option maxRecDepth 100000 in
set_option maxHeartbeats 4000000 in
theorem m_cell (len : Nat) (fa : Int32) (hd : Bool) (dd : Nat) (sd : Int32) (sg es a : Nat) (wr : Int32) (M : Nat → Nat → Int32) (tc wd cc kc : Nat) (G : Nat → Nat → Int32) (hG : m_G M G tc wd cc kc) (q : p_Q) (hq : M 9 = en q) (c : Nat) (x : Int32) (htc : tc ≤ 12) (hcc : cc ≤ 9) (hkc : kc ≤ 6) (hu : q.1 ≤ 9100) (h0c : 0 < cc → 0 < tc) (h0k : 0 < kc → 0 < tc) (hI : m_I G cc kc q) (hc : c < cc) : rr_C mX11_cell 6 [.ref 0, .int (nI c), .int x] (W_M (mv len fa hd dd sd sg es a wr) M) 0 0 (some (if x = 0 then G 1 c else if x = 1 then p_cin (q.2.2.2.2 0) (nI c) 0 kc else if x = 2 then rr_b (p_wet G tc c q.1) else (-1000000002))) (W_M (mv len fa hd dd sd sg es a wr) M) := by
  refine rr_C.of (n := 2) fX11_cell.1 rfl rfl (fun Z hC => ?_)
  show rr_J Z 3 0 0 (rr_MQ Z 0 0 (some (if x = 0 then G 1 c else if x = 1 then p_cin (q.2.2.2.2 0) (nI c) 0 kc else if x = 2 then rr_b (p_wet G tc c q.1) else (-1000000002))) (W_M (mv len fa hd dd sd sg es a wr) M)) 0 [(0, .ref 0), (1, .int (nI c)), (2, .int x)] [] (W_M (mv len fa hd dd sd sg es a wr) M)
  have h0t := h0c (by omega)
  refine rr_go hC bk_X11_cell_0_2 (l' := [(0, .ref 0), (1, .int (nI c)), (2, .int x)]) (st' := [.int (nI c), .ref 0]) (w' := (W_M (mv len fa hd dd sd sg es a wr) M)) rfl ?_
  refine rr_callVI hC (by decide +kernel) kl_11_179 fX11_isCell (m_isCell (mv len fa hd dd sd sg es a wr) M tc wd cc kc G hG (nI c) (by omega) (by omega) (by omega)) rfl rfl rfl rfl rfl (rest := []) rfl rfl ⟨Nat.zero_le _, Nat.zero_le _⟩ (Eq.refl 22) ?_
  show rr_J Z 3 0 0 _ 5 [(0, .ref 0), (1, .int (nI c)), (2, .int x)] [.int (rr_b (p_in (nI c) (nI cc)))] (W_M (mv len fa hd dd sd sg es a wr) M)
  refine rr_neb hC (off := 6) (tgt := 11) (by decide +kernel) (fun h5 => ?_) (fun h5 => by  exact absurd h5 (by rw [p_in_n (by omega) (by omega)]; simp; omega))
  refine rr_go hC bk_X11_cell_11_12 (l' := [(0, .ref 0), (1, .int (nI c)), (2, .int x)]) (st' := [.int x]) (w' := (W_M (mv len fa hd dd sd sg es a wr) M)) rfl ?_
  by_cases hw0 : x = 0
  · refine rr_tab hC 0 (dflt := 64) (lo := 0) (hi := 2) (offs := #[28, 35, 44]) (n := 28) (off := 28) (tgt := 40) (by decide +kernel) (by rw [hw0]; decide) rfl (by decide) ?_
    refine rr_go hC bk_X11_cell_40_45 (l' := [(0, .ref 0), (1, .int (nI c)), (2, .int x)]) (st' := [.int (nI c), .ref 4]) (w' := (W_M (mv len fa hd dd sd sg es a wr) M)) rfl ?_
    refine rr_iald hC c (by decide +kernel) rfl rfl (by omega) rfl ?_
    show rr_J Z 3 0 0 _ 46 [(0, .ref 0), (1, .int (nI c)), (2, .int x)] [.int (M 3 c)] (W_M (mv len fa hd dd sd sg es a wr) M)
    exact rr_reti hC (by decide +kernel) (by rw [if_pos hw0]; exact hG.2.2.2.2.2.1 c hc) (by rfl) ⟨Nat.zero_le _, Nat.zero_le _⟩
  by_cases hw1 : x = 1
  · refine rr_tab hC 1 (dflt := 64) (lo := 0) (hi := 2) (offs := #[28, 35, 44]) (n := 28) (off := 35) (tgt := 47) (by decide +kernel) (by rw [hw1]; decide) rfl (by decide) ?_
    refine rr_go hC bk_X11_cell_47_52 (l' := [(0, .ref 0), (1, .int (nI c)), (2, .int x)]) (st' := [.int (nI c), .ref 10]) (w' := (W_M (mv len fa hd dd sd sg es a wr) M)) rfl ?_
    refine rr_callS hC (by decide +kernel) kl_11_182 fX11_clauseIn (m_clauseIn (fun _ => M 9) q hq c ) rfl rfl [10] rfl rfl (Eq.refl 1) rfl (rest := []) rfl rfl ⟨Nat.zero_le _, Nat.zero_le _⟩ (w2 := (W_M (mv len fa hd dd sd sg es a wr) M)) rfl ?_
    show rr_J Z 3 0 0 _ 55 [(0, .ref 0), (1, .int (nI c)), (2, .int x)] [.int (p_cin (q.2.2.2.2 0) (nI c) 0 6)] (W_M (mv len fa hd dd sd sg es a wr) M)
    exact rr_reti hC (by decide +kernel) (by rw [if_neg hw0, if_pos hw1]; exact p_cin_6 hI hkc (by omega)) (by rfl) ⟨Nat.zero_le _, Nat.zero_le _⟩
  by_cases hw2 : x = 2
  · refine rr_tab hC 2 (dflt := 64) (lo := 0) (hi := 2) (offs := #[28, 35, 44]) (n := 28) (off := 44) (tgt := 56) (by decide +kernel) (by rw [hw2]; decide) rfl (by decide) ?_
    refine rr_go hC bk_X11_cell_56_64 (l' := [(0, .ref 0), (1, .int (nI c)), (2, .int x)]) (st' := [.int (M 9 0), .int (nI c), .ref 0]) (w' := (W_M (mv len fa hd dd sd sg es a wr) M)) rfl ?_
    rw [show (M 9 0 : Int32) = nI q.1 from (by rw [hq]; rfl)]
    refine rr_callVI hC (by decide +kernel) kl_11_151 fX11_isWet (m_isWet (mv len fa hd dd sd sg es a wr) M tc wd cc kc G hG c q.1 (by omega) (by omega) (by omega) (by omega) (by omega) (by omega)) rfl rfl rfl rfl rfl (rest := []) rfl rfl ⟨Nat.zero_le _, Nat.zero_le _⟩ (Eq.refl 22) ?_
    show rr_J Z 3 0 0 _ 67 [(0, .ref 0), (1, .int (nI c)), (2, .int x)] [.int (rr_b (p_wet G tc c q.1))] (W_M (mv len fa hd dd sd sg es a wr) M)
    refine rr_eqb hC (off := 7) (tgt := 74) (by decide +kernel) (fun h67 => ?_) (fun h67 => ?_)
    · refine rr_go hC bk_X11_cell_74_75 (l' := [(0, .ref 0), (1, .int (nI c)), (2, .int x)]) (st' := [.int 0]) (w' := (W_M (mv len fa hd dd sd sg es a wr) M)) rfl ?_
      exact rr_reti hC (by decide +kernel) (by rw [if_neg hw0, if_neg hw1, if_pos hw2]; simp [rr_b, h67]) (by rfl) ⟨Nat.zero_le _, Nat.zero_le _⟩
    · refine rr_go hC bk_X11_cell_70_75 (l' := [(0, .ref 0), (1, .int (nI c)), (2, .int x)]) (st' := [.int 1]) (w' := (W_M (mv len fa hd dd sd sg es a wr) M)) rfl ?_
      exact rr_reti hC (by decide +kernel) (by rw [if_neg hw0, if_neg hw1, if_pos hw2]; simp [rr_b, h67]) (by rfl) ⟨Nat.zero_le _, Nat.zero_le _⟩
  have hdf : x.toInt < 0 ∨ 2 < x.toInt := by
    have z0 : ¬ x.toInt = 0 := fun e => hw0 (Int32.toInt_inj.mp (e.trans (by decide)))
    have z1 : ¬ x.toInt = 1 := fun e => hw1 (Int32.toInt_inj.mp (e.trans (by decide)))
    have z2 : ¬ x.toInt = 2 := fun e => hw2 (Int32.toInt_inj.mp (e.trans (by decide)))
    omega
  refine rr_tabd hC (dflt := 64) (lo := 0) (hi := 2) (offs := #[28, 35, 44]) (n := 28) (tgt := 76) (by decide +kernel) hdf ?_
  refine rr_go hC bk_X11_cell_76_78 (l' := [(0, .ref 0), (1, .int (nI c)), (2, .int x)]) (st' := [.int (-1000000002)]) (w' := (W_M (mv len fa hd dd sd sg es a wr) M)) rfl ?_
  exact rr_reti hC (by decide +kernel) (by rw [if_neg hw0, if_neg hw1, if_neg hw2]) (by rfl) ⟨Nat.zero_le _, Nat.zero_le _⟩
theorem bk_X11_write_0_2 : rr_chk mX11_write [(.aload_n 0, 0, 0, 0), (.iload_n 1, 0, 1, 0)] 0 2 = true := by decide +kernel
theorem bk_X11_write_16_18 : rr_chk mX11_write [(.ldc 178, (-1000000001), 0, 0)] 16 18 = true := by decide +kernel
theorem bk_X11_write_8_10 : rr_chk mX11_write [(.aload_n 0, 0, 0, 0), (.iload_n 2, 0, 2, 0)] 8 10 = true := by decide +kernel
set_option maxRecDepth 100000 in
set_option maxHeartbeats 4000000 in
theorem m_writeU (len : Nat) (fa : Int32) (hd : Bool) (dd : Nat) (sd : Int32) (sg es a : Nat) (wr : Int32) (M : Nat → Nat → Int32) (tc wd cc kc : Nat) (G : Nat → Nat → Int32) (hG : m_G M G tc wd cc kc) (k c : Int32) (htc : tc ≤ 12) (hcc : cc ≤ 9) (hkc : kc ≤ 6) (hn : p_in k (nI kc) = false ∨ p_in c (nI cc) = false) : rr_C mX11_write 6 [.ref 0, .int k, .int c] (W_M (mv len fa hd dd sd sg es a wr) M) 0 0 (some (-1000000001)) (W_M (mv len fa hd dd sd sg es a wr) M) := by
  refine rr_C.of (n := 2) fX11_write.1 rfl rfl (fun Z hC => ?_)
  show rr_J Z 3 0 0 (rr_MQ Z 0 0 (some (-1000000001)) (W_M (mv len fa hd dd sd sg es a wr) M)) 0 [(0, .ref 0), (1, .int k), (2, .int c)] [] (W_M (mv len fa hd dd sd sg es a wr) M)
  refine rr_go hC bk_X11_write_0_2 (l' := [(0, .ref 0), (1, .int k), (2, .int c)]) (st' := [.int k, .ref 0]) (w' := (W_M (mv len fa hd dd sd sg es a wr) M)) rfl ?_
  refine rr_callVI hC (by decide +kernel) kl_11_174 fX11_isClause (m_isClause (mv len fa hd dd sd sg es a wr) M tc wd cc kc G hG k (by omega) (by omega) (by omega)) rfl rfl rfl rfl rfl (rest := []) rfl rfl ⟨Nat.zero_le _, Nat.zero_le _⟩ (Eq.refl 22) ?_
  show rr_J Z 3 0 0 _ 5 [(0, .ref 0), (1, .int k), (2, .int c)] [.int (rr_b (p_in k (nI kc)))] (W_M (mv len fa hd dd sd sg es a wr) M)
  refine rr_eqb hC (off := 11) (tgt := 16) (by decide +kernel) (fun h5 => ?_) (fun h5 => ?_)
  · refine rr_go hC bk_X11_write_16_18 (l' := [(0, .ref 0), (1, .int k), (2, .int c)]) (st' := [.int (-1000000001)]) (w' := (W_M (mv len fa hd dd sd sg es a wr) M)) rfl ?_
    exact rr_reti hC (by decide +kernel) (by rfl) (by rfl) ⟨Nat.zero_le _, Nat.zero_le _⟩
  · refine rr_go hC bk_X11_write_8_10 (l' := [(0, .ref 0), (1, .int k), (2, .int c)]) (st' := [.int c, .ref 0]) (w' := (W_M (mv len fa hd dd sd sg es a wr) M)) rfl ?_
    refine rr_callVI hC (by decide +kernel) kl_11_179 fX11_isCell (m_isCell (mv len fa hd dd sd sg es a wr) M tc wd cc kc G hG c (by omega) (by omega) (by omega)) rfl rfl rfl rfl rfl (rest := []) rfl rfl ⟨Nat.zero_le _, Nat.zero_le _⟩ (Eq.refl 22) ?_
    show rr_J Z 3 0 0 _ 13 [(0, .ref 0), (1, .int k), (2, .int c)] [.int (rr_b (p_in c (nI cc)))] (W_M (mv len fa hd dd sd sg es a wr) M)
    refine rr_neb hC (off := 6) (tgt := 19) (by decide +kernel) (fun h13 => by  rcases hn with z | z; rw [z] at h5; cases h5; rw [z] at h13; cases h13) (fun h13 => ?_)
    refine rr_go hC bk_X11_write_16_18 (l' := [(0, .ref 0), (1, .int k), (2, .int c)]) (st' := [.int (-1000000001)]) (w' := (W_M (mv len fa hd dd sd sg es a wr) M)) rfl ?_
    exact rr_reti hC (by decide +kernel) (by rfl) (by rfl) ⟨Nat.zero_le _, Nat.zero_le _⟩
theorem bk_X11_write_19_25 : rr_chk mX11_write [(.aload_n 0, 0, 0, 0), (.getfield 41, 0, 11, 12), (.iconst 1, 1, 0, 0), (.iaload, 0, 1, 0)] 19 25 = true := by decide +kernel
theorem bk_X11_write_41_43 : rr_chk mX11_write [(.ldc 190, (-1000000003), 0, 0)] 41 43 = true := by decide +kernel
theorem bk_X11_write_28_35 : rr_chk mX11_write [(.aload_n 0, 0, 0, 0), (.aload_n 0, 0, 0, 0), (.getfield 41, 0, 11, 12), (.iload_n 1, 0, 1, 0), (.iload_n 2, 0, 2, 0)] 28 35 = true := by decide +kernel
set_option maxRecDepth 100000 in
set_option maxHeartbeats 4000000 in
theorem m_writeN (len : Nat) (fa : Int32) (hd : Bool) (dd : Nat) (sd : Int32) (sg es a : Nat) (wr : Int32) (M : Nat → Nat → Int32) (tc wd cc kc : Nat) (G : Nat → Nat → Int32) (hG : m_G M G tc wd cc kc) (q : p_Q) (hq : M 9 = en q) (k c : Nat) (htc : tc ≤ 12) (hcc : cc ≤ 9) (hkc : kc ≤ 6) (hu : q.1 ≤ 9100) (h0c : 0 < cc → 0 < tc) (h0k : 0 < kc → 0 < tc) (hI : m_I G cc kc q) (hk : k < kc) (hc : c < cc) (hm : p_may q.2.2.2.2 G q.2.1 tc kc q.1 k c = false) : rr_C mX11_write 6 [.ref 0, .int (nI k), .int (nI c)] (W_M (mv len fa hd dd sd sg es a wr) M) 0 0 (some (-1000000003)) (W_M (mv len fa hd dd sd sg es a wr) M) := by
  refine rr_C.of (n := 2) fX11_write.1 rfl rfl (fun Z hC => ?_)
  show rr_J Z 3 0 0 (rr_MQ Z 0 0 (some (-1000000003)) (W_M (mv len fa hd dd sd sg es a wr) M)) 0 [(0, .ref 0), (1, .int (nI k)), (2, .int (nI c))] [] (W_M (mv len fa hd dd sd sg es a wr) M)
  have hmm := hm
  rw [p_may_m hI hkc tc k (show c < 100000 by omega), Bool.and_eq_false_iff] at hmm
  refine rr_go hC bk_X11_write_0_2 (l' := [(0, .ref 0), (1, .int (nI k)), (2, .int (nI c))]) (st' := [.int (nI k), .ref 0]) (w' := (W_M (mv len fa hd dd sd sg es a wr) M)) rfl ?_
  refine rr_callVI hC (by decide +kernel) kl_11_174 fX11_isClause (m_isClause (mv len fa hd dd sd sg es a wr) M tc wd cc kc G hG (nI k) (by omega) (by omega) (by omega)) rfl rfl rfl rfl rfl (rest := []) rfl rfl ⟨Nat.zero_le _, Nat.zero_le _⟩ (Eq.refl 22) ?_
  show rr_J Z 3 0 0 _ 5 [(0, .ref 0), (1, .int (nI k)), (2, .int (nI c))] [.int (rr_b (p_in (nI k) (nI kc)))] (W_M (mv len fa hd dd sd sg es a wr) M)
  refine rr_eqb hC (off := 11) (tgt := 16) (by decide +kernel) (fun h5 => by  exact absurd h5 (by rw [p_in_n (by omega) (by omega)]; simp; omega)) (fun h5 => ?_)
  refine rr_go hC bk_X11_write_8_10 (l' := [(0, .ref 0), (1, .int (nI k)), (2, .int (nI c))]) (st' := [.int (nI c), .ref 0]) (w' := (W_M (mv len fa hd dd sd sg es a wr) M)) rfl ?_
  refine rr_callVI hC (by decide +kernel) kl_11_179 fX11_isCell (m_isCell (mv len fa hd dd sd sg es a wr) M tc wd cc kc G hG (nI c) (by omega) (by omega) (by omega)) rfl rfl rfl rfl rfl (rest := []) rfl rfl ⟨Nat.zero_le _, Nat.zero_le _⟩ (Eq.refl 22) ?_
  show rr_J Z 3 0 0 _ 13 [(0, .ref 0), (1, .int (nI k)), (2, .int (nI c))] [.int (rr_b (p_in (nI c) (nI cc)))] (W_M (mv len fa hd dd sd sg es a wr) M)
  refine rr_neb hC (off := 6) (tgt := 19) (by decide +kernel) (fun h13 => ?_) (fun h13 => by  exact absurd h13 (by rw [p_in_n (by omega) (by omega)]; simp; omega))
  refine rr_go hC bk_X11_write_19_25 (l' := [(0, .ref 0), (1, .int (nI k)), (2, .int (nI c))]) (st' := [.int (M 9 1)]) (w' := (W_M (mv len fa hd dd sd sg es a wr) M)) rfl ?_
  rw [hq, en_1]
  refine rr_if_ne hC (off := 16) (tgt := 41) (by decide +kernel) (fun h25 => ?_) (fun h25 => ?_)
  · refine rr_go hC bk_X11_write_41_43 (l' := [(0, .ref 0), (1, .int (nI k)), (2, .int (nI c))]) (st' := [.int (-1000000003)]) (w' := (W_M (mv len fa hd dd sd sg es a wr) M)) rfl ?_
    exact rr_reti hC (by decide +kernel) (by rfl) (by rfl) ⟨Nat.zero_le _, Nat.zero_le _⟩
  · refine rr_go hC bk_X11_write_28_35 (l' := [(0, .ref 0), (1, .int (nI k)), (2, .int (nI c))]) (st' := [.int (nI c), .int (nI k), .ref 10, .ref 0]) (w' := (W_M (mv len fa hd dd sd sg es a wr) M)) rfl ?_
    refine rr_callVI hC (by decide +kernel) kl_11_186 fX11_mayBe (m_mayBe_now (mv len fa hd dd sd sg es a wr) M tc wd cc kc G hG q hq k c (by omega) (by omega) (by omega) (h0c (by omega)) (by omega) (by omega) (by first | omega | (simp only [p_it_h, p_wr_h, p_sm_h, p_dd_h, p_d1_h, p_df_h]; omega))) rfl rfl rfl rfl rfl (rest := []) rfl rfl ⟨Nat.zero_le _, Nat.zero_le _⟩ (Eq.refl 22) ?_
    show rr_J Z 3 0 0 _ 38 [(0, .ref 0), (1, .int (nI k)), (2, .int (nI c))] [.int (rr_b (m_may q G tc k c))] (W_M (mv len fa hd dd sd sg es a wr) M)
    refine rr_neb hC (off := 6) (tgt := 44) (by decide +kernel) (fun h38 => by  rcases hmm with z | z; exact absurd (p_i0.mp h25) (of_decide_eq_false z); rw [z] at h38; cases h38) (fun h38 => ?_)
    refine rr_go hC bk_X11_write_41_43 (l' := [(0, .ref 0), (1, .int (nI k)), (2, .int (nI c))]) (st' := [.int (-1000000003)]) (w' := (W_M (mv len fa hd dd sd sg es a wr) M)) rfl ?_
    exact rr_reti hC (by decide +kernel) (by rfl) (by rfl) ⟨Nat.zero_le _, Nat.zero_le _⟩
theorem bk_X11_write_44_45 : rr_chk mX11_write [(.aload_n 0, 0, 0, 0)] 44 45 = true := by decide +kernel
theorem bk_X11_write_48_54 : rr_chk mX11_write [(.aload_n 0, 0, 0, 0), (.getfield 41, 0, 11, 12), (.iload_n 1, 0, 1, 0), (.iload_n 2, 0, 2, 0)] 48 54 = true := by decide +kernel
theorem bk_X11_write_57_64 : rr_chk mX11_write [(.aload_n 0, 0, 0, 0), (.getfield 26, 0, 11, 6), (.iconst 4, 4, 0, 0), (.iload_n 1, 0, 1, 0), (.imul, 0, 0, 0)] 57 64 = true := by decide +kernel
set_option maxRecDepth 100000 in
set_option maxHeartbeats 4000000 in
theorem m_write (len : Nat) (fa : Int32) (hd : Bool) (dd : Nat) (sd : Int32) (sg es a : Nat) (wr : Int32) (M : Nat → Nat → Int32) (tc wd cc kc : Nat) (G : Nat → Nat → Int32) (hG : m_G M G tc wd cc kc) (q : p_Q) (hq : M 9 = en q) (k c : Nat) (htc : tc ≤ 12) (hcc : cc ≤ 9) (hkc : kc ≤ 6) (hu : q.1 ≤ 9100) (h0c : 0 < cc → 0 < tc) (h0k : 0 < kc → 0 < tc) (hI : m_I G cc kc q) (hdd : dd ≤ 30) (hk : k < kc) (hc : c < cc) (hm : p_may q.2.2.2.2 G q.2.1 tc kc q.1 k c = true) : rr_C mX11_write 6 [.ref 0, .int (nI k), .int (nI c)] (W_M (mv len fa hd dd sd sg es a wr) M) 0 0 (some (G 2 k)) (W_M (mv len fa hd (m_nd dd) sd sg es a wr) (va_up (va_up M 11 (m_nt (M 11) (en q) dd)) 9 (en (p_wr q k c)))) := by
  refine rr_C.of (n := 2) fX11_write.1 rfl rfl (fun Z hC => ?_)
  show rr_J Z 3 0 0 (rr_MQ Z 0 0 (some (G 2 k)) (W_M (mv len fa hd (m_nd dd) sd sg es a wr) (va_up (va_up M 11 (m_nt (M 11) (en q) dd)) 9 (en (p_wr q k c))))) 0 [(0, .ref 0), (1, .int (nI k)), (2, .int (nI c))] [] (W_M (mv len fa hd dd sd sg es a wr) M)
  have hmm := hm
  rw [p_may_m hI hkc tc k (show c < 100000 by omega), Bool.and_eq_true] at hmm
  have hm1 := of_decide_eq_true hmm.1
  have hm2 := hmm.2
  refine rr_go hC bk_X11_write_0_2 (l' := [(0, .ref 0), (1, .int (nI k)), (2, .int (nI c))]) (st' := [.int (nI k), .ref 0]) (w' := (W_M (mv len fa hd dd sd sg es a wr) M)) rfl ?_
  refine rr_callVI hC (by decide +kernel) kl_11_174 fX11_isClause (m_isClause (mv len fa hd dd sd sg es a wr) M tc wd cc kc G hG (nI k) (by omega) (by omega) (by omega)) rfl rfl rfl rfl rfl (rest := []) rfl rfl ⟨Nat.zero_le _, Nat.zero_le _⟩ (Eq.refl 22) ?_
  show rr_J Z 3 0 0 _ 5 [(0, .ref 0), (1, .int (nI k)), (2, .int (nI c))] [.int (rr_b (p_in (nI k) (nI kc)))] (W_M (mv len fa hd dd sd sg es a wr) M)
  refine rr_eqb hC (off := 11) (tgt := 16) (by decide +kernel) (fun h5 => by  exact absurd h5 (by rw [p_in_n (by omega) (by omega)]; simp; omega)) (fun h5 => ?_)
  refine rr_go hC bk_X11_write_8_10 (l' := [(0, .ref 0), (1, .int (nI k)), (2, .int (nI c))]) (st' := [.int (nI c), .ref 0]) (w' := (W_M (mv len fa hd dd sd sg es a wr) M)) rfl ?_
  refine rr_callVI hC (by decide +kernel) kl_11_179 fX11_isCell (m_isCell (mv len fa hd dd sd sg es a wr) M tc wd cc kc G hG (nI c) (by omega) (by omega) (by omega)) rfl rfl rfl rfl rfl (rest := []) rfl rfl ⟨Nat.zero_le _, Nat.zero_le _⟩ (Eq.refl 22) ?_
  show rr_J Z 3 0 0 _ 13 [(0, .ref 0), (1, .int (nI k)), (2, .int (nI c))] [.int (rr_b (p_in (nI c) (nI cc)))] (W_M (mv len fa hd dd sd sg es a wr) M)
  refine rr_neb hC (off := 6) (tgt := 19) (by decide +kernel) (fun h13 => ?_) (fun h13 => by  exact absurd h13 (by rw [p_in_n (by omega) (by omega)]; simp; omega))
  refine rr_go hC bk_X11_write_19_25 (l' := [(0, .ref 0), (1, .int (nI k)), (2, .int (nI c))]) (st' := [.int (M 9 1)]) (w' := (W_M (mv len fa hd dd sd sg es a wr) M)) rfl ?_
  rw [hq, en_1]
  refine rr_if_ne hC (off := 16) (tgt := 41) (by decide +kernel) (fun h25 => by  exact absurd (p_i0.mpr hm1) h25) (fun h25 => ?_)
  refine rr_go hC bk_X11_write_28_35 (l' := [(0, .ref 0), (1, .int (nI k)), (2, .int (nI c))]) (st' := [.int (nI c), .int (nI k), .ref 10, .ref 0]) (w' := (W_M (mv len fa hd dd sd sg es a wr) M)) rfl ?_
  refine rr_callVI hC (by decide +kernel) kl_11_186 fX11_mayBe (m_mayBe_now (mv len fa hd dd sd sg es a wr) M tc wd cc kc G hG q hq k c (by omega) (by omega) (by omega) (h0c (by omega)) (by omega) (by omega) (by first | omega | (simp only [p_it_h, p_wr_h, p_sm_h, p_dd_h, p_d1_h, p_df_h]; omega))) rfl rfl rfl rfl rfl (rest := []) rfl rfl ⟨Nat.zero_le _, Nat.zero_le _⟩ (Eq.refl 22) ?_
  show rr_J Z 3 0 0 _ 38 [(0, .ref 0), (1, .int (nI k)), (2, .int (nI c))] [.int (rr_b (m_may q G tc k c))] (W_M (mv len fa hd dd sd sg es a wr) M)
  refine rr_neb hC (off := 6) (tgt := 44) (by decide +kernel) (fun h38 => ?_) (fun h38 => by  rw [hm2] at h38; cases h38)
  refine rr_go hC bk_X11_write_44_45 (l' := [(0, .ref 0), (1, .int (nI k)), (2, .int (nI c))]) (st' := [.ref 0]) (w' := (W_M (mv len fa hd dd sd sg es a wr) M)) rfl ?_
  refine rr_callVI hC (by decide +kernel) kl_11_191 fX11_notes (m_notes len fa hd dd sd sg es a wr M (by omega)) rfl rfl rfl rfl rfl (rest := []) rfl rfl ⟨Nat.zero_le _, Nat.zero_le _⟩ (Eq.refl 22) ?_
  show rr_J Z 3 0 0 _ 48 [(0, .ref 0), (1, .int (nI k)), (2, .int (nI c))] [] (W_M (mv len fa hd (m_nd dd) sd sg es a wr) (va_up M 11 (m_nt (M 11) (M 9) dd)))
  refine rr_cast (l' := [(0, .ref 0), (1, .int (nI k)), (2, .int (nI c))]) rfl (st' := []) rfl (w' := (W_M (mv len fa hd (m_nd dd) sd sg es a wr) (va_up M 11 (m_nt (M 11) (en q) dd)))) (by rw [hq]) ?_
  refine rr_go hC bk_X11_write_48_54 (l' := [(0, .ref 0), (1, .int (nI k)), (2, .int (nI c))]) (st' := [.int (nI c), .int (nI k), .ref 10]) (w' := (W_M (mv len fa hd (m_nd dd) sd sg es a wr) (va_up M 11 (m_nt (M 11) (en q) dd)))) rfl ?_
  refine rr_callS hC (by decide +kernel) kl_11_194 fX11_writes (m_writes (fun _ => M 9) q hq k c (by omega)) rfl rfl [10] rfl rfl (Eq.refl 1) rfl (rest := []) rfl rfl ⟨Nat.zero_le _, Nat.zero_le _⟩ (w2 := (W_M (mv len fa hd (m_nd dd) sd sg es a wr) (va_up (va_up M 11 (m_nt (M 11) (en q) dd)) 9 (en (p_wr q k c))))) rfl ?_
  show rr_J Z 3 0 0 _ 57 [(0, .ref 0), (1, .int (nI k)), (2, .int (nI c))] [] (W_M (mv len fa hd (m_nd dd) sd sg es a wr) (va_up (va_up M 11 (m_nt (M 11) (en q) dd)) 9 (en (p_wr q k c))))
  refine rr_go hC bk_X11_write_57_64 (l' := [(0, .ref 0), (1, .int (nI k)), (2, .int (nI c))]) (st' := [.int (4 * (nI k)), .ref 5]) (w' := (W_M (mv len fa hd (m_nd dd) sd sg es a wr) (va_up (va_up M 11 (m_nt (M 11) (en q) dd)) 9 (en (p_wr q k c))))) rfl ?_
  rw [show (4 * (nI k) : Int32) = nI (4 * k) from pk_mul 4 k]
  refine rr_iald hC (4 * k) (by decide +kernel) rfl rfl (by omega) rfl ?_
  show rr_J Z 3 0 0 _ 65 [(0, .ref 0), (1, .int (nI k)), (2, .int (nI c))] [.int (M 4 (4 * k))] (W_M (mv len fa hd (m_nd dd) sd sg es a wr) (va_up (va_up M 11 (m_nt (M 11) (en q) dd)) 9 (en (p_wr q k c))))
  rw [(hG.2.2.2.2.2.2 k hk).1]
  exact rr_reti hC (by decide +kernel) (by rfl) (by rfl) ⟨Nat.zero_le _, Nat.zero_le _⟩
theorem bk_X11_rub_0_2 : rr_chk mX11_rub [(.aload_n 0, 0, 0, 0), (.iload_n 1, 0, 1, 0)] 0 2 = true := by decide +kernel
theorem bk_X11_rub_8_10 : rr_chk mX11_rub [(.ldc 178, (-1000000001), 0, 0)] 8 10 = true := by decide +kernel
set_option maxRecDepth 100000 in
set_option maxHeartbeats 4000000 in
theorem m_rubU (len : Nat) (fa : Int32) (hd : Bool) (dd : Nat) (sd : Int32) (sg es a : Nat) (wr : Int32) (M : Nat → Nat → Int32) (tc wd cc kc : Nat) (G : Nat → Nat → Int32) (hG : m_G M G tc wd cc kc) (k : Int32) (htc : tc ≤ 12) (hcc : cc ≤ 9) (hkc : kc ≤ 6) (hn : p_in k (nI kc) = false) : rr_C mX11_rub 6 [.ref 0, .int k] (W_M (mv len fa hd dd sd sg es a wr) M) 0 0 (some (-1000000001)) (W_M (mv len fa hd dd sd sg es a wr) M) := by
  refine rr_C.of (n := 1) fX11_rub.1 rfl rfl (fun Z hC => ?_)
  show rr_J Z 3 0 0 (rr_MQ Z 0 0 (some (-1000000001)) (W_M (mv len fa hd dd sd sg es a wr) M)) 0 [(0, .ref 0), (1, .int k)] [] (W_M (mv len fa hd dd sd sg es a wr) M)
  refine rr_go hC bk_X11_rub_0_2 (l' := [(0, .ref 0), (1, .int k)]) (st' := [.int k, .ref 0]) (w' := (W_M (mv len fa hd dd sd sg es a wr) M)) rfl ?_
  refine rr_callVI hC (by decide +kernel) kl_11_174 fX11_isClause (m_isClause (mv len fa hd dd sd sg es a wr) M tc wd cc kc G hG k (by omega) (by omega) (by omega)) rfl rfl rfl rfl rfl (rest := []) rfl rfl ⟨Nat.zero_le _, Nat.zero_le _⟩ (Eq.refl 22) ?_
  show rr_J Z 3 0 0 _ 5 [(0, .ref 0), (1, .int k)] [.int (rr_b (p_in k (nI kc)))] (W_M (mv len fa hd dd sd sg es a wr) M)
  refine rr_neb hC (off := 6) (tgt := 11) (by decide +kernel) (fun h5 => by  rw [hn] at h5; cases h5) (fun h5 => ?_)
  refine rr_go hC bk_X11_rub_8_10 (l' := [(0, .ref 0), (1, .int k)]) (st' := [.int (-1000000001)]) (w' := (W_M (mv len fa hd dd sd sg es a wr) M)) rfl ?_
  exact rr_reti hC (by decide +kernel) (by rfl) (by rfl) ⟨Nat.zero_le _, Nat.zero_le _⟩
theorem bk_X11_rub_11_20 : rr_chk mX11_rub [(.aload_n 0, 0, 0, 0), (.getfield 41, 0, 11, 12), (.iconst 4, 4, 0, 0), (.iconst 3, 3, 0, 0), (.iload_n 1, 0, 1, 0), (.imul, 0, 0, 0), (.iadd, 0, 0, 0)] 11 20 = true := by decide +kernel
theorem bk_X11_rub_24_26 : rr_chk mX11_rub [(.ldc 190, (-1000000003), 0, 0)] 24 26 = true := by decide +kernel
set_option maxRecDepth 100000 in
set_option maxHeartbeats 4000000 in
theorem m_rubN (len : Nat) (fa : Int32) (hd : Bool) (dd : Nat) (sd : Int32) (sg es a : Nat) (wr : Int32) (M : Nat → Nat → Int32) (tc wd cc kc : Nat) (G : Nat → Nat → Int32) (hG : m_G M G tc wd cc kc) (q : p_Q) (hq : M 9 = en q) (k : Nat) (htc : tc ≤ 12) (hcc : cc ≤ 9) (hkc : kc ≤ 6) (hk : k < kc) (hm : q.2.2.2.2 0 k = -1) : rr_C mX11_rub 6 [.ref 0, .int (nI k)] (W_M (mv len fa hd dd sd sg es a wr) M) 0 0 (some (-1000000003)) (W_M (mv len fa hd dd sd sg es a wr) M) := by
  refine rr_C.of (n := 1) fX11_rub.1 rfl rfl (fun Z hC => ?_)
  show rr_J Z 3 0 0 (rr_MQ Z 0 0 (some (-1000000003)) (W_M (mv len fa hd dd sd sg es a wr) M)) 0 [(0, .ref 0), (1, .int (nI k))] [] (W_M (mv len fa hd dd sd sg es a wr) M)
  refine rr_go hC bk_X11_rub_0_2 (l' := [(0, .ref 0), (1, .int (nI k))]) (st' := [.int (nI k), .ref 0]) (w' := (W_M (mv len fa hd dd sd sg es a wr) M)) rfl ?_
  refine rr_callVI hC (by decide +kernel) kl_11_174 fX11_isClause (m_isClause (mv len fa hd dd sd sg es a wr) M tc wd cc kc G hG (nI k) (by omega) (by omega) (by omega)) rfl rfl rfl rfl rfl (rest := []) rfl rfl ⟨Nat.zero_le _, Nat.zero_le _⟩ (Eq.refl 22) ?_
  show rr_J Z 3 0 0 _ 5 [(0, .ref 0), (1, .int (nI k))] [.int (rr_b (p_in (nI k) (nI kc)))] (W_M (mv len fa hd dd sd sg es a wr) M)
  refine rr_neb hC (off := 6) (tgt := 11) (by decide +kernel) (fun h5 => ?_) (fun h5 => by  exact absurd h5 (by rw [p_in_n (by omega) (by omega)]; simp; omega))
  refine rr_go hC bk_X11_rub_11_20 (l' := [(0, .ref 0), (1, .int (nI k))]) (st' := [.int (4 + (3 * (nI k))), .ref 10]) (w' := (W_M (mv len fa hd dd sd sg es a wr) M)) rfl ?_
  rw [show (3 * (nI k) : Int32) = nI (3 * k) from pk_mul 3 k]
  rw [show (4 + (nI (3 * k)) : Int32) = nI (4 + (3 * k)) from nI_add 4 (3 * k)]
  refine rr_iald hC (4 + (3 * k)) (by decide +kernel) rfl rfl (by omega) rfl ?_
  show rr_J Z 3 0 0 _ 21 [(0, .ref 0), (1, .int (nI k))] [.int (M 9 (4 + (3 * k)))] (W_M (mv len fa hd dd sd sg es a wr) M)
  rw [hq, en_c q (show k < 6 by omega)]
  refine rr_if_ne hC (off := 6) (tgt := 27) (by decide +kernel) (fun h21 => by  exact absurd (p_i0.mpr hm) h21) (fun h21 => ?_)
  refine rr_go hC bk_X11_rub_24_26 (l' := [(0, .ref 0), (1, .int (nI k))]) (st' := [.int (-1000000003)]) (w' := (W_M (mv len fa hd dd sd sg es a wr) M)) rfl ?_
  exact rr_reti hC (by decide +kernel) (by rfl) (by rfl) ⟨Nat.zero_le _, Nat.zero_le _⟩
theorem bk_X11_rub_27_28 : rr_chk mX11_rub [(.aload_n 0, 0, 0, 0)] 27 28 = true := by decide +kernel
theorem bk_X11_rub_31_42 : rr_chk mX11_rub [(.aload_n 0, 0, 0, 0), (.getfield 41, 0, 11, 12), (.iconst 4, 4, 0, 0), (.iconst 3, 3, 0, 0), (.iload_n 1, 0, 1, 0), (.imul, 0, 0, 0), (.iadd, 0, 0, 0), (.iconst 1, 1, 0, 0), (.iadd, 0, 0, 0)] 31 42 = true := by decide +kernel
theorem bk_X11_rub_43_49 : rr_chk mX11_rub [(.istore_n 2, 0, 2, 0), (.aload_n 0, 0, 0, 0), (.getfield 41, 0, 11, 12), (.iload_n 1, 0, 1, 0)] 43 49 = true := by decide +kernel
theorem bk_X11_rub_52_53 : rr_chk mX11_rub [(.iload_n 2, 0, 2, 0)] 52 53 = true := by decide +kernel
set_option maxRecDepth 100000 in
set_option maxHeartbeats 4000000 in
theorem m_rub (len : Nat) (fa : Int32) (hd : Bool) (dd : Nat) (sd : Int32) (sg es a : Nat) (wr : Int32) (M : Nat → Nat → Int32) (tc wd cc kc : Nat) (G : Nat → Nat → Int32) (hG : m_G M G tc wd cc kc) (q : p_Q) (hq : M 9 = en q) (k : Nat) (htc : tc ≤ 12) (hcc : cc ≤ 9) (hkc : kc ≤ 6) (hdd : dd ≤ 30) (hk : k < kc) (hm : ¬ q.2.2.2.2 0 k = -1) : rr_C mX11_rub 6 [.ref 0, .int (nI k)] (W_M (mv len fa hd dd sd sg es a wr) M) 0 0 (some (q.2.2.2.2 1 k)) (W_M (mv len fa hd (m_nd dd) sd sg es a wr) (va_up (va_up M 11 (m_nt (M 11) (en q) dd)) 9 (en (p_rb q k)))) := by
  refine rr_C.of (n := 1) fX11_rub.1 rfl rfl (fun Z hC => ?_)
  show rr_J Z 3 0 0 (rr_MQ Z 0 0 (some (q.2.2.2.2 1 k)) (W_M (mv len fa hd (m_nd dd) sd sg es a wr) (va_up (va_up M 11 (m_nt (M 11) (en q) dd)) 9 (en (p_rb q k))))) 0 [(0, .ref 0), (1, .int (nI k))] [] (W_M (mv len fa hd dd sd sg es a wr) M)
  refine rr_go hC bk_X11_rub_0_2 (l' := [(0, .ref 0), (1, .int (nI k))]) (st' := [.int (nI k), .ref 0]) (w' := (W_M (mv len fa hd dd sd sg es a wr) M)) rfl ?_
  refine rr_callVI hC (by decide +kernel) kl_11_174 fX11_isClause (m_isClause (mv len fa hd dd sd sg es a wr) M tc wd cc kc G hG (nI k) (by omega) (by omega) (by omega)) rfl rfl rfl rfl rfl (rest := []) rfl rfl ⟨Nat.zero_le _, Nat.zero_le _⟩ (Eq.refl 22) ?_
  show rr_J Z 3 0 0 _ 5 [(0, .ref 0), (1, .int (nI k))] [.int (rr_b (p_in (nI k) (nI kc)))] (W_M (mv len fa hd dd sd sg es a wr) M)
  refine rr_neb hC (off := 6) (tgt := 11) (by decide +kernel) (fun h5 => ?_) (fun h5 => by  exact absurd h5 (by rw [p_in_n (by omega) (by omega)]; simp; omega))
  refine rr_go hC bk_X11_rub_11_20 (l' := [(0, .ref 0), (1, .int (nI k))]) (st' := [.int (4 + (3 * (nI k))), .ref 10]) (w' := (W_M (mv len fa hd dd sd sg es a wr) M)) rfl ?_
  rw [show (3 * (nI k) : Int32) = nI (3 * k) from pk_mul 3 k]
  rw [show (4 + (nI (3 * k)) : Int32) = nI (4 + (3 * k)) from nI_add 4 (3 * k)]
  refine rr_iald hC (4 + (3 * k)) (by decide +kernel) rfl rfl (by omega) rfl ?_
  show rr_J Z 3 0 0 _ 21 [(0, .ref 0), (1, .int (nI k))] [.int (M 9 (4 + (3 * k)))] (W_M (mv len fa hd dd sd sg es a wr) M)
  rw [hq, en_c q (show k < 6 by omega)]
  refine rr_if_ne hC (off := 6) (tgt := 27) (by decide +kernel) (fun h21 => ?_) (fun h21 => by  exact absurd (p_i0.mp h21) hm)
  refine rr_go hC bk_X11_rub_27_28 (l' := [(0, .ref 0), (1, .int (nI k))]) (st' := [.ref 0]) (w' := (W_M (mv len fa hd dd sd sg es a wr) M)) rfl ?_
  refine rr_callVI hC (by decide +kernel) kl_11_191 fX11_notes (m_notes len fa hd dd sd sg es a wr M (by omega)) rfl rfl rfl rfl rfl (rest := []) rfl rfl ⟨Nat.zero_le _, Nat.zero_le _⟩ (Eq.refl 22) ?_
  show rr_J Z 3 0 0 _ 31 [(0, .ref 0), (1, .int (nI k))] [] (W_M (mv len fa hd (m_nd dd) sd sg es a wr) (va_up M 11 (m_nt (M 11) (M 9) dd)))
  refine rr_cast (l' := [(0, .ref 0), (1, .int (nI k))]) rfl (st' := []) rfl (w' := (W_M (mv len fa hd (m_nd dd) sd sg es a wr) (va_up M 11 (m_nt (M 11) (en q) dd)))) (by rw [hq]) ?_
  refine rr_go hC bk_X11_rub_31_42 (l' := [(0, .ref 0), (1, .int (nI k))]) (st' := [.int ((4 + (3 * (nI k))) + 1), .ref 10]) (w' := (W_M (mv len fa hd (m_nd dd) sd sg es a wr) (va_up M 11 (m_nt (M 11) (en q) dd)))) rfl ?_
  rw [show (3 * (nI k) : Int32) = nI (3 * k) from pk_mul 3 k]
  rw [show (4 + (nI (3 * k)) : Int32) = nI (4 + (3 * k)) from nI_add 4 (3 * k)]
  rw [show ((nI (4 + (3 * k))) + 1 : Int32) = nI ((4 + (3 * k)) + 1) from nI_add (4 + (3 * k)) 1]
  refine rr_iald hC ((4 + (3 * k)) + 1) (by decide +kernel) rfl rfl (by omega) rfl ?_
  show rr_J Z 3 0 0 _ 43 [(0, .ref 0), (1, .int (nI k))] [.int (M 9 ((4 + (3 * k)) + 1))] (W_M (mv len fa hd (m_nd dd) sd sg es a wr) (va_up M 11 (m_nt (M 11) (en q) dd)))
  rw [hq, en_w q (show k < 6 by omega)]
  refine rr_go hC bk_X11_rub_43_49 (l' := [(0, .ref 0), (1, .int (nI k)), (2, .int (q.2.2.2.2 1 k))]) (st' := [.int (nI k), .ref 10]) (w' := (W_M (mv len fa hd (m_nd dd) sd sg es a wr) (va_up M 11 (m_nt (M 11) (en q) dd)))) rfl ?_
  refine rr_callS hC (by decide +kernel) kl_11_198 fX11_goes (m_goes (fun _ => M 9) q hq k (by omega)) rfl rfl [10] rfl rfl (Eq.refl 1) rfl (rest := []) rfl rfl ⟨Nat.zero_le _, Nat.zero_le _⟩ (w2 := (W_M (mv len fa hd (m_nd dd) sd sg es a wr) (va_up (va_up M 11 (m_nt (M 11) (en q) dd)) 9 (en (p_rb q k))))) rfl ?_
  show rr_J Z 3 0 0 _ 52 [(0, .ref 0), (1, .int (nI k)), (2, .int (q.2.2.2.2 1 k))] [] (W_M (mv len fa hd (m_nd dd) sd sg es a wr) (va_up (va_up M 11 (m_nt (M 11) (en q) dd)) 9 (en (p_rb q k))))
  refine rr_go hC bk_X11_rub_52_53 (l' := [(0, .ref 0), (1, .int (nI k)), (2, .int (q.2.2.2.2 1 k))]) (st' := [.int (q.2.2.2.2 1 k)]) (w' := (W_M (mv len fa hd (m_nd dd) sd sg es a wr) (va_up (va_up M 11 (m_nt (M 11) (en q) dd)) 9 (en (p_rb q k))))) rfl ?_
  exact rr_reti hC (by decide +kernel) (by rfl) (by rfl) ⟨Nat.zero_le _, Nat.zero_le _⟩
theorem bk_X11_storm_0_1 : rr_chk mX11_storm [(.aload_n 0, 0, 0, 0)] 0 1 = true := by decide +kernel
theorem bk_X11_storm_7_9 : rr_chk mX11_storm [(.ldc 190, (-1000000003), 0, 0)] 7 9 = true := by decide +kernel
set_option maxRecDepth 100000 in
set_option maxHeartbeats 4000000 in
theorem m_stormN (len : Nat) (fa : Int32) (hd : Bool) (dd : Nat) (sd : Int32) (sg es a : Nat) (wr : Int32) (M : Nat → Nat → Int32) (tc wd cc kc : Nat) (G : Nat → Nat → Int32) (hG : m_G M G tc wd cc kc) (htc : tc ≤ 12) (hcc : cc ≤ 9) (hkc : kc ≤ 6) (ht : tc = 0) : rr_C mX11_storm 6 [.ref 0] (W_M (mv len fa hd dd sd sg es a wr) M) 0 0 (some (-1000000003)) (W_M (mv len fa hd dd sd sg es a wr) M) := by
  refine rr_C.of (n := 0) fX11_storm.1 rfl rfl (fun Z hC => ?_)
  show rr_J Z 1 0 0 (rr_MQ Z 0 0 (some (-1000000003)) (W_M (mv len fa hd dd sd sg es a wr) M)) 0 [(0, .ref 0)] [] (W_M (mv len fa hd dd sd sg es a wr) M)
  refine rr_go hC bk_X11_storm_0_1 (l' := [(0, .ref 0)]) (st' := [.ref 0]) (w' := (W_M (mv len fa hd dd sd sg es a wr) M)) rfl ?_
  refine rr_callVI hC (by decide +kernel) kl_11_162 fX11_isStrand (m_isStrand (mv len fa hd dd sd sg es a wr) M tc wd cc kc G hG (by omega) (by omega) (by omega)) rfl rfl rfl rfl rfl (rest := []) rfl rfl ⟨Nat.zero_le _, Nat.zero_le _⟩ (Eq.refl 22) ?_
  show rr_J Z 1 0 0 _ 4 [(0, .ref 0)] [.int (rr_b (decide (0 < tc)))] (W_M (mv len fa hd dd sd sg es a wr) M)
  refine rr_neb hC (off := 6) (tgt := 10) (by decide +kernel) (fun h4 => by replace h4 := of_decide_eq_true h4; omega) (fun h4 => ?_)
  replace h4 := of_decide_eq_false h4
  refine rr_go hC bk_X11_storm_7_9 (l' := [(0, .ref 0)]) (st' := [.int (-1000000003)]) (w' := (W_M (mv len fa hd dd sd sg es a wr) M)) rfl ?_
  exact rr_reti hC (by decide +kernel) (by rfl) (by rfl) ⟨Nat.zero_le _, Nat.zero_le _⟩
theorem bk_X11_storm_10_11 : rr_chk mX11_storm [(.aload_n 0, 0, 0, 0)] 10 11 = true := by decide +kernel
theorem bk_X11_storm_14_18 : rr_chk mX11_storm [(.aload_n 0, 0, 0, 0), (.getfield 41, 0, 11, 12)] 14 18 = true := by decide +kernel
set_option maxRecDepth 100000 in
set_option maxHeartbeats 4000000 in
theorem m_storm (len : Nat) (fa : Int32) (hd : Bool) (dd : Nat) (sd : Int32) (sg es a : Nat) (wr : Int32) (M : Nat → Nat → Int32) (tc wd cc kc : Nat) (G : Nat → Nat → Int32) (hG : m_G M G tc wd cc kc) (q : p_Q) (hq : M 9 = en q) (htc : tc ≤ 12) (hcc : cc ≤ 9) (hkc : kc ≤ 6) (hI : m_I G cc kc q) (hdd : dd ≤ 30) (ht : 0 < tc) : rr_C mX11_storm 6 [.ref 0] (W_M (mv len fa hd dd sd sg es a wr) M) 0 0 (some (nI ((p_ra q.2.2.2.2 q.2.1 kc).2.2))) (W_M (mv len fa hd (m_nd dd) sd sg es a wr) (va_up (va_up M 11 (m_nt (M 11) (en q) dd)) 9 (en (p_sm q kc)))) := by
  refine rr_C.of (n := 0) fX11_storm.1 rfl rfl (fun Z hC => ?_)
  show rr_J Z 1 0 0 (rr_MQ Z 0 0 (some (nI ((p_ra q.2.2.2.2 q.2.1 kc).2.2))) (W_M (mv len fa hd (m_nd dd) sd sg es a wr) (va_up (va_up M 11 (m_nt (M 11) (en q) dd)) 9 (en (p_sm q kc))))) 0 [(0, .ref 0)] [] (W_M (mv len fa hd dd sd sg es a wr) M)
  refine rr_go hC bk_X11_storm_0_1 (l' := [(0, .ref 0)]) (st' := [.ref 0]) (w' := (W_M (mv len fa hd dd sd sg es a wr) M)) rfl ?_
  refine rr_callVI hC (by decide +kernel) kl_11_162 fX11_isStrand (m_isStrand (mv len fa hd dd sd sg es a wr) M tc wd cc kc G hG (by omega) (by omega) (by omega)) rfl rfl rfl rfl rfl (rest := []) rfl rfl ⟨Nat.zero_le _, Nat.zero_le _⟩ (Eq.refl 22) ?_
  show rr_J Z 1 0 0 _ 4 [(0, .ref 0)] [.int (rr_b (decide (0 < tc)))] (W_M (mv len fa hd dd sd sg es a wr) M)
  refine rr_neb hC (off := 6) (tgt := 10) (by decide +kernel) (fun h4 => ?_) (fun h4 => by replace h4 := of_decide_eq_false h4; omega)
  replace h4 := of_decide_eq_true h4
  refine rr_go hC bk_X11_storm_10_11 (l' := [(0, .ref 0)]) (st' := [.ref 0]) (w' := (W_M (mv len fa hd dd sd sg es a wr) M)) rfl ?_
  refine rr_callVI hC (by decide +kernel) kl_11_191 fX11_notes (m_notes len fa hd dd sd sg es a wr M (by omega)) rfl rfl rfl rfl rfl (rest := []) rfl rfl ⟨Nat.zero_le _, Nat.zero_le _⟩ (Eq.refl 22) ?_
  show rr_J Z 1 0 0 _ 14 [(0, .ref 0)] [] (W_M (mv len fa hd (m_nd dd) sd sg es a wr) (va_up M 11 (m_nt (M 11) (M 9) dd)))
  refine rr_cast (l' := [(0, .ref 0)]) rfl (st' := []) rfl (w' := (W_M (mv len fa hd (m_nd dd) sd sg es a wr) (va_up M 11 (m_nt (M 11) (en q) dd)))) (by rw [hq]) ?_
  refine rr_go hC bk_X11_storm_14_18 (l' := [(0, .ref 0)]) (st' := [.ref 10]) (w' := (W_M (mv len fa hd (m_nd dd) sd sg es a wr) (va_up M 11 (m_nt (M 11) (en q) dd)))) rfl ?_
  refine rr_callS hC (by decide +kernel) kl_11_202 fX11_sweeps (m_sweeps (fun _ => M 9) q hq  ) rfl rfl [10] rfl rfl (Eq.refl 1) rfl (rest := []) rfl rfl ⟨Nat.zero_le _, Nat.zero_le _⟩ (w2 := (W_M (mv len fa hd (m_nd dd) sd sg es a wr) (va_up (va_up M 11 (m_nt (M 11) (en q) dd)) 9 (en (p_sw q 6))))) rfl ?_
  show rr_J Z 1 0 0 _ 21 [(0, .ref 0)] [.int (nI (m_swc q 6))] (W_M (mv len fa hd (m_nd dd) sd sg es a wr) (va_up (va_up M 11 (m_nt (M 11) (en q) dd)) 9 (en (p_sw q 6))))
  refine rr_cast (l' := [(0, .ref 0)]) rfl (st' := [.int (nI (p_ra q.2.2.2.2 q.2.1 kc).2.2)]) (by rw [(p_sw_sm hI hcc hkc).2]) (w' := (W_M (mv len fa hd (m_nd dd) sd sg es a wr) (va_up (va_up M 11 (m_nt (M 11) (en q) dd)) 9 (en (p_sm q kc))))) (by rw [(p_sw_sm hI hcc hkc).1]) ?_
  exact rr_reti hC (by decide +kernel) (by rfl) (by rfl) ⟨Nat.zero_le _, Nat.zero_le _⟩
