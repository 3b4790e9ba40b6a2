/-! Strand: what is told. Pure words of it, and the contracts of the methods that only look -/
def gv (tc wd cc kc : Nat) (i : Nat) : Int32 := match i with
  | 0 => nI tc
  | 1 => nI wd
  | 2 => nI cc
  | _ => nI kc
/-- 0 ≤ k < n, as the class asks it -/
def p_in (k n : Int32) : Bool := !decide (k < 0) && !decide (n ≤ k)
theorem p_in_n {k n : Nat} (hk : k < 2 ^ 31) (hn : n < 2 ^ 31) : p_in (nI k) (nI n) = decide (k < n) := by
  have h1 : ¬ nI k < 0 := nI_pos hk
  by_cases h : k < n
  · have h2 : ¬ nI n ≤ nI k := nI_ge h hn
    simp [p_in, h1, h2, h]
  · have h2 : nI n ≤ nI k := nI_le (by omega) hk
    simp [p_in, h1, h2, h]
def p_tide (t : Nat → Int32) (tc h : Nat) : Int32 := if tc = 0 then 0 else t (h % tc)
/-- cell c is wet in hour h -/
def p_wet (G : Nat → Nat → Int32) (tc c h : Nat) : Bool := !decide (p_tide (G 0) tc h < G 1 c)
def p_wets (G : Nat → Nat → Int32) (tc h : Nat) : Nat → Int32
  | 0 => 0
  | c + 1 => if p_wet G tc c h = true then p_wets G tc h c ||| ((1 : Int32) <<< (nI c &&& 31)) else p_wets G tc h c
def p_fst (P : Nat → Bool) (a : Nat) : Nat → Nat
  | 0 => a
  | n + 1 => if P a = true then a else p_fst P (a + 1) n
def p_bit (x k : Int32) : Int32 := (x >>> (k &&& 31)) &&& 1
def p_sum (set : Int32) (f : Nat → Int32) : Nat → Int32
  | 0 => 0
  | k + 1 => if p_bit set (nI k) = 0 then p_sum set f k else p_sum set f k + f k
theorem bk_X8_hasClause_0_1 : rr_chk mX8_hasClause [(.iload_n 1, 0, 1, 0)] 0 1 = true := by decide +kernel
theorem bk_X8_hasClause_16_17 : rr_chk mX8_hasClause [(.iconst 0, 0, 0, 0)] 16 17 = true := by decide +kernel
theorem bk_X8_hasClause_4_9 : rr_chk mX8_hasClause [(.iload_n 1, 0, 1, 0), (.aload_n 0, 0, 0, 0), (.getfield 40, 0, 8, 9)] 4 9 = true := by decide +kernel
theorem bk_X8_hasClause_12_17 : rr_chk mX8_hasClause [(.iconst 1, 1, 0, 0), (.goto 4, 0, 0, 0)] 12 17 = true := by decide +kernel
set_option maxRecDepth 100000 in
set_option maxHeartbeats 4000000 in
theorem c8_hasClause (tc wd cc kc : Nat) (G : Nat → Nat → Int32) (k : Int32) : rr_C mX8_hasClause 0 [.ref 0, .int k] (W_G (gv tc wd cc kc) G) 0 0 (some (rr_b (p_in k (nI kc)))) (W_G (gv tc wd cc kc) G) := by
  refine rr_C.of (n := 1) fX8_hasClause.1 rfl rfl (fun Z hC => ?_)
  show rr_J Z 2 0 0 (rr_MQ Z 0 0 (some (rr_b (p_in k (nI kc)))) (W_G (gv tc wd cc kc) G)) 0 [(0, .ref 0), (1, .int k)] [] (W_G (gv tc wd cc kc) G)
  refine rr_go hC bk_X8_hasClause_0_1 (l' := [(0, .ref 0), (1, .int k)]) (st' := [.int k]) (w' := (W_G (gv tc wd cc kc) G)) rfl ?_
  refine rr_if_lt hC (off := 15) (tgt := 16) (by decide +kernel) (fun h1 => ?_) (fun h1 => ?_)
  · refine rr_go hC bk_X8_hasClause_16_17 (l' := [(0, .ref 0), (1, .int k)]) (st' := [.int 0]) (w' := (W_G (gv tc wd cc kc) G)) rfl ?_
    exact rr_retz hC (by decide +kernel) (Or.inl rfl) (by simp [p_in, rr_b, *]) (by rfl) ⟨Nat.zero_le _, Nat.zero_le _⟩
  · refine rr_go hC bk_X8_hasClause_4_9 (l' := [(0, .ref 0), (1, .int k)]) (st' := [.int (nI kc), .int k]) (w' := (W_G (gv tc wd cc kc) G)) rfl ?_
    refine rr_icmp_ge hC (off := 7) (tgt := 16) (by decide +kernel) (fun h9 => ?_) (fun h9 => ?_)
    · refine rr_go hC bk_X8_hasClause_16_17 (l' := [(0, .ref 0), (1, .int k)]) (st' := [.int 0]) (w' := (W_G (gv tc wd cc kc) G)) rfl ?_
      exact rr_retz hC (by decide +kernel) (Or.inl rfl) (by simp [p_in, rr_b, *]) (by rfl) ⟨Nat.zero_le _, Nat.zero_le _⟩
    · refine rr_go hC bk_X8_hasClause_12_17 (l' := [(0, .ref 0), (1, .int k)]) (st' := [.int 1]) (w' := (W_G (gv tc wd cc kc) G)) rfl ?_
      exact rr_retz hC (by decide +kernel) (Or.inr rfl) (by simp [p_in, rr_b, *]) (by rfl) ⟨Nat.zero_le _, Nat.zero_le _⟩
theorem bk_X8_hasCell_0_1 : rr_chk mX8_hasCell [(.iload_n 1, 0, 1, 0)] 0 1 = true := by decide +kernel
theorem bk_X8_hasCell_16_17 : rr_chk mX8_hasCell [(.iconst 0, 0, 0, 0)] 16 17 = true := by decide +kernel
theorem bk_X8_hasCell_4_9 : rr_chk mX8_hasCell [(.iload_n 1, 0, 1, 0), (.aload_n 0, 0, 0, 0), (.getfield 37, 0, 8, 8)] 4 9 = true := by decide +kernel
theorem bk_X8_hasCell_12_17 : rr_chk mX8_hasCell [(.iconst 1, 1, 0, 0), (.goto 4, 0, 0, 0)] 12 17 = true := by decide +kernel
set_option maxRecDepth 100000 in
set_option maxHeartbeats 4000000 in
theorem c8_hasCell (tc wd cc kc : Nat) (G : Nat → Nat → Int32) (k : Int32) : rr_C mX8_hasCell 0 [.ref 0, .int k] (W_G (gv tc wd cc kc) G) 0 0 (some (rr_b (p_in k (nI cc)))) (W_G (gv tc wd cc kc) G) := by
  refine rr_C.of (n := 1) fX8_hasCell.1 rfl rfl (fun Z hC => ?_)
  show rr_J Z 2 0 0 (rr_MQ Z 0 0 (some (rr_b (p_in k (nI cc)))) (W_G (gv tc wd cc kc) G)) 0 [(0, .ref 0), (1, .int k)] [] (W_G (gv tc wd cc kc) G)
  refine rr_go hC bk_X8_hasCell_0_1 (l' := [(0, .ref 0), (1, .int k)]) (st' := [.int k]) (w' := (W_G (gv tc wd cc kc) G)) rfl ?_
  refine rr_if_lt hC (off := 15) (tgt := 16) (by decide +kernel) (fun h1 => ?_) (fun h1 => ?_)
  · refine rr_go hC bk_X8_hasCell_16_17 (l' := [(0, .ref 0), (1, .int k)]) (st' := [.int 0]) (w' := (W_G (gv tc wd cc kc) G)) rfl ?_
    exact rr_retz hC (by decide +kernel) (Or.inl rfl) (by simp [p_in, rr_b, *]) (by rfl) ⟨Nat.zero_le _, Nat.zero_le _⟩
  · refine rr_go hC bk_X8_hasCell_4_9 (l' := [(0, .ref 0), (1, .int k)]) (st' := [.int (nI cc), .int k]) (w' := (W_G (gv tc wd cc kc) G)) rfl ?_
    refine rr_icmp_ge hC (off := 7) (tgt := 16) (by decide +kernel) (fun h9 => ?_) (fun h9 => ?_)
    · refine rr_go hC bk_X8_hasCell_16_17 (l' := [(0, .ref 0), (1, .int k)]) (st' := [.int 0]) (w' := (W_G (gv tc wd cc kc) G)) rfl ?_
      exact rr_retz hC (by decide +kernel) (Or.inl rfl) (by simp [p_in, rr_b, *]) (by rfl) ⟨Nat.zero_le _, Nat.zero_le _⟩
    · refine rr_go hC bk_X8_hasCell_12_17 (l' := [(0, .ref 0), (1, .int k)]) (st' := [.int 1]) (w' := (W_G (gv tc wd cc kc) G)) rfl ?_
      exact rr_retz hC (by decide +kernel) (Or.inr rfl) (by simp [p_in, rr_b, *]) (by rfl) ⟨Nat.zero_le _, Nat.zero_le _⟩
theorem bk_X8_isTold_0_4 : rr_chk mX8_isTold [(.aload_n 0, 0, 0, 0), (.getfield 30, 0, 8, 6)] 0 4 = true := by decide +kernel
theorem bk_X8_isTold_11_12 : rr_chk mX8_isTold [(.iconst 0, 0, 0, 0)] 11 12 = true := by decide +kernel
theorem bk_X8_isTold_7_12 : rr_chk mX8_isTold [(.iconst 1, 1, 0, 0), (.goto 4, 0, 0, 0)] 7 12 = true := by decide +kernel
set_option maxRecDepth 100000 in
set_option maxHeartbeats 4000000 in
theorem c8_isTold (tc wd cc kc : Nat) (G : Nat → Nat → Int32) (htc : tc ≤ 12) : rr_C mX8_isTold 0 [.ref 0] (W_G (gv tc wd cc kc) G) 0 0 (some (rr_b (decide (0 < tc)))) (W_G (gv tc wd cc kc) G) := by
  refine rr_C.of (n := 0) fX8_isTold.1 rfl rfl (fun Z hC => ?_)
  show rr_J Z 1 0 0 (rr_MQ Z 0 0 (some (rr_b (decide (0 < tc)))) (W_G (gv tc wd cc kc) G)) 0 [(0, .ref 0)] [] (W_G (gv tc wd cc kc) G)
  refine rr_go hC bk_X8_isTold_0_4 (l' := [(0, .ref 0)]) (st' := [.int (nI tc)]) (w' := (W_G (gv tc wd cc kc) G)) rfl ?_
  refine rr_if_le hC (off := 7) (tgt := 11) (by decide +kernel) (fun h4 => ?_) (fun h4 => ?_)
  · rw [rr_nl_le (b := 0) (by omega) (by omega)] at h4
    refine rr_go hC bk_X8_isTold_11_12 (l' := [(0, .ref 0)]) (st' := [.int 0]) (w' := (W_G (gv tc wd cc kc) G)) rfl ?_
    exact rr_retz hC (by decide +kernel) (Or.inl rfl) (by first | (simp [rr_b, show tc = 0 by omega]; done) | (simp [rr_b, show 0 < tc by omega]; done)) (by rfl) ⟨Nat.zero_le _, Nat.zero_le _⟩
  · rw [rr_nl_le (b := 0) (by omega) (by omega)] at h4
    refine rr_go hC bk_X8_isTold_7_12 (l' := [(0, .ref 0)]) (st' := [.int 1]) (w' := (W_G (gv tc wd cc kc) G)) rfl ?_
    exact rr_retz hC (by decide +kernel) (Or.inr rfl) (by first | (simp [rr_b, show tc = 0 by omega]; done) | (simp [rr_b, show 0 < tc by omega]; done)) (by rfl) ⟨Nat.zero_le _, Nat.zero_le _⟩
theorem bk_X8_hasSet_0_1 : rr_chk mX8_hasSet [(.iload_n 1, 0, 1, 0)] 0 1 = true := by decide +kernel
theorem bk_X8_hasSet_18_19 : rr_chk mX8_hasSet [(.iconst 0, 0, 0, 0)] 18 19 = true := by decide +kernel
theorem bk_X8_hasSet_4_11 : rr_chk mX8_hasSet [(.iload_n 1, 0, 1, 0), (.iconst 1, 1, 0, 0), (.aload_n 0, 0, 0, 0), (.getfield 40, 0, 8, 9), (.ishl, 0, 0, 0)] 4 11 = true := by decide +kernel
theorem bk_X8_hasSet_14_19 : rr_chk mX8_hasSet [(.iconst 1, 1, 0, 0), (.goto 4, 0, 0, 0)] 14 19 = true := by decide +kernel
set_option maxRecDepth 100000 in
set_option maxHeartbeats 4000000 in
theorem c8_hasSet (tc wd cc kc : Nat) (G : Nat → Nat → Int32) (k : Int32) : rr_C mX8_hasSet 0 [.ref 0, .int k] (W_G (gv tc wd cc kc) G) 0 0 (some (rr_b (p_in k ((1 : Int32) <<< (nI kc &&& 31))))) (W_G (gv tc wd cc kc) G) := by
  refine rr_C.of (n := 1) fX8_hasSet.1 rfl rfl (fun Z hC => ?_)
  show rr_J Z 2 0 0 (rr_MQ Z 0 0 (some (rr_b (p_in k ((1 : Int32) <<< (nI kc &&& 31))))) (W_G (gv tc wd cc kc) G)) 0 [(0, .ref 0), (1, .int k)] [] (W_G (gv tc wd cc kc) G)
  refine rr_go hC bk_X8_hasSet_0_1 (l' := [(0, .ref 0), (1, .int k)]) (st' := [.int k]) (w' := (W_G (gv tc wd cc kc) G)) rfl ?_
  refine rr_if_lt hC (off := 17) (tgt := 18) (by decide +kernel) (fun h1 => ?_) (fun h1 => ?_)
  · refine rr_go hC bk_X8_hasSet_18_19 (l' := [(0, .ref 0), (1, .int k)]) (st' := [.int 0]) (w' := (W_G (gv tc wd cc kc) G)) rfl ?_
    exact rr_retz hC (by decide +kernel) (Or.inl rfl) (by simp [p_in, rr_b, *]) (by rfl) ⟨Nat.zero_le _, Nat.zero_le _⟩
  · refine rr_go hC bk_X8_hasSet_4_11 (l' := [(0, .ref 0), (1, .int k)]) (st' := [.int (1 <<< (nI kc &&& 31)), .int k]) (w' := (W_G (gv tc wd cc kc) G)) rfl ?_
    refine rr_icmp_ge hC (off := 7) (tgt := 18) (by decide +kernel) (fun h11 => ?_) (fun h11 => ?_)
    · refine rr_go hC bk_X8_hasSet_18_19 (l' := [(0, .ref 0), (1, .int k)]) (st' := [.int 0]) (w' := (W_G (gv tc wd cc kc) G)) rfl ?_
      exact rr_retz hC (by decide +kernel) (Or.inl rfl) (by simp [p_in, rr_b, *]) (by rfl) ⟨Nat.zero_le _, Nat.zero_le _⟩
    · refine rr_go hC bk_X8_hasSet_14_19 (l' := [(0, .ref 0), (1, .int k)]) (st' := [.int 1]) (w' := (W_G (gv tc wd cc kc) G)) rfl ?_
      exact rr_retz hC (by decide +kernel) (Or.inr rfl) (by simp [p_in, rr_b, *]) (by rfl) ⟨Nat.zero_le _, Nat.zero_le _⟩
theorem bk_X8_tideAt_0_4 : rr_chk mX8_tideAt [(.aload_n 0, 0, 0, 0), (.getfield 30, 0, 8, 6)] 0 4 = true := by decide +kernel
theorem bk_X8_tideAt_11_12 : rr_chk mX8_tideAt [(.iconst 0, 0, 0, 0)] 11 12 = true := by decide +kernel
theorem bk_X8_tideAt_7_8 : rr_chk mX8_tideAt [(.iload_n 1, 0, 1, 0)] 7 8 = true := by decide +kernel
theorem bk_X8_tideAt_13_22 : rr_chk mX8_tideAt [(.aload_n 0, 0, 0, 0), (.getfield 9, 0, 8, 0), (.iload_n 1, 0, 1, 0), (.aload_n 0, 0, 0, 0), (.getfield 30, 0, 8, 6)] 13 22 = true := by decide +kernel
set_option maxRecDepth 100000 in
set_option maxHeartbeats 4000000 in
theorem c8_tideAt (tc wd cc kc : Nat) (G : Nat → Nat → Int32) (h : Nat) (htc : tc ≤ 12) (hh : h < 100000) : rr_C mX8_tideAt 0 [.ref 0, .int (nI h)] (W_G (gv tc wd cc kc) G) 0 0 (some (p_tide (G 0) tc h)) (W_G (gv tc wd cc kc) G) := by
  refine rr_C.of (n := 1) fX8_tideAt.1 rfl rfl (fun Z hC => ?_)
  show rr_J Z 2 0 0 (rr_MQ Z 0 0 (some (p_tide (G 0) tc h)) (W_G (gv tc wd cc kc) G)) 0 [(0, .ref 0), (1, .int (nI h))] [] (W_G (gv tc wd cc kc) G)
  refine rr_go hC bk_X8_tideAt_0_4 (l' := [(0, .ref 0), (1, .int (nI h))]) (st' := [.int (nI tc)]) (w' := (W_G (gv tc wd cc kc) G)) rfl ?_
  refine rr_if_le hC (off := 7) (tgt := 11) (by decide +kernel) (fun h4 => ?_) (fun h4 => ?_)
  · rw [rr_nl_le (b := 0) (by omega) (by omega)] at h4
    refine rr_go hC bk_X8_tideAt_11_12 (l' := [(0, .ref 0), (1, .int (nI h))]) (st' := [.int 0]) (w' := (W_G (gv tc wd cc kc) G)) rfl ?_
    exact rr_reti hC (by decide +kernel) (by first | (simp [p_tide, show tc = 0 by omega]; done) | (simp [p_tide, show ¬ tc = 0 by omega]; done)) (by rfl) ⟨Nat.zero_le _, Nat.zero_le _⟩
  · rw [rr_nl_le (b := 0) (by omega) (by omega)] at h4
    refine rr_go hC bk_X8_tideAt_7_8 (l' := [(0, .ref 0), (1, .int (nI h))]) (st' := [.int (nI h)]) (w' := (W_G (gv tc wd cc kc) G)) rfl ?_
    refine rr_if_ge hC (off := 5) (tgt := 13) (by decide +kernel) (fun h8 => ?_) (fun h8 => ?_)
    · rw [rr_ln_le (a := 0) (by omega) (by omega)] at h8
      refine rr_go hC bk_X8_tideAt_13_22 (l' := [(0, .ref 0), (1, .int (nI h))]) (st' := [.int (nI tc), .int (nI h), .ref 1]) (w' := (W_G (gv tc wd cc kc) G)) rfl ?_
      refine rr_irem hC (by decide +kernel) (by rw [rr_nl_eq (b := 0) (by omega) (by omega)]; omega) ?_
      rw [rr_remn (d := tc) (by omega) (by omega) (by omega)]
      show rr_J Z 2 0 0 _ 23 [(0, .ref 0), (1, .int (nI h))] [.int (nI (h % tc)), .ref 1] (W_G (gv tc wd cc kc) G)
      refine rr_iald hC (h % tc) (by decide +kernel) rfl rfl (Nat.lt_of_lt_of_le (Nat.mod_lt _ (by omega)) htc) rfl ?_
      show rr_J Z 2 0 0 _ 24 [(0, .ref 0), (1, .int (nI h))] [.int (G 0 (h % tc))] (W_G (gv tc wd cc kc) G)
      exact rr_reti hC (by decide +kernel) (by first | (simp [p_tide, show tc = 0 by omega]; done) | (simp [p_tide, show ¬ tc = 0 by omega]; done)) (by rfl) ⟨Nat.zero_le _, Nat.zero_le _⟩
    · rw [rr_ln_le (a := 0) (by omega) (by omega)] at h8
      refine rr_go hC bk_X8_tideAt_11_12 (l' := [(0, .ref 0), (1, .int (nI h))]) (st' := [.int 0]) (w' := (W_G (gv tc wd cc kc) G)) rfl ?_
      exact rr_reti hC (by decide +kernel) (by first | (simp [p_tide, show tc = 0 by omega]; done) | (simp [p_tide, show ¬ tc = 0 by omega]; done)) (by rfl) ⟨Nat.zero_le _, Nat.zero_le _⟩
theorem bk_X8_isWet_0_2 : rr_chk mX8_isWet [(.aload_n 0, 0, 0, 0), (.iload_n 1, 0, 1, 0)] 0 2 = true := by decide +kernel
theorem bk_X8_isWet_8_10 : rr_chk mX8_isWet [(.aload_n 0, 0, 0, 0), (.iload_n 2, 0, 2, 0)] 8 10 = true := by decide +kernel
theorem bk_X8_isWet_13_18 : rr_chk mX8_isWet [(.aload_n 0, 0, 0, 0), (.getfield 15, 0, 8, 1), (.iload_n 1, 0, 1, 0)] 13 18 = true := by decide +kernel
theorem bk_X8_isWet_26_27 : rr_chk mX8_isWet [(.iconst 0, 0, 0, 0)] 26 27 = true := by decide +kernel
theorem bk_X8_isWet_22_27 : rr_chk mX8_isWet [(.iconst 1, 1, 0, 0), (.goto 4, 0, 0, 0)] 22 27 = true := by decide +kernel
set_option maxRecDepth 100000 in
set_option maxHeartbeats 4000000 in
theorem c8_isWet (tc wd cc kc : Nat) (G : Nat → Nat → Int32) (c h : Nat) (htc : tc ≤ 12) (hcc : cc ≤ 9) (hc : c < cc) (hh : h < 100000) : rr_C mX8_isWet 1 [.ref 0, .int (nI c), .int (nI h)] (W_G (gv tc wd cc kc) G) 0 0 (some (rr_b (p_wet G tc c h))) (W_G (gv tc wd cc kc) G) := by
  refine rr_C.of (n := 2) fX8_isWet.1 rfl rfl (fun Z hC => ?_)
  show rr_J Z 3 0 0 (rr_MQ Z 0 0 (some (rr_b (p_wet G tc c h))) (W_G (gv tc wd cc kc) G)) 0 [(0, .ref 0), (1, .int (nI c)), (2, .int (nI h))] [] (W_G (gv tc wd cc kc) G)
  refine rr_go hC bk_X8_isWet_0_2 (l' := [(0, .ref 0), (1, .int (nI c)), (2, .int (nI h))]) (st' := [.int (nI c), .ref 0]) (w' := (W_G (gv tc wd cc kc) G)) rfl ?_
  refine rr_callV hC (by decide +kernel) kl_8_49 fX8_hasCell (c8_hasCell tc wd cc kc G (nI c)) rfl rfl [0, 1, 2, 3, 4, 5, 6] rfl rfl rfl rfl rfl rfl (rest := []) rfl rfl ⟨Nat.zero_le _, Nat.zero_le _⟩ (w2 := (W_G (gv tc wd cc kc) G)) rfl ?_
  show rr_J Z 3 0 0 _ 5 [(0, .ref 0), (1, .int (nI c)), (2, .int (nI h))] [.int (rr_b (p_in (nI c) (nI cc)))] (W_G (gv tc wd cc kc) G)
  refine rr_eqb hC (off := 21) (tgt := 26) (by decide +kernel) (fun h5 => by  exact absurd h5 (by rw [p_in_n (by omega) (by omega)]; simp [hc])) (fun h5 => ?_)
  refine rr_go hC bk_X8_isWet_8_10 (l' := [(0, .ref 0), (1, .int (nI c)), (2, .int (nI h))]) (st' := [.int (nI h), .ref 0]) (w' := (W_G (gv tc wd cc kc) G)) rfl ?_
  refine rr_callV hC (by decide +kernel) kl_8_53 fX8_tideAt (c8_tideAt tc wd cc kc G h (by omega) (by omega)) rfl rfl [0, 1, 2, 3, 4, 5, 6] rfl rfl rfl rfl rfl rfl (rest := []) rfl rfl ⟨Nat.zero_le _, Nat.zero_le _⟩ (w2 := (W_G (gv tc wd cc kc) G)) rfl ?_
  show rr_J Z 3 0 0 _ 13 [(0, .ref 0), (1, .int (nI c)), (2, .int (nI h))] [.int (p_tide (G 0) tc h)] (W_G (gv tc wd cc kc) G)
  refine rr_go hC bk_X8_isWet_13_18 (l' := [(0, .ref 0), (1, .int (nI c)), (2, .int (nI h))]) (st' := [.int (nI c), .ref 2, .int (p_tide (G 0) tc h)]) (w' := (W_G (gv tc wd cc kc) G)) rfl ?_
  refine rr_iald hC c (by decide +kernel) rfl rfl (by omega) rfl ?_
  show rr_J Z 3 0 0 _ 19 [(0, .ref 0), (1, .int (nI c)), (2, .int (nI h))] [.int (G 1 c), .int (p_tide (G 0) tc h)] (W_G (gv tc wd cc kc) G)
  refine rr_icmp_lt hC (off := 7) (tgt := 26) (by decide +kernel) (fun h19 => ?_) (fun h19 => ?_)
  · refine rr_go hC bk_X8_isWet_26_27 (l' := [(0, .ref 0), (1, .int (nI c)), (2, .int (nI h))]) (st' := [.int 0]) (w' := (W_G (gv tc wd cc kc) G)) rfl ?_
    exact rr_retz hC (by decide +kernel) (Or.inl rfl) (by simp [p_wet, rr_b, *]) (by rfl) ⟨Nat.zero_le _, Nat.zero_le _⟩
  · refine rr_go hC bk_X8_isWet_22_27 (l' := [(0, .ref 0), (1, .int (nI c)), (2, .int (nI h))]) (st' := [.int 1]) (w' := (W_G (gv tc wd cc kc) G)) rfl ?_
    exact rr_retz hC (by decide +kernel) (Or.inr rfl) (by simp [p_wet, rr_b, *]) (by rfl) ⟨Nat.zero_le _, Nat.zero_le _⟩
theorem bk_X8_wetSet_0_4 : rr_chk mX8_wetSet [(.iconst 0, 0, 0, 0), (.istore_n 2, 0, 2, 0), (.iconst 0, 0, 0, 0), (.istore_n 3, 0, 3, 0)] 0 4 = true := by decide +kernel
theorem bk_X8_wetSet_4_9 : rr_chk mX8_wetSet [(.iload_n 3, 0, 3, 0), (.aload_n 0, 0, 0, 0), (.getfield 37, 0, 8, 8)] 4 9 = true := by decide +kernel
theorem bk_X8_wetSet_33_34 : rr_chk mX8_wetSet [(.iload_n 2, 0, 2, 0)] 33 34 = true := by decide +kernel
theorem bk_X8_wetSet_12_15 : rr_chk mX8_wetSet [(.aload_n 0, 0, 0, 0), (.iload_n 3, 0, 3, 0), (.iload_n 1, 0, 1, 0)] 12 15 = true := by decide +kernel
theorem bk_X8_wetSet_27_4 : rr_chk mX8_wetSet [(.iinc 3 1, 1, 3, 0), (.goto (-26), 0, 0, 0)] 27 4 = true := by decide +kernel
theorem bk_X8_wetSet_21_4 : rr_chk mX8_wetSet [(.iload_n 2, 0, 2, 0), (.iconst 1, 1, 0, 0), (.iload_n 3, 0, 3, 0), (.ishl, 0, 0, 0), (.ior, 0, 0, 0), (.istore_n 2, 0, 2, 0), (.iinc 3 1, 1, 3, 0), (.goto (-26), 0, 0, 0)] 21 4 = true := by decide +kernel
set_option maxRecDepth 100000 in
set_option maxHeartbeats 4000000 in
theorem c8_wetSet (tc wd cc kc : Nat) (G : Nat → Nat → Int32) (h : Nat) (htc : tc ≤ 12) (hcc : cc ≤ 9) (hh : h < 100000) : rr_C mX8_wetSet 2 [.ref 0, .int (nI h)] (W_G (gv tc wd cc kc) G) 0 0 (some (p_wets G tc h cc)) (W_G (gv tc wd cc kc) G) := by
  refine rr_C.of (n := 1) fX8_wetSet.1 rfl rfl (fun Z hC => ?_)
  show rr_J Z 4 0 0 (rr_MQ Z 0 0 (some (p_wets G tc h cc)) (W_G (gv tc wd cc kc) G)) 0 [(0, .ref 0), (1, .int (nI h))] [] (W_G (gv tc wd cc kc) G)
  refine rr_go hC bk_X8_wetSet_0_4 (l' := [(0, .ref 0), (1, .int (nI h)), (2, .int 0), (3, .int 0)]) (st' := []) (w' := (W_G (gv tc wd cc kc) G)) rfl ?_
  have lp4 : ∀ (j c : Nat), c + j = cc → 0 ≤ c → rr_J Z 4 0 0 (rr_MQ Z 0 0 (some (p_wets G tc h cc)) (W_G (gv tc wd cc kc) G)) 4 [(0, .ref 0), (1, .int (nI h)), (2, .int (p_wets G tc h c)), (3, .int (nI c))] [] (W_G (gv tc wd cc kc) G) := by
    intro j
    induction j with
    | zero =>
      intro c hk4 hlo4
      refine rr_go hC bk_X8_wetSet_4_9 (l' := [(0, .ref 0), (1, .int (nI h)), (2, .int (p_wets G tc h c)), (3, .int (nI c))]) (st' := [.int (nI cc), .int (nI c)]) (w' := (W_G (gv tc wd cc kc) G)) rfl ?_
      refine rr_icmp_ge hC (off := 24) (tgt := 33) (by decide +kernel) (fun h9 => ?_) (fun h9 => by rw [rr_nn_le (by omega) (by omega)] at h9; omega)
      rw [rr_nn_le (by omega) (by omega)] at h9
      refine rr_go hC bk_X8_wetSet_33_34 (l' := [(0, .ref 0), (1, .int (nI h)), (2, .int (p_wets G tc h c)), (3, .int (nI c))]) (st' := [.int (p_wets G tc h c)]) (w' := (W_G (gv tc wd cc kc) G)) rfl ?_
      exact rr_reti hC (by decide +kernel) (by simp [show c = cc by omega]) (by rfl) ⟨Nat.zero_le _, Nat.zero_le _⟩
    | succ j ih =>
      intro c hk4 hlo4
      refine rr_go hC bk_X8_wetSet_4_9 (l' := [(0, .ref 0), (1, .int (nI h)), (2, .int (p_wets G tc h c)), (3, .int (nI c))]) (st' := [.int (nI cc), .int (nI c)]) (w' := (W_G (gv tc wd cc kc) G)) rfl ?_
      refine rr_icmp_ge hC (off := 24) (tgt := 33) (by decide +kernel) (fun h9 => by rw [rr_nn_le (by omega) (by omega)] at h9; omega) (fun h9 => ?_)
      rw [rr_nn_le (by omega) (by omega)] at h9
      refine rr_go hC bk_X8_wetSet_12_15 (l' := [(0, .ref 0), (1, .int (nI h)), (2, .int (p_wets G tc h c)), (3, .int (nI c))]) (st' := [.int (nI h), .int (nI c), .ref 0]) (w' := (W_G (gv tc wd cc kc) G)) rfl ?_
      refine rr_callV hC (by decide +kernel) kl_8_57 fX8_isWet (c8_isWet tc wd cc kc G c h (by omega) (by omega) (by omega) (by omega)) rfl rfl [0, 1, 2, 3, 4, 5, 6] rfl rfl rfl rfl rfl rfl (rest := []) rfl rfl ⟨Nat.zero_le _, Nat.zero_le _⟩ (w2 := (W_G (gv tc wd cc kc) G)) rfl ?_
      show rr_J Z 4 0 0 _ 18 [(0, .ref 0), (1, .int (nI h)), (2, .int (p_wets G tc h c)), (3, .int (nI c))] [.int (rr_b (p_wet G tc c h))] (W_G (gv tc wd cc kc) G)
      refine rr_eqb hC (off := 9) (tgt := 27) (by decide +kernel) (fun h18 => ?_) (fun h18 => ?_)
      · refine rr_go hC bk_X8_wetSet_27_4 (l' := [(0, .ref 0), (1, .int (nI h)), (2, .int (p_wets G tc h c)), (3, .int ((nI c) + 1))]) (st' := []) (w' := (W_G (gv tc wd cc kc) G)) rfl ?_
        simp only [rr_addl, rr_ladd, rr_lmul, rr_mull, nI_add, pk_mul, nI_1]
        exact rr_cast (l' := [(0, .ref 0), (1, .int (nI h)), (2, .int (p_wets G tc h (c + 1))), (3, .int (nI (c + 1)))]) (by simp [p_wets, *]) rfl (w' := (W_G (gv tc wd cc kc) G)) (by rfl) (ih (c + 1) (by omega) (by omega))
      · refine rr_go hC bk_X8_wetSet_21_4 (l' := [(0, .ref 0), (1, .int (nI h)), (2, .int ((p_wets G tc h c) ||| (1 <<< (nI c &&& 31)))), (3, .int ((nI c) + 1))]) (st' := []) (w' := (W_G (gv tc wd cc kc) G)) rfl ?_
        simp only [rr_addl, rr_ladd, rr_lmul, rr_mull, nI_add, pk_mul, nI_1]
        exact rr_cast (l' := [(0, .ref 0), (1, .int (nI h)), (2, .int (p_wets G tc h (c + 1))), (3, .int (nI (c + 1)))]) (by simp [p_wets, *]) rfl (w' := (W_G (gv tc wd cc kc) G)) (by rfl) (ih (c + 1) (by omega) (by omega))
  exact rr_cast (l' := [(0, .ref 0), (1, .int (nI h)), (2, .int (p_wets G tc h 0)), (3, .int (nI 0))]) (by simp [p_wets, *]) rfl (w' := (W_G (gv tc wd cc kc) G)) (by rfl) (lp4 (cc - 0) 0 (by omega) (Nat.le_refl _))
