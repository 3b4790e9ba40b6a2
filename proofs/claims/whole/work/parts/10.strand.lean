/-! Strand: what is told. Pure words of it, and the contracts of the methods that only look -/
def gv (tc wd cc kc : Nat) (i : Nat) : Int32 := match i with
  | 0 => nI tc
  | 1 => nI wd
  | 2 => nI cc
  | _ => nI kc
/-- 0 ≤ k < n, as the class asks it -/
def p_in (k n : Int32) : Bool := !decide (k < 0) && !decide (n ≤ k)
theorem p_in_n {k n : Nat} (hk : k < 2 ^ 31) (hn : n < 2 ^ 31) : p_in (nI k) (nI n) = decide (k < n) := by
  have h1 : ¬ nI k < 0 := nI_pos hk
  by_cases h : k < n
  · have h2 : ¬ nI n ≤ nI k := nI_ge h hn
    simp [p_in, h1, h2, h]
  · have h2 : nI n ≤ nI k := nI_le (by omega) hk
    simp [p_in, h1, h2, h]
def p_tide (t : Nat → Int32) (tc h : Nat) : Int32 := if tc = 0 then 0 else t (h % tc)
/-- cell c is wet in hour h -/
def p_wet (G : Nat → Nat → Int32) (tc c h : Nat) : Bool := !decide (p_tide (G 0) tc h < G 1 c)
def p_wets (G : Nat → Nat → Int32) (tc h : Nat) : Nat → Int32
  | 0 => 0
  | c + 1 => if p_wet G tc c h = true then p_wets G tc h c ||| ((1 : Int32) <<< (nI c &&& 31)) else p_wets G tc h c
def p_fst (P : Nat → Bool) (a : Nat) : Nat → Nat
  | 0 => a
  | n + 1 => if P a = true then a else p_fst P (a + 1) n
theorem rr_b_inj {a b : Bool} : rr_b a = rr_b b ↔ a = b := by cases a <;> cases b <;> simp [rr_b]
def p_all (P : Nat → Bool) : Nat → Bool
  | 0 => true
  | k + 1 => p_all P k && P k
theorem p_all_no {P : Nat → Bool} {k n : Nat} (h : k < n) (hk : P k = false) : p_all P n = false := by
  induction n with
  | zero => omega
  | succ n ih =>
    by_cases e : k = n
    · subst e; simp [p_all, hk]
    · simp [p_all, ih (by omega)]
theorem p_all_iff {P : Nat → Bool} {n : Nat} : p_all P n = true ↔ ∀ k, k < n → P k = true := by
  induction n with
  | zero => simp [p_all]
  | succ n ih =>
    simp only [p_all, Bool.and_eq_true, ih]
    constructor
    · intro h k hk
      by_cases e : k = n
      · subst e; exact h.2
      · exact h.1 k (by omega)
    · intro h
      exact ⟨fun k hk => h k (by omega), h n (by omega)⟩
def p_bit (x k : Int32) : Int32 := (x >>> (k &&& 31)) &&& 1
def p_sum (set : Int32) (f : Nat → Int32) : Nat → Int32
  | 0 => 0
  | k + 1 => if p_bit set (nI k) = 0 then p_sum set f k else p_sum set f k + f k
/-- all that clause k of the set leans on is in the set -/
def p_whk (set : Int32) (le : Nat → Int32) (kc k : Nat) : Bool := decide (p_bit set (nI k) = 0) || (!p_in (le k) (nI kc) || !decide (p_bit set (le k) = 0))
def p_lean (le : Nat → Int32) (kc k : Nat) : Nat → Int32
  | 0 => (1 : Int32) <<< (nI k &&& 31)
  | o + 1 => if o ≤ k then (1 : Int32) <<< (nI k &&& 31) else if p_in (le o) (nI kc) = true ∧ ¬ p_bit (p_lean le kc k o) (le o) = 0 then p_lean le kc k o ||| ((1 : Int32) <<< (nI o &&& 31)) else p_lean le kc k o
theorem bk_X8_hasClause_0_1 : rr_chk mX8_hasClause [(.iload_n 1, 0, 1, 0)] 0 1 = true := by decide +kernel
theorem bk_X8_hasClause_16_17 : rr_chk mX8_hasClause [(.iconst 0, 0, 0, 0)] 16 17 = true := by decide +kernel
theorem bk_X8_hasClause_4_9 : rr_chk mX8_hasClause [(.iload_n 1, 0, 1, 0), (.aload_n 0, 0, 0, 0), (.getfield 40, 0, 8, 9)] 4 9 = true := by decide +kernel
theorem bk_X8_hasClause_12_17 : rr_chk mX8_hasClause [(.iconst 1, 1, 0, 0), (.goto 4, 0, 0, 0)] 12 17 = true := by decide +kernel
set_option maxRecDepth 100000 in
set_option maxHeartbeats 4000000 in
theorem c8_hasClause (tc wd cc kc : Nat) (G : Nat → Nat → Int32) (k : Int32) : rr_C mX8_hasClause 0 [.ref 0, .int k] (W_G (gv tc wd cc kc) G) 0 0 (some (rr_b (p_in k (nI kc)))) (W_G (gv tc wd cc kc) G) := by
  refine rr_C.of (n := 1) fX8_hasClause.1 rfl rfl (fun Z hC => ?_)
  show rr_J Z 2 0 0 (rr_MQ Z 0 0 (some (rr_b (p_in k (nI kc)))) (W_G (gv tc wd cc kc) G)) 0 [(0, .ref 0), (1, .int k)] [] (W_G (gv tc wd cc kc) G)
  refine rr_go hC bk_X8_hasClause_0_1 (l' := [(0, .ref 0), (1, .int k)]) (st' := [.int k]) (w' := (W_G (gv tc wd cc kc) G)) rfl ?_
  refine rr_if_lt hC (off := 15) (tgt := 16) (by decide +kernel) (fun h1 => ?_) (fun h1 => ?_)
  · refine rr_go hC bk_X8_hasClause_16_17 (l' := [(0, .ref 0), (1, .int k)]) (st' := [.int 0]) (w' := (W_G (gv tc wd cc kc) G)) rfl ?_
    exact rr_retz hC (by decide +kernel) (Or.inl rfl) (by simp [p_in, rr_b, *]) (by rfl) ⟨Nat.zero_le _, Nat.zero_le _⟩
  · refine rr_go hC bk_X8_hasClause_4_9 (l' := [(0, .ref 0), (1, .int k)]) (st' := [.int (nI kc), .int k]) (w' := (W_G (gv tc wd cc kc) G)) rfl ?_
    refine rr_icmp_ge hC (off := 7) (tgt := 16) (by decide +kernel) (fun h9 => ?_) (fun h9 => ?_)
    · refine rr_go hC bk_X8_hasClause_16_17 (l' := [(0, .ref 0), (1, .int k)]) (st' := [.int 0]) (w' := (W_G (gv tc wd cc kc) G)) rfl ?_
      exact rr_retz hC (by decide +kernel) (Or.inl rfl) (by simp [p_in, rr_b, *]) (by rfl) ⟨Nat.zero_le _, Nat.zero_le _⟩
    · refine rr_go hC bk_X8_hasClause_12_17 (l' := [(0, .ref 0), (1, .int k)]) (st' := [.int 1]) (w' := (W_G (gv tc wd cc kc) G)) rfl ?_
      exact rr_retz hC (by decide +kernel) (Or.inr rfl) (by simp [p_in, rr_b, *]) (by rfl) ⟨Nat.zero_le _, Nat.zero_le _⟩
theorem bk_X8_hasCell_0_1 : rr_chk mX8_hasCell [(.iload_n 1, 0, 1, 0)] 0 1 = true := by decide +kernel
theorem bk_X8_hasCell_16_17 : rr_chk mX8_hasCell [(.iconst 0, 0, 0, 0)] 16 17 = true := by decide +kernel
theorem bk_X8_hasCell_4_9 : rr_chk mX8_hasCell [(.iload_n 1, 0, 1, 0), (.aload_n 0, 0, 0, 0), (.getfield 37, 0, 8, 8)] 4 9 = true := by decide +kernel
theorem bk_X8_hasCell_12_17 : rr_chk mX8_hasCell [(.iconst 1, 1, 0, 0), (.goto 4, 0, 0, 0)] 12 17 = true := by decide +kernel
set_option maxRecDepth 100000 in
set_option maxHeartbeats 4000000 in
theorem c8_hasCell (tc wd cc kc : Nat) (G : Nat → Nat → Int32) (k : Int32) : rr_C mX8_hasCell 0 [.ref 0, .int k] (W_G (gv tc wd cc kc) G) 0 0 (some (rr_b (p_in k (nI cc)))) (W_G (gv tc wd cc kc) G) := by
  refine rr_C.of (n := 1) fX8_hasCell.1 rfl rfl (fun Z hC => ?_)
  show rr_J Z 2 0 0 (rr_MQ Z 0 0 (some (rr_b (p_in k (nI cc)))) (W_G (gv tc wd cc kc) G)) 0 [(0, .ref 0), (1, .int k)] [] (W_G (gv tc wd cc kc) G)
  refine rr_go hC bk_X8_hasCell_0_1 (l' := [(0, .ref 0), (1, .int k)]) (st' := [.int k]) (w' := (W_G (gv tc wd cc kc) G)) rfl ?_
  refine rr_if_lt hC (off := 15) (tgt := 16) (by decide +kernel) (fun h1 => ?_) (fun h1 => ?_)
  · refine rr_go hC bk_X8_hasCell_16_17 (l' := [(0, .ref 0), (1, .int k)]) (st' := [.int 0]) (w' := (W_G (gv tc wd cc kc) G)) rfl ?_
    exact rr_retz hC (by decide +kernel) (Or.inl rfl) (by simp [p_in, rr_b, *]) (by rfl) ⟨Nat.zero_le _, Nat.zero_le _⟩
  · refine rr_go hC bk_X8_hasCell_4_9 (l' := [(0, .ref 0), (1, .int k)]) (st' := [.int (nI cc), .int k]) (w' := (W_G (gv tc wd cc kc) G)) rfl ?_
    refine rr_icmp_ge hC (off := 7) (tgt := 16) (by decide +kernel) (fun h9 => ?_) (fun h9 => ?_)
    · refine rr_go hC bk_X8_hasCell_16_17 (l' := [(0, .ref 0), (1, .int k)]) (st' := [.int 0]) (w' := (W_G (gv tc wd cc kc) G)) rfl ?_
      exact rr_retz hC (by decide +kernel) (Or.inl rfl) (by simp [p_in, rr_b, *]) (by rfl) ⟨Nat.zero_le _, Nat.zero_le _⟩
    · refine rr_go hC bk_X8_hasCell_12_17 (l' := [(0, .ref 0), (1, .int k)]) (st' := [.int 1]) (w' := (W_G (gv tc wd cc kc) G)) rfl ?_
      exact rr_retz hC (by decide +kernel) (Or.inr rfl) (by simp [p_in, rr_b, *]) (by rfl) ⟨Nat.zero_le _, Nat.zero_le _⟩
theorem bk_X8_isTold_0_4 : rr_chk mX8_isTold [(.aload_n 0, 0, 0, 0), (.getfield 30, 0, 8, 6)] 0 4 = true := by decide +kernel
theorem bk_X8_isTold_11_12 : rr_chk mX8_isTold [(.iconst 0, 0, 0, 0)] 11 12 = true := by decide +kernel
theorem bk_X8_isTold_7_12 : rr_chk mX8_isTold [(.iconst 1, 1, 0, 0), (.goto 4, 0, 0, 0)] 7 12 = true := by decide +kernel
set_option maxRecDepth 100000 in
set_option maxHeartbeats 4000000 in
theorem c8_isTold (tc wd cc kc : Nat) (G : Nat → Nat → Int32) (htc : tc ≤ 12) : rr_C mX8_isTold 0 [.ref 0] (W_G (gv tc wd cc kc) G) 0 0 (some (rr_b (decide (0 < tc)))) (W_G (gv tc wd cc kc) G) := by
  refine rr_C.of (n := 0) fX8_isTold.1 rfl rfl (fun Z hC => ?_)
  show rr_J Z 1 0 0 (rr_MQ Z 0 0 (some (rr_b (decide (0 < tc)))) (W_G (gv tc wd cc kc) G)) 0 [(0, .ref 0)] [] (W_G (gv tc wd cc kc) G)
  refine rr_go hC bk_X8_isTold_0_4 (l' := [(0, .ref 0)]) (st' := [.int (nI tc)]) (w' := (W_G (gv tc wd cc kc) G)) rfl ?_
  refine rr_if_le hC (off := 7) (tgt := 11) (by decide +kernel) (fun h4 => ?_) (fun h4 => ?_)
  · rw [rr_nl_le (b := 0) (by omega) (by omega)] at h4
    refine rr_go hC bk_X8_isTold_11_12 (l' := [(0, .ref 0)]) (st' := [.int 0]) (w' := (W_G (gv tc wd cc kc) G)) rfl ?_
    exact rr_retz hC (by decide +kernel) (Or.inl rfl) (by first | (simp [rr_b, show tc = 0 by omega]; done) | (simp [rr_b, show 0 < tc by omega]; done)) (by rfl) ⟨Nat.zero_le _, Nat.zero_le _⟩
  · rw [rr_nl_le (b := 0) (by omega) (by omega)] at h4
    refine rr_go hC bk_X8_isTold_7_12 (l' := [(0, .ref 0)]) (st' := [.int 1]) (w' := (W_G (gv tc wd cc kc) G)) rfl ?_
    exact rr_retz hC (by decide +kernel) (Or.inr rfl) (by first | (simp [rr_b, show tc = 0 by omega]; done) | (simp [rr_b, show 0 < tc by omega]; done)) (by rfl) ⟨Nat.zero_le _, Nat.zero_le _⟩
theorem bk_X8_hasSet_0_1 : rr_chk mX8_hasSet [(.iload_n 1, 0, 1, 0)] 0 1 = true := by decide +kernel
theorem bk_X8_hasSet_18_19 : rr_chk mX8_hasSet [(.iconst 0, 0, 0, 0)] 18 19 = true := by decide +kernel
theorem bk_X8_hasSet_4_11 : rr_chk mX8_hasSet [(.iload_n 1, 0, 1, 0), (.iconst 1, 1, 0, 0), (.aload_n 0, 0, 0, 0), (.getfield 40, 0, 8, 9), (.ishl, 0, 0, 0)] 4 11 = true := by decide +kernel
theorem bk_X8_hasSet_14_19 : rr_chk mX8_hasSet [(.iconst 1, 1, 0, 0), (.goto 4, 0, 0, 0)] 14 19 = true := by decide +kernel
set_option maxRecDepth 100000 in
set_option maxHeartbeats 4000000 in
theorem c8_hasSet (tc wd cc kc : Nat) (G : Nat → Nat → Int32) (k : Int32) : rr_C mX8_hasSet 0 [.ref 0, .int k] (W_G (gv tc wd cc kc) G) 0 0 (some (rr_b (p_in k ((1 : Int32) <<< (nI kc &&& 31))))) (W_G (gv tc wd cc kc) G) := by
  refine rr_C.of (n := 1) fX8_hasSet.1 rfl rfl (fun Z hC => ?_)
  show rr_J Z 2 0 0 (rr_MQ Z 0 0 (some (rr_b (p_in k ((1 : Int32) <<< (nI kc &&& 31))))) (W_G (gv tc wd cc kc) G)) 0 [(0, .ref 0), (1, .int k)] [] (W_G (gv tc wd cc kc) G)
  refine rr_go hC bk_X8_hasSet_0_1 (l' := [(0, .ref 0), (1, .int k)]) (st' := [.int k]) (w' := (W_G (gv tc wd cc kc) G)) rfl ?_
  refine rr_if_lt hC (off := 17) (tgt := 18) (by decide +kernel) (fun h1 => ?_) (fun h1 => ?_)
  · refine rr_go hC bk_X8_hasSet_18_19 (l' := [(0, .ref 0), (1, .int k)]) (st' := [.int 0]) (w' := (W_G (gv tc wd cc kc) G)) rfl ?_
    exact rr_retz hC (by decide +kernel) (Or.inl rfl) (by simp [p_in, rr_b, *]) (by rfl) ⟨Nat.zero_le _, Nat.zero_le _⟩
  · refine rr_go hC bk_X8_hasSet_4_11 (l' := [(0, .ref 0), (1, .int k)]) (st' := [.int (1 <<< (nI kc &&& 31)), .int k]) (w' := (W_G (gv tc wd cc kc) G)) rfl ?_
    refine rr_icmp_ge hC (off := 7) (tgt := 18) (by decide +kernel) (fun h11 => ?_) (fun h11 => ?_)
    · refine rr_go hC bk_X8_hasSet_18_19 (l' := [(0, .ref 0), (1, .int k)]) (st' := [.int 0]) (w' := (W_G (gv tc wd cc kc) G)) rfl ?_
      exact rr_retz hC (by decide +kernel) (Or.inl rfl) (by simp [p_in, rr_b, *]) (by rfl) ⟨Nat.zero_le _, Nat.zero_le _⟩
    · refine rr_go hC bk_X8_hasSet_14_19 (l' := [(0, .ref 0), (1, .int k)]) (st' := [.int 1]) (w' := (W_G (gv tc wd cc kc) G)) rfl ?_
      exact rr_retz hC (by decide +kernel) (Or.inr rfl) (by simp [p_in, rr_b, *]) (by rfl) ⟨Nat.zero_le _, Nat.zero_le _⟩
theorem bk_X8_tideAt_0_4 : rr_chk mX8_tideAt [(.aload_n 0, 0, 0, 0), (.getfield 30, 0, 8, 6)] 0 4 = true := by decide +kernel
theorem bk_X8_tideAt_11_12 : rr_chk mX8_tideAt [(.iconst 0, 0, 0, 0)] 11 12 = true := by decide +kernel
theorem bk_X8_tideAt_7_8 : rr_chk mX8_tideAt [(.iload_n 1, 0, 1, 0)] 7 8 = true := by decide +kernel
theorem bk_X8_tideAt_13_22 : rr_chk mX8_tideAt [(.aload_n 0, 0, 0, 0), (.getfield 9, 0, 8, 0), (.iload_n 1, 0, 1, 0), (.aload_n 0, 0, 0, 0), (.getfield 30, 0, 8, 6)] 13 22 = true := by decide +kernel
set_option maxRecDepth 100000 in
set_option maxHeartbeats 4000000 in
theorem c8_tideAt (tc wd cc kc : Nat) (G : Nat → Nat → Int32) (h : Nat) (htc : tc ≤ 12) (hh : h < 100000) : rr_C mX8_tideAt 0 [.ref 0, .int (nI h)] (W_G (gv tc wd cc kc) G) 0 0 (some (p_tide (G 0) tc h)) (W_G (gv tc wd cc kc) G) := by
  refine rr_C.of (n := 1) fX8_tideAt.1 rfl rfl (fun Z hC => ?_)
  show rr_J Z 2 0 0 (rr_MQ Z 0 0 (some (p_tide (G 0) tc h)) (W_G (gv tc wd cc kc) G)) 0 [(0, .ref 0), (1, .int (nI h))] [] (W_G (gv tc wd cc kc) G)
  refine rr_go hC bk_X8_tideAt_0_4 (l' := [(0, .ref 0), (1, .int (nI h))]) (st' := [.int (nI tc)]) (w' := (W_G (gv tc wd cc kc) G)) rfl ?_
  refine rr_if_le hC (off := 7) (tgt := 11) (by decide +kernel) (fun h4 => ?_) (fun h4 => ?_)
  · rw [rr_nl_le (b := 0) (by omega) (by omega)] at h4
    refine rr_go hC bk_X8_tideAt_11_12 (l' := [(0, .ref 0), (1, .int (nI h))]) (st' := [.int 0]) (w' := (W_G (gv tc wd cc kc) G)) rfl ?_
    exact rr_reti hC (by decide +kernel) (by first | (simp [p_tide, show tc = 0 by omega]; done) | (simp [p_tide, show ¬ tc = 0 by omega]; done)) (by rfl) ⟨Nat.zero_le _, Nat.zero_le _⟩
  · rw [rr_nl_le (b := 0) (by omega) (by omega)] at h4
    refine rr_go hC bk_X8_tideAt_7_8 (l' := [(0, .ref 0), (1, .int (nI h))]) (st' := [.int (nI h)]) (w' := (W_G (gv tc wd cc kc) G)) rfl ?_
    refine rr_if_ge hC (off := 5) (tgt := 13) (by decide +kernel) (fun h8 => ?_) (fun h8 => ?_)
    · rw [rr_ln_le (a := 0) (by omega) (by omega)] at h8
      refine rr_go hC bk_X8_tideAt_13_22 (l' := [(0, .ref 0), (1, .int (nI h))]) (st' := [.int (nI tc), .int (nI h), .ref 1]) (w' := (W_G (gv tc wd cc kc) G)) rfl ?_
      refine rr_irem hC (by decide +kernel) (by rw [rr_nl_eq (b := 0) (by omega) (by omega)]; omega) ?_
      rw [rr_remn (d := tc) (by omega) (by omega) (by omega)]
      show rr_J Z 2 0 0 _ 23 [(0, .ref 0), (1, .int (nI h))] [.int (nI (h % tc)), .ref 1] (W_G (gv tc wd cc kc) G)
      refine rr_iald hC (h % tc) (by decide +kernel) rfl rfl (Nat.lt_of_lt_of_le (Nat.mod_lt _ (by omega)) htc) rfl ?_
      show rr_J Z 2 0 0 _ 24 [(0, .ref 0), (1, .int (nI h))] [.int (G 0 (h % tc))] (W_G (gv tc wd cc kc) G)
      exact rr_reti hC (by decide +kernel) (by first | (simp [p_tide, show tc = 0 by omega]; done) | (simp [p_tide, show ¬ tc = 0 by omega]; done)) (by rfl) ⟨Nat.zero_le _, Nat.zero_le _⟩
    · rw [rr_ln_le (a := 0) (by omega) (by omega)] at h8
      refine rr_go hC bk_X8_tideAt_11_12 (l' := [(0, .ref 0), (1, .int (nI h))]) (st' := [.int 0]) (w' := (W_G (gv tc wd cc kc) G)) rfl ?_
      exact rr_reti hC (by decide +kernel) (by first | (simp [p_tide, show tc = 0 by omega]; done) | (simp [p_tide, show ¬ tc = 0 by omega]; done)) (by rfl) ⟨Nat.zero_le _, Nat.zero_le _⟩
theorem bk_X8_isWet_0_2 : rr_chk mX8_isWet [(.aload_n 0, 0, 0, 0), (.iload_n 1, 0, 1, 0)] 0 2 = true := by decide +kernel
theorem bk_X8_isWet_8_10 : rr_chk mX8_isWet [(.aload_n 0, 0, 0, 0), (.iload_n 2, 0, 2, 0)] 8 10 = true := by decide +kernel
theorem bk_X8_isWet_13_18 : rr_chk mX8_isWet [(.aload_n 0, 0, 0, 0), (.getfield 15, 0, 8, 1), (.iload_n 1, 0, 1, 0)] 13 18 = true := by decide +kernel
theorem bk_X8_isWet_26_27 : rr_chk mX8_isWet [(.iconst 0, 0, 0, 0)] 26 27 = true := by decide +kernel
theorem bk_X8_isWet_22_27 : rr_chk mX8_isWet [(.iconst 1, 1, 0, 0), (.goto 4, 0, 0, 0)] 22 27 = true := by decide +kernel
set_option maxRecDepth 100000 in
set_option maxHeartbeats 4000000 in
theorem c8_isWet (tc wd cc kc : Nat) (G : Nat → Nat → Int32) (c h : Nat) (htc : tc ≤ 12) (hcc : cc ≤ 9) (hc : c < cc) (hh : h < 100000) : rr_C mX8_isWet 1 [.ref 0, .int (nI c), .int (nI h)] (W_G (gv tc wd cc kc) G) 0 0 (some (rr_b (p_wet G tc c h))) (W_G (gv tc wd cc kc) G) := by
  refine rr_C.of (n := 2) fX8_isWet.1 rfl rfl (fun Z hC => ?_)
  show rr_J Z 3 0 0 (rr_MQ Z 0 0 (some (rr_b (p_wet G tc c h))) (W_G (gv tc wd cc kc) G)) 0 [(0, .ref 0), (1, .int (nI c)), (2, .int (nI h))] [] (W_G (gv tc wd cc kc) G)
  refine rr_go hC bk_X8_isWet_0_2 (l' := [(0, .ref 0), (1, .int (nI c)), (2, .int (nI h))]) (st' := [.int (nI c), .ref 0]) (w' := (W_G (gv tc wd cc kc) G)) rfl ?_
  refine rr_callV hC (by decide +kernel) kl_8_49 fX8_hasCell (c8_hasCell tc wd cc kc G (nI c)) rfl rfl [0, 1, 2, 3, 4, 5, 6] rfl rfl (Eq.refl 7) rfl rfl rfl (rest := []) rfl rfl ⟨Nat.zero_le _, Nat.zero_le _⟩ (w2 := (W_G (gv tc wd cc kc) G)) rfl ?_
  show rr_J Z 3 0 0 _ 5 [(0, .ref 0), (1, .int (nI c)), (2, .int (nI h))] [.int (rr_b (p_in (nI c) (nI cc)))] (W_G (gv tc wd cc kc) G)
  refine rr_eqb hC (off := 21) (tgt := 26) (by decide +kernel) (fun h5 => by  exact absurd h5 (by rw [p_in_n (by omega) (by omega)]; simp [hc])) (fun h5 => ?_)
  refine rr_go hC bk_X8_isWet_8_10 (l' := [(0, .ref 0), (1, .int (nI c)), (2, .int (nI h))]) (st' := [.int (nI h), .ref 0]) (w' := (W_G (gv tc wd cc kc) G)) rfl ?_
  refine rr_callV hC (by decide +kernel) kl_8_53 fX8_tideAt (c8_tideAt tc wd cc kc G h (by omega) (by omega)) rfl rfl [0, 1, 2, 3, 4, 5, 6] rfl rfl (Eq.refl 7) rfl rfl rfl (rest := []) rfl rfl ⟨Nat.zero_le _, Nat.zero_le _⟩ (w2 := (W_G (gv tc wd cc kc) G)) rfl ?_
  show rr_J Z 3 0 0 _ 13 [(0, .ref 0), (1, .int (nI c)), (2, .int (nI h))] [.int (p_tide (G 0) tc h)] (W_G (gv tc wd cc kc) G)
  refine rr_go hC bk_X8_isWet_13_18 (l' := [(0, .ref 0), (1, .int (nI c)), (2, .int (nI h))]) (st' := [.int (nI c), .ref 2, .int (p_tide (G 0) tc h)]) (w' := (W_G (gv tc wd cc kc) G)) rfl ?_
  refine rr_iald hC c (by decide +kernel) rfl rfl (by omega) rfl ?_
  show rr_J Z 3 0 0 _ 19 [(0, .ref 0), (1, .int (nI c)), (2, .int (nI h))] [.int (G 1 c), .int (p_tide (G 0) tc h)] (W_G (gv tc wd cc kc) G)
  refine rr_icmp_lt hC (off := 7) (tgt := 26) (by decide +kernel) (fun h19 => ?_) (fun h19 => ?_)
  · refine rr_go hC bk_X8_isWet_26_27 (l' := [(0, .ref 0), (1, .int (nI c)), (2, .int (nI h))]) (st' := [.int 0]) (w' := (W_G (gv tc wd cc kc) G)) rfl ?_
    exact rr_retz hC (by decide +kernel) (Or.inl rfl) (by simp [p_wet, rr_b, *]) (by rfl) ⟨Nat.zero_le _, Nat.zero_le _⟩
  · refine rr_go hC bk_X8_isWet_22_27 (l' := [(0, .ref 0), (1, .int (nI c)), (2, .int (nI h))]) (st' := [.int 1]) (w' := (W_G (gv tc wd cc kc) G)) rfl ?_
    exact rr_retz hC (by decide +kernel) (Or.inr rfl) (by simp [p_wet, rr_b, *]) (by rfl) ⟨Nat.zero_le _, Nat.zero_le _⟩
theorem bk_X8_wetSet_0_4 : rr_chk mX8_wetSet [(.iconst 0, 0, 0, 0), (.istore_n 2, 0, 2, 0), (.iconst 0, 0, 0, 0), (.istore_n 3, 0, 3, 0)] 0 4 = true := by decide +kernel
theorem bk_X8_wetSet_4_9 : rr_chk mX8_wetSet [(.iload_n 3, 0, 3, 0), (.aload_n 0, 0, 0, 0), (.getfield 37, 0, 8, 8)] 4 9 = true := by decide +kernel
theorem bk_X8_wetSet_33_34 : rr_chk mX8_wetSet [(.iload_n 2, 0, 2, 0)] 33 34 = true := by decide +kernel
theorem bk_X8_wetSet_12_15 : rr_chk mX8_wetSet [(.aload_n 0, 0, 0, 0), (.iload_n 3, 0, 3, 0), (.iload_n 1, 0, 1, 0)] 12 15 = true := by decide +kernel
theorem bk_X8_wetSet_27_4 : rr_chk mX8_wetSet [(.iinc 3 1, 1, 3, 0), (.goto (-26), 0, 0, 0)] 27 4 = true := by decide +kernel
theorem bk_X8_wetSet_21_4 : rr_chk mX8_wetSet [(.iload_n 2, 0, 2, 0), (.iconst 1, 1, 0, 0), (.iload_n 3, 0, 3, 0), (.ishl, 0, 0, 0), (.ior, 0, 0, 0), (.istore_n 2, 0, 2, 0), (.iinc 3 1, 1, 3, 0), (.goto (-26), 0, 0, 0)] 21 4 = true := by decide +kernel
set_option maxRecDepth 100000 in
set_option maxHeartbeats 4000000 in
theorem c8_wetSet (tc wd cc kc : Nat) (G : Nat → Nat → Int32) (h : Nat) (htc : tc ≤ 12) (hcc : cc ≤ 9) (hh : h < 100000) : rr_C mX8_wetSet 2 [.ref 0, .int (nI h)] (W_G (gv tc wd cc kc) G) 0 0 (some (p_wets G tc h cc)) (W_G (gv tc wd cc kc) G) := by
  refine rr_C.of (n := 1) fX8_wetSet.1 rfl rfl (fun Z hC => ?_)
  show rr_J Z 4 0 0 (rr_MQ Z 0 0 (some (p_wets G tc h cc)) (W_G (gv tc wd cc kc) G)) 0 [(0, .ref 0), (1, .int (nI h))] [] (W_G (gv tc wd cc kc) G)
  refine rr_go hC bk_X8_wetSet_0_4 (l' := [(0, .ref 0), (1, .int (nI h)), (2, .int 0), (3, .int 0)]) (st' := []) (w' := (W_G (gv tc wd cc kc) G)) rfl ?_
  have lp4 : ∀ (j c : Nat), c + j = cc → 0 ≤ c → rr_J Z 4 0 0 (rr_MQ Z 0 0 (some (p_wets G tc h cc)) (W_G (gv tc wd cc kc) G)) 4 [(0, .ref 0), (1, .int (nI h)), (2, .int (p_wets G tc h c)), (3, .int (nI c))] [] (W_G (gv tc wd cc kc) G) := by
    intro j
    induction j with
    | zero =>
      intro c hk4 hlo4
      refine rr_go hC bk_X8_wetSet_4_9 (l' := [(0, .ref 0), (1, .int (nI h)), (2, .int (p_wets G tc h c)), (3, .int (nI c))]) (st' := [.int (nI cc), .int (nI c)]) (w' := (W_G (gv tc wd cc kc) G)) rfl ?_
      refine rr_icmp_ge hC (off := 24) (tgt := 33) (by decide +kernel) (fun h9 => ?_) (fun h9 => by rw [rr_nn_le (by omega) (by omega)] at h9; omega)
      rw [rr_nn_le (by omega) (by omega)] at h9
      refine rr_go hC bk_X8_wetSet_33_34 (l' := [(0, .ref 0), (1, .int (nI h)), (2, .int (p_wets G tc h c)), (3, .int (nI c))]) (st' := [.int (p_wets G tc h c)]) (w' := (W_G (gv tc wd cc kc) G)) rfl ?_
      exact rr_reti hC (by decide +kernel) (by simp [show c = cc by omega]) (by rfl) ⟨Nat.zero_le _, Nat.zero_le _⟩
    | succ j ih =>
      intro c hk4 hlo4
      refine rr_go hC bk_X8_wetSet_4_9 (l' := [(0, .ref 0), (1, .int (nI h)), (2, .int (p_wets G tc h c)), (3, .int (nI c))]) (st' := [.int (nI cc), .int (nI c)]) (w' := (W_G (gv tc wd cc kc) G)) rfl ?_
      refine rr_icmp_ge hC (off := 24) (tgt := 33) (by decide +kernel) (fun h9 => by rw [rr_nn_le (by omega) (by omega)] at h9; omega) (fun h9 => ?_)
      rw [rr_nn_le (by omega) (by omega)] at h9
      refine rr_go hC bk_X8_wetSet_12_15 (l' := [(0, .ref 0), (1, .int (nI h)), (2, .int (p_wets G tc h c)), (3, .int (nI c))]) (st' := [.int (nI h), .int (nI c), .ref 0]) (w' := (W_G (gv tc wd cc kc) G)) rfl ?_
      refine rr_callV hC (by decide +kernel) kl_8_57 fX8_isWet (c8_isWet tc wd cc kc G c h (by omega) (by omega) (by omega) (by omega)) rfl rfl [0, 1, 2, 3, 4, 5, 6] rfl rfl (Eq.refl 7) rfl rfl rfl (rest := []) rfl rfl ⟨Nat.zero_le _, Nat.zero_le _⟩ (w2 := (W_G (gv tc wd cc kc) G)) rfl ?_
      show rr_J Z 4 0 0 _ 18 [(0, .ref 0), (1, .int (nI h)), (2, .int (p_wets G tc h c)), (3, .int (nI c))] [.int (rr_b (p_wet G tc c h))] (W_G (gv tc wd cc kc) G)
      refine rr_eqb hC (off := 9) (tgt := 27) (by decide +kernel) (fun h18 => ?_) (fun h18 => ?_)
      · refine rr_go hC bk_X8_wetSet_27_4 (l' := [(0, .ref 0), (1, .int (nI h)), (2, .int (p_wets G tc h c)), (3, .int ((nI c) + 1))]) (st' := []) (w' := (W_G (gv tc wd cc kc) G)) rfl ?_
        rw [show ((nI c) + 1 : Int32) = nI (c + 1) from nI_add c 1]
        exact rr_cast (l' := [(0, .ref 0), (1, .int (nI h)), (2, .int (p_wets G tc h (c + 1))), (3, .int (nI (c + 1)))]) (by simp [p_wets, *]) rfl (w' := (W_G (gv tc wd cc kc) G)) (by rfl) (ih (c + 1) (by omega) (by omega))
      · refine rr_go hC bk_X8_wetSet_21_4 (l' := [(0, .ref 0), (1, .int (nI h)), (2, .int ((p_wets G tc h c) ||| (1 <<< (nI c &&& 31)))), (3, .int ((nI c) + 1))]) (st' := []) (w' := (W_G (gv tc wd cc kc) G)) rfl ?_
        rw [show ((nI c) + 1 : Int32) = nI (c + 1) from nI_add c 1]
        exact rr_cast (l' := [(0, .ref 0), (1, .int (nI h)), (2, .int (p_wets G tc h (c + 1))), (3, .int (nI (c + 1)))]) (by simp [p_wets, *]) rfl (w' := (W_G (gv tc wd cc kc) G)) (by rfl) (ih (c + 1) (by omega) (by omega))
  exact rr_cast (l' := [(0, .ref 0), (1, .int (nI h)), (2, .int (p_wets G tc h 0)), (3, .int (nI 0))]) (by first | rfl | (simp [p_wets, *])) rfl (w' := (W_G (gv tc wd cc kc) G)) (by rfl) (lp4 (cc - 0) 0 (by omega) (Nat.le_refl _))
theorem bk_X8_worthOf_0_5 : rr_chk mX8_worthOf [(.iconst 0, 0, 0, 0), (.istore_n 3, 0, 3, 0), (.iconst 0, 0, 0, 0), (.istore 4, 0, 4, 0)] 0 5 = true := by decide +kernel
theorem bk_X8_worthOf_5_11 : rr_chk mX8_worthOf [(.iload 4, 0, 4, 0), (.aload_n 0, 0, 0, 0), (.getfield 40, 0, 8, 9)] 5 11 = true := by decide +kernel
theorem bk_X8_worthOf_53_54 : rr_chk mX8_worthOf [(.iload_n 3, 0, 3, 0)] 53 54 = true := by decide +kernel
theorem bk_X8_worthOf_14_20 : rr_chk mX8_worthOf [(.iload_n 1, 0, 1, 0), (.iload 4, 0, 4, 0), (.ishr, 0, 0, 0), (.iconst 1, 1, 0, 0), (.iand, 0, 0, 0)] 14 20 = true := by decide +kernel
theorem bk_X8_worthOf_47_5 : rr_chk mX8_worthOf [(.iinc 4 1, 1, 4, 0), (.goto (-45), 0, 0, 0)] 47 5 = true := by decide +kernel
theorem bk_X8_worthOf_23_25 : rr_chk mX8_worthOf [(.iload_n 3, 0, 3, 0), (.iload_n 2, 0, 2, 0)] 23 25 = true := by decide +kernel
theorem bk_X8_worthOf_38_44 : rr_chk mX8_worthOf [(.aload_n 0, 0, 0, 0), (.getfield 27, 0, 8, 5), (.iload 4, 0, 4, 0)] 38 44 = true := by decide +kernel
theorem bk_X8_worthOf_45_5 : rr_chk mX8_worthOf [(.iadd, 0, 0, 0), (.istore_n 3, 0, 3, 0), (.iinc 4 1, 1, 4, 0), (.goto (-45), 0, 0, 0)] 45 5 = true := by decide +kernel
theorem bk_X8_worthOf_28_34 : rr_chk mX8_worthOf [(.aload_n 0, 0, 0, 0), (.getfield 24, 0, 8, 4), (.iload 4, 0, 4, 0)] 28 34 = true := by decide +kernel
theorem bk_X8_worthOf_35_5 : rr_chk mX8_worthOf [(.goto 10, 0, 0, 0), (.iadd, 0, 0, 0), (.istore_n 3, 0, 3, 0), (.iinc 4 1, 1, 4, 0), (.goto (-45), 0, 0, 0)] 35 5 = true := by decide +kernel
set_option maxRecDepth 100000 in
set_option maxHeartbeats 4000000 in
theorem c8_worthOf (tc wd cc kc : Nat) (G : Nat → Nat → Int32) (set : Int32) (one : Bool) (hkc : kc ≤ 6) : rr_C mX8_worthOf 0 [.ref 0, .int set, .int (rr_b one)] (W_G (gv tc wd cc kc) G) 0 0 (some (p_sum set (G (cond one 4 5)) kc)) (W_G (gv tc wd cc kc) G) := by
  refine rr_C.of (n := 2) fX8_worthOf.1 rfl rfl (fun Z hC => ?_)
  show rr_J Z 5 0 0 (rr_MQ Z 0 0 (some (p_sum set (G (cond one 4 5)) kc)) (W_G (gv tc wd cc kc) G)) 0 [(0, .ref 0), (1, .int set), (2, .int (rr_b one))] [] (W_G (gv tc wd cc kc) G)
  refine rr_go hC bk_X8_worthOf_0_5 (l' := [(0, .ref 0), (1, .int set), (2, .int (rr_b one)), (3, .int 0), (4, .int 0)]) (st' := []) (w' := (W_G (gv tc wd cc kc) G)) rfl ?_
  have lp5 : ∀ (j k : Nat), k + j = kc → 0 ≤ k → rr_J Z 5 0 0 (rr_MQ Z 0 0 (some (p_sum set (G (cond one 4 5)) kc)) (W_G (gv tc wd cc kc) G)) 5 [(0, .ref 0), (1, .int set), (2, .int (rr_b one)), (3, .int (p_sum set (G (cond one 4 5)) k)), (4, .int (nI k))] [] (W_G (gv tc wd cc kc) G) := by
    intro j
    induction j with
    | zero =>
      intro k hk5 hlo5
      refine rr_go hC bk_X8_worthOf_5_11 (l' := [(0, .ref 0), (1, .int set), (2, .int (rr_b one)), (3, .int (p_sum set (G (cond one 4 5)) k)), (4, .int (nI k))]) (st' := [.int (nI kc), .int (nI k)]) (w' := (W_G (gv tc wd cc kc) G)) rfl ?_
      refine rr_icmp_ge hC (off := 42) (tgt := 53) (by decide +kernel) (fun h11 => ?_) (fun h11 => by rw [rr_nn_le (by omega) (by omega)] at h11; omega)
      rw [rr_nn_le (by omega) (by omega)] at h11
      refine rr_go hC bk_X8_worthOf_53_54 (l' := [(0, .ref 0), (1, .int set), (2, .int (rr_b one)), (3, .int (p_sum set (G (cond one 4 5)) k)), (4, .int (nI k))]) (st' := [.int (p_sum set (G (cond one 4 5)) k)]) (w' := (W_G (gv tc wd cc kc) G)) rfl ?_
      exact rr_reti hC (by decide +kernel) (by rw [show k = kc by omega]) (by rfl) ⟨Nat.zero_le _, Nat.zero_le _⟩
    | succ j ih =>
      intro k hk5 hlo5
      refine rr_go hC bk_X8_worthOf_5_11 (l' := [(0, .ref 0), (1, .int set), (2, .int (rr_b one)), (3, .int (p_sum set (G (cond one 4 5)) k)), (4, .int (nI k))]) (st' := [.int (nI kc), .int (nI k)]) (w' := (W_G (gv tc wd cc kc) G)) rfl ?_
      refine rr_icmp_ge hC (off := 42) (tgt := 53) (by decide +kernel) (fun h11 => by rw [rr_nn_le (by omega) (by omega)] at h11; omega) (fun h11 => ?_)
      rw [rr_nn_le (by omega) (by omega)] at h11
      refine rr_go hC bk_X8_worthOf_14_20 (l' := [(0, .ref 0), (1, .int set), (2, .int (rr_b one)), (3, .int (p_sum set (G (cond one 4 5)) k)), (4, .int (nI k))]) (st' := [.int ((set >>> (nI k &&& 31)) &&& 1)]) (w' := (W_G (gv tc wd cc kc) G)) rfl ?_
      refine rr_if_eq hC (off := 27) (tgt := 47) (by decide +kernel) (fun h20 => ?_) (fun h20 => ?_)
      · refine rr_go hC bk_X8_worthOf_47_5 (l' := [(0, .ref 0), (1, .int set), (2, .int (rr_b one)), (3, .int (p_sum set (G (cond one 4 5)) k)), (4, .int ((nI k) + 1))]) (st' := []) (w' := (W_G (gv tc wd cc kc) G)) rfl ?_
        rw [show ((nI k) + 1 : Int32) = nI (k + 1) from nI_add k 1]
        exact rr_cast (l' := [(0, .ref 0), (1, .int set), (2, .int (rr_b one)), (3, .int (p_sum set (G (cond one 4 5)) (k + 1))), (4, .int (nI (k + 1)))]) (by simp [p_sum, p_bit, *]) rfl (w' := (W_G (gv tc wd cc kc) G)) (by rfl) (ih (k + 1) (by omega) (by omega))
      · refine rr_go hC bk_X8_worthOf_23_25 (l' := [(0, .ref 0), (1, .int set), (2, .int (rr_b one)), (3, .int (p_sum set (G (cond one 4 5)) k)), (4, .int (nI k))]) (st' := [.int (rr_b one), .int (p_sum set (G (cond one 4 5)) k)]) (w' := (W_G (gv tc wd cc kc) G)) rfl ?_
        refine rr_eqb hC (off := 13) (tgt := 38) (by decide +kernel) (fun h25 => ?_) (fun h25 => ?_)
        · refine rr_go hC bk_X8_worthOf_38_44 (l' := [(0, .ref 0), (1, .int set), (2, .int (rr_b one)), (3, .int (p_sum set (G (cond one 4 5)) k)), (4, .int (nI k))]) (st' := [.int (nI k), .ref 6, .int (p_sum set (G (cond one 4 5)) k)]) (w' := (W_G (gv tc wd cc kc) G)) rfl ?_
          refine rr_iald hC k (by decide +kernel) rfl rfl (by omega) rfl ?_
          show rr_J Z 5 0 0 _ 45 [(0, .ref 0), (1, .int set), (2, .int (rr_b one)), (3, .int (p_sum set (G (cond one 4 5)) k)), (4, .int (nI k))] [.int (G 5 k), .int (p_sum set (G (cond one 4 5)) k)] (W_G (gv tc wd cc kc) G)
          refine rr_go hC bk_X8_worthOf_45_5 (l' := [(0, .ref 0), (1, .int set), (2, .int (rr_b one)), (3, .int ((p_sum set (G (cond one 4 5)) k) + (G 5 k))), (4, .int ((nI k) + 1))]) (st' := []) (w' := (W_G (gv tc wd cc kc) G)) rfl ?_
          rw [show ((nI k) + 1 : Int32) = nI (k + 1) from nI_add k 1]
          exact rr_cast (l' := [(0, .ref 0), (1, .int set), (2, .int (rr_b one)), (3, .int (p_sum set (G (cond one 4 5)) (k + 1))), (4, .int (nI (k + 1)))]) (by simp [p_sum, p_bit, *]) rfl (w' := (W_G (gv tc wd cc kc) G)) (by rfl) (ih (k + 1) (by omega) (by omega))
        · refine rr_go hC bk_X8_worthOf_28_34 (l' := [(0, .ref 0), (1, .int set), (2, .int (rr_b one)), (3, .int (p_sum set (G (cond one 4 5)) k)), (4, .int (nI k))]) (st' := [.int (nI k), .ref 5, .int (p_sum set (G (cond one 4 5)) k)]) (w' := (W_G (gv tc wd cc kc) G)) rfl ?_
          refine rr_iald hC k (by decide +kernel) rfl rfl (by omega) rfl ?_
          show rr_J Z 5 0 0 _ 35 [(0, .ref 0), (1, .int set), (2, .int (rr_b one)), (3, .int (p_sum set (G (cond one 4 5)) k)), (4, .int (nI k))] [.int (G 4 k), .int (p_sum set (G (cond one 4 5)) k)] (W_G (gv tc wd cc kc) G)
          refine rr_go hC bk_X8_worthOf_35_5 (l' := [(0, .ref 0), (1, .int set), (2, .int (rr_b one)), (3, .int ((p_sum set (G (cond one 4 5)) k) + (G 4 k))), (4, .int ((nI k) + 1))]) (st' := []) (w' := (W_G (gv tc wd cc kc) G)) rfl ?_
          rw [show ((nI k) + 1 : Int32) = nI (k + 1) from nI_add k 1]
          exact rr_cast (l' := [(0, .ref 0), (1, .int set), (2, .int (rr_b one)), (3, .int (p_sum set (G (cond one 4 5)) (k + 1))), (4, .int (nI (k + 1)))]) (by simp [p_sum, p_bit, *]) rfl (w' := (W_G (gv tc wd cc kc) G)) (by rfl) (ih (k + 1) (by omega) (by omega))
  exact rr_cast (l' := [(0, .ref 0), (1, .int set), (2, .int (rr_b one)), (3, .int (p_sum set (G (cond one 4 5)) 0)), (4, .int (nI 0))]) (by first | rfl | (simp [p_sum, p_bit, *])) rfl (w' := (W_G (gv tc wd cc kc) G)) (by rfl) (lp5 (kc - 0) 0 (by omega) (Nat.le_refl _))
theorem bk_X8_hoursOf_0_4 : rr_chk mX8_hoursOf [(.iconst 0, 0, 0, 0), (.istore_n 2, 0, 2, 0), (.iconst 0, 0, 0, 0), (.istore_n 3, 0, 3, 0)] 0 4 = true := by decide +kernel
theorem bk_X8_hoursOf_4_9 : rr_chk mX8_hoursOf [(.iload_n 3, 0, 3, 0), (.aload_n 0, 0, 0, 0), (.getfield 40, 0, 8, 9)] 4 9 = true := by decide +kernel
theorem bk_X8_hoursOf_35_36 : rr_chk mX8_hoursOf [(.iload_n 2, 0, 2, 0)] 35 36 = true := by decide +kernel
theorem bk_X8_hoursOf_12_17 : rr_chk mX8_hoursOf [(.iload_n 1, 0, 1, 0), (.iload_n 3, 0, 3, 0), (.ishr, 0, 0, 0), (.iconst 1, 1, 0, 0), (.iand, 0, 0, 0)] 12 17 = true := by decide +kernel
theorem bk_X8_hoursOf_29_4 : rr_chk mX8_hoursOf [(.iinc 3 1, 1, 3, 0), (.goto (-28), 0, 0, 0)] 29 4 = true := by decide +kernel
theorem bk_X8_hoursOf_20_26 : rr_chk mX8_hoursOf [(.iload_n 2, 0, 2, 0), (.aload_n 0, 0, 0, 0), (.getfield 18, 0, 8, 2), (.iload_n 3, 0, 3, 0)] 20 26 = true := by decide +kernel
theorem bk_X8_hoursOf_27_4 : rr_chk mX8_hoursOf [(.iadd, 0, 0, 0), (.istore_n 2, 0, 2, 0), (.iinc 3 1, 1, 3, 0), (.goto (-28), 0, 0, 0)] 27 4 = true := by decide +kernel
set_option maxRecDepth 100000 in
set_option maxHeartbeats 4000000 in
theorem c8_hoursOf (tc wd cc kc : Nat) (G : Nat → Nat → Int32) (set : Int32) (hkc : kc ≤ 6) : rr_C mX8_hoursOf 0 [.ref 0, .int set] (W_G (gv tc wd cc kc) G) 0 0 (some (p_sum set (G 2) kc)) (W_G (gv tc wd cc kc) G) := by
  refine rr_C.of (n := 1) fX8_hoursOf.1 rfl rfl (fun Z hC => ?_)
  show rr_J Z 4 0 0 (rr_MQ Z 0 0 (some (p_sum set (G 2) kc)) (W_G (gv tc wd cc kc) G)) 0 [(0, .ref 0), (1, .int set)] [] (W_G (gv tc wd cc kc) G)
  refine rr_go hC bk_X8_hoursOf_0_4 (l' := [(0, .ref 0), (1, .int set), (2, .int 0), (3, .int 0)]) (st' := []) (w' := (W_G (gv tc wd cc kc) G)) rfl ?_
  have lp4 : ∀ (j k : Nat), k + j = kc → 0 ≤ k → rr_J Z 4 0 0 (rr_MQ Z 0 0 (some (p_sum set (G 2) kc)) (W_G (gv tc wd cc kc) G)) 4 [(0, .ref 0), (1, .int set), (2, .int (p_sum set (G 2) k)), (3, .int (nI k))] [] (W_G (gv tc wd cc kc) G) := by
    intro j
    induction j with
    | zero =>
      intro k hk4 hlo4
      refine rr_go hC bk_X8_hoursOf_4_9 (l' := [(0, .ref 0), (1, .int set), (2, .int (p_sum set (G 2) k)), (3, .int (nI k))]) (st' := [.int (nI kc), .int (nI k)]) (w' := (W_G (gv tc wd cc kc) G)) rfl ?_
      refine rr_icmp_ge hC (off := 26) (tgt := 35) (by decide +kernel) (fun h9 => ?_) (fun h9 => by rw [rr_nn_le (by omega) (by omega)] at h9; omega)
      rw [rr_nn_le (by omega) (by omega)] at h9
      refine rr_go hC bk_X8_hoursOf_35_36 (l' := [(0, .ref 0), (1, .int set), (2, .int (p_sum set (G 2) k)), (3, .int (nI k))]) (st' := [.int (p_sum set (G 2) k)]) (w' := (W_G (gv tc wd cc kc) G)) rfl ?_
      exact rr_reti hC (by decide +kernel) (by rw [show k = kc by omega]) (by rfl) ⟨Nat.zero_le _, Nat.zero_le _⟩
    | succ j ih =>
      intro k hk4 hlo4
      refine rr_go hC bk_X8_hoursOf_4_9 (l' := [(0, .ref 0), (1, .int set), (2, .int (p_sum set (G 2) k)), (3, .int (nI k))]) (st' := [.int (nI kc), .int (nI k)]) (w' := (W_G (gv tc wd cc kc) G)) rfl ?_
      refine rr_icmp_ge hC (off := 26) (tgt := 35) (by decide +kernel) (fun h9 => by rw [rr_nn_le (by omega) (by omega)] at h9; omega) (fun h9 => ?_)
      rw [rr_nn_le (by omega) (by omega)] at h9
      refine rr_go hC bk_X8_hoursOf_12_17 (l' := [(0, .ref 0), (1, .int set), (2, .int (p_sum set (G 2) k)), (3, .int (nI k))]) (st' := [.int ((set >>> (nI k &&& 31)) &&& 1)]) (w' := (W_G (gv tc wd cc kc) G)) rfl ?_
      refine rr_if_eq hC (off := 12) (tgt := 29) (by decide +kernel) (fun h17 => ?_) (fun h17 => ?_)
      · refine rr_go hC bk_X8_hoursOf_29_4 (l' := [(0, .ref 0), (1, .int set), (2, .int (p_sum set (G 2) k)), (3, .int ((nI k) + 1))]) (st' := []) (w' := (W_G (gv tc wd cc kc) G)) rfl ?_
        rw [show ((nI k) + 1 : Int32) = nI (k + 1) from nI_add k 1]
        exact rr_cast (l' := [(0, .ref 0), (1, .int set), (2, .int (p_sum set (G 2) (k + 1))), (3, .int (nI (k + 1)))]) (by simp [p_sum, p_bit, *]) rfl (w' := (W_G (gv tc wd cc kc) G)) (by rfl) (ih (k + 1) (by omega) (by omega))
      · refine rr_go hC bk_X8_hoursOf_20_26 (l' := [(0, .ref 0), (1, .int set), (2, .int (p_sum set (G 2) k)), (3, .int (nI k))]) (st' := [.int (nI k), .ref 3, .int (p_sum set (G 2) k)]) (w' := (W_G (gv tc wd cc kc) G)) rfl ?_
        refine rr_iald hC k (by decide +kernel) rfl rfl (by omega) rfl ?_
        show rr_J Z 4 0 0 _ 27 [(0, .ref 0), (1, .int set), (2, .int (p_sum set (G 2) k)), (3, .int (nI k))] [.int (G 2 k), .int (p_sum set (G 2) k)] (W_G (gv tc wd cc kc) G)
        refine rr_go hC bk_X8_hoursOf_27_4 (l' := [(0, .ref 0), (1, .int set), (2, .int ((p_sum set (G 2) k) + (G 2 k))), (3, .int ((nI k) + 1))]) (st' := []) (w' := (W_G (gv tc wd cc kc) G)) rfl ?_
        rw [show ((nI k) + 1 : Int32) = nI (k + 1) from nI_add k 1]
        exact rr_cast (l' := [(0, .ref 0), (1, .int set), (2, .int (p_sum set (G 2) (k + 1))), (3, .int (nI (k + 1)))]) (by simp [p_sum, p_bit, *]) rfl (w' := (W_G (gv tc wd cc kc) G)) (by rfl) (ih (k + 1) (by omega) (by omega))
  exact rr_cast (l' := [(0, .ref 0), (1, .int set), (2, .int (p_sum set (G 2) 0)), (3, .int (nI 0))]) (by first | rfl | (simp [p_sum, p_bit, *])) rfl (w' := (W_G (gv tc wd cc kc) G)) (by rfl) (lp4 (kc - 0) 0 (by omega) (Nat.le_refl _))
theorem bk_X8_isWhole_0_2 : rr_chk mX8_isWhole [(.iconst 0, 0, 0, 0), (.istore_n 2, 0, 2, 0)] 0 2 = true := by decide +kernel
theorem bk_X8_isWhole_2_7 : rr_chk mX8_isWhole [(.iload_n 2, 0, 2, 0), (.aload_n 0, 0, 0, 0), (.getfield 40, 0, 8, 9)] 2 7 = true := by decide +kernel
theorem bk_X8_isWhole_52_53 : rr_chk mX8_isWhole [(.iconst 1, 1, 0, 0)] 52 53 = true := by decide +kernel
theorem bk_X8_isWhole_10_15 : rr_chk mX8_isWhole [(.iload_n 1, 0, 1, 0), (.iload_n 2, 0, 2, 0), (.ishr, 0, 0, 0), (.iconst 1, 1, 0, 0), (.iand, 0, 0, 0)] 10 15 = true := by decide +kernel
theorem bk_X8_isWhole_46_2 : rr_chk mX8_isWhole [(.iinc 2 1, 1, 2, 0), (.goto (-47), 0, 0, 0)] 46 2 = true := by decide +kernel
theorem bk_X8_isWhole_18_24 : rr_chk mX8_isWhole [(.aload_n 0, 0, 0, 0), (.aload_n 0, 0, 0, 0), (.getfield 21, 0, 8, 3), (.iload_n 2, 0, 2, 0)] 18 24 = true := by decide +kernel
theorem bk_X8_isWhole_31_37 : rr_chk mX8_isWhole [(.iload_n 1, 0, 1, 0), (.aload_n 0, 0, 0, 0), (.getfield 21, 0, 8, 3), (.iload_n 2, 0, 2, 0)] 31 37 = true := by decide +kernel
theorem bk_X8_isWhole_38_41 : rr_chk mX8_isWhole [(.ishr, 0, 0, 0), (.iconst 1, 1, 0, 0), (.iand, 0, 0, 0)] 38 41 = true := by decide +kernel
theorem bk_X8_isWhole_44_45 : rr_chk mX8_isWhole [(.iconst 0, 0, 0, 0)] 44 45 = true := by decide +kernel
set_option maxRecDepth 100000 in
set_option maxHeartbeats 4000000 in
theorem c8_isWhole (tc wd cc kc : Nat) (G : Nat → Nat → Int32) (set : Int32) (hkc : kc ≤ 6) : rr_C mX8_isWhole 1 [.ref 0, .int set] (W_G (gv tc wd cc kc) G) 0 0 (some (rr_b (p_all (p_whk set (G 3) kc) kc))) (W_G (gv tc wd cc kc) G) := by
  refine rr_C.of (n := 1) fX8_isWhole.1 rfl rfl (fun Z hC => ?_)
  show rr_J Z 3 0 0 (rr_MQ Z 0 0 (some (rr_b (p_all (p_whk set (G 3) kc) kc))) (W_G (gv tc wd cc kc) G)) 0 [(0, .ref 0), (1, .int set)] [] (W_G (gv tc wd cc kc) G)
  refine rr_go hC bk_X8_isWhole_0_2 (l' := [(0, .ref 0), (1, .int set), (2, .int 0)]) (st' := []) (w' := (W_G (gv tc wd cc kc) G)) rfl ?_
  have lp2 : ∀ (j k : Nat), k + j = kc → 0 ≤ k → p_all (p_whk set (G 3) kc) k = true → rr_J Z 3 0 0 (rr_MQ Z 0 0 (some (rr_b (p_all (p_whk set (G 3) kc) kc))) (W_G (gv tc wd cc kc) G)) 2 [(0, .ref 0), (1, .int set), (2, .int (nI k))] [] (W_G (gv tc wd cc kc) G) := by
    intro j
    induction j with
    | zero =>
      intro k hk2 hlo2 hq
      refine rr_go hC bk_X8_isWhole_2_7 (l' := [(0, .ref 0), (1, .int set), (2, .int (nI k))]) (st' := [.int (nI kc), .int (nI k)]) (w' := (W_G (gv tc wd cc kc) G)) rfl ?_
      refine rr_icmp_ge hC (off := 45) (tgt := 52) (by decide +kernel) (fun h7 => ?_) (fun h7 => by rw [rr_nn_le (by omega) (by omega)] at h7; omega)
      rw [rr_nn_le (by omega) (by omega)] at h7
      refine rr_go hC bk_X8_isWhole_52_53 (l' := [(0, .ref 0), (1, .int set), (2, .int (nI k))]) (st' := [.int 1]) (w' := (W_G (gv tc wd cc kc) G)) rfl ?_
      exact rr_retz hC (by decide +kernel) (Or.inr rfl) (by rw [show k = kc by omega] at hq; rw [hq]; rfl) (by rfl) ⟨Nat.zero_le _, Nat.zero_le _⟩
    | succ j ih =>
      intro k hk2 hlo2 hq
      refine rr_go hC bk_X8_isWhole_2_7 (l' := [(0, .ref 0), (1, .int set), (2, .int (nI k))]) (st' := [.int (nI kc), .int (nI k)]) (w' := (W_G (gv tc wd cc kc) G)) rfl ?_
      refine rr_icmp_ge hC (off := 45) (tgt := 52) (by decide +kernel) (fun h7 => by rw [rr_nn_le (by omega) (by omega)] at h7; omega) (fun h7 => ?_)
      rw [rr_nn_le (by omega) (by omega)] at h7
      refine rr_go hC bk_X8_isWhole_10_15 (l' := [(0, .ref 0), (1, .int set), (2, .int (nI k))]) (st' := [.int ((set >>> (nI k &&& 31)) &&& 1)]) (w' := (W_G (gv tc wd cc kc) G)) rfl ?_
      refine rr_if_eq hC (off := 31) (tgt := 46) (by decide +kernel) (fun h15 => ?_) (fun h15 => ?_)
      · refine rr_go hC bk_X8_isWhole_46_2 (l' := [(0, .ref 0), (1, .int set), (2, .int ((nI k) + 1))]) (st' := []) (w' := (W_G (gv tc wd cc kc) G)) rfl ?_
        rw [show ((nI k) + 1 : Int32) = nI (k + 1) from nI_add k 1]
        exact rr_cast (l' := [(0, .ref 0), (1, .int set), (2, .int (nI (k + 1)))]) (by rfl) rfl (w' := (W_G (gv tc wd cc kc) G)) (by rfl) (ih (k + 1) (by omega) (by omega) (by simp [p_all, p_whk, p_bit, *]))
      · refine rr_go hC bk_X8_isWhole_18_24 (l' := [(0, .ref 0), (1, .int set), (2, .int (nI k))]) (st' := [.int (nI k), .ref 4, .ref 0]) (w' := (W_G (gv tc wd cc kc) G)) rfl ?_
        refine rr_iald hC k (by decide +kernel) rfl rfl (by omega) rfl ?_
        show rr_J Z 3 0 0 _ 25 [(0, .ref 0), (1, .int set), (2, .int (nI k))] [.int (G 3 k), .ref 0] (W_G (gv tc wd cc kc) G)
        refine rr_callV hC (by decide +kernel) kl_8_61 fX8_hasClause (c8_hasClause tc wd cc kc G (G 3 k)) rfl rfl [0, 1, 2, 3, 4, 5, 6] rfl rfl (Eq.refl 7) rfl rfl rfl (rest := []) rfl rfl ⟨Nat.zero_le _, Nat.zero_le _⟩ (w2 := (W_G (gv tc wd cc kc) G)) rfl ?_
        show rr_J Z 3 0 0 _ 28 [(0, .ref 0), (1, .int set), (2, .int (nI k))] [.int (rr_b (p_in (G 3 k) (nI kc)))] (W_G (gv tc wd cc kc) G)
        refine rr_eqb hC (off := 18) (tgt := 46) (by decide +kernel) (fun h28 => ?_) (fun h28 => ?_)
        · refine rr_go hC bk_X8_isWhole_46_2 (l' := [(0, .ref 0), (1, .int set), (2, .int ((nI k) + 1))]) (st' := []) (w' := (W_G (gv tc wd cc kc) G)) rfl ?_
          rw [show ((nI k) + 1 : Int32) = nI (k + 1) from nI_add k 1]
          exact rr_cast (l' := [(0, .ref 0), (1, .int set), (2, .int (nI (k + 1)))]) (by rfl) rfl (w' := (W_G (gv tc wd cc kc) G)) (by rfl) (ih (k + 1) (by omega) (by omega) (by simp [p_all, p_whk, p_bit, *]))
        · refine rr_go hC bk_X8_isWhole_31_37 (l' := [(0, .ref 0), (1, .int set), (2, .int (nI k))]) (st' := [.int (nI k), .ref 4, .int set]) (w' := (W_G (gv tc wd cc kc) G)) rfl ?_
          refine rr_iald hC k (by decide +kernel) rfl rfl (by omega) rfl ?_
          show rr_J Z 3 0 0 _ 38 [(0, .ref 0), (1, .int set), (2, .int (nI k))] [.int (G 3 k), .int set] (W_G (gv tc wd cc kc) G)
          refine rr_go hC bk_X8_isWhole_38_41 (l' := [(0, .ref 0), (1, .int set), (2, .int (nI k))]) (st' := [.int ((set >>> (G 3 k &&& 31)) &&& 1)]) (w' := (W_G (gv tc wd cc kc) G)) rfl ?_
          refine rr_if_ne hC (off := 5) (tgt := 46) (by decide +kernel) (fun h41 => ?_) (fun h41 => ?_)
          · refine rr_go hC bk_X8_isWhole_46_2 (l' := [(0, .ref 0), (1, .int set), (2, .int ((nI k) + 1))]) (st' := []) (w' := (W_G (gv tc wd cc kc) G)) rfl ?_
            rw [show ((nI k) + 1 : Int32) = nI (k + 1) from nI_add k 1]
            exact rr_cast (l' := [(0, .ref 0), (1, .int set), (2, .int (nI (k + 1)))]) (by rfl) rfl (w' := (W_G (gv tc wd cc kc) G)) (by rfl) (ih (k + 1) (by omega) (by omega) (by simp [p_all, p_whk, p_bit, *]))
          · refine rr_go hC bk_X8_isWhole_44_45 (l' := [(0, .ref 0), (1, .int set), (2, .int (nI k))]) (st' := [.int 0]) (w' := (W_G (gv tc wd cc kc) G)) rfl ?_
            exact rr_retz hC (by decide +kernel) (Or.inl rfl) (by rw [p_all_no (k := k) (by omega) (by simp [p_whk, p_bit, *])]; rfl) (by rfl) ⟨Nat.zero_le _, Nat.zero_le _⟩
  exact rr_cast (l' := [(0, .ref 0), (1, .int set), (2, .int (nI 0))]) (by first | rfl | (simp [*])) rfl (w' := (W_G (gv tc wd cc kc) G)) (by rfl) (lp2 (kc - 0) 0 (by omega) (Nat.le_refl _) rfl)
theorem bk_X8_leanersOf_0_8 : rr_chk mX8_leanersOf [(.iconst 1, 1, 0, 0), (.iload_n 1, 0, 1, 0), (.ishl, 0, 0, 0), (.istore_n 2, 0, 2, 0), (.iload_n 1, 0, 1, 0), (.iconst 1, 1, 0, 0), (.iadd, 0, 0, 0), (.istore_n 3, 0, 3, 0)] 0 8 = true := by decide +kernel
theorem bk_X8_leanersOf_8_13 : rr_chk mX8_leanersOf [(.iload_n 3, 0, 3, 0), (.aload_n 0, 0, 0, 0), (.getfield 40, 0, 8, 9)] 8 13 = true := by decide +kernel
theorem bk_X8_leanersOf_54_61 : rr_chk mX8_leanersOf [(.iload_n 2, 0, 2, 0), (.iconst 1, 1, 0, 0), (.iload_n 1, 0, 1, 0), (.ishl, 0, 0, 0), (.iconst (-1), (-1), 0, 0), (.ixor, 0, 0, 0), (.iand, 0, 0, 0)] 54 61 = true := by decide +kernel
theorem bk_X8_leanersOf_16_22 : rr_chk mX8_leanersOf [(.aload_n 0, 0, 0, 0), (.aload_n 0, 0, 0, 0), (.getfield 21, 0, 8, 3), (.iload_n 3, 0, 3, 0)] 16 22 = true := by decide +kernel
theorem bk_X8_leanersOf_48_8 : rr_chk mX8_leanersOf [(.iinc 3 1, 1, 3, 0), (.goto (-43), 0, 0, 0)] 48 8 = true := by decide +kernel
theorem bk_X8_leanersOf_29_35 : rr_chk mX8_leanersOf [(.iload_n 2, 0, 2, 0), (.aload_n 0, 0, 0, 0), (.getfield 21, 0, 8, 3), (.iload_n 3, 0, 3, 0)] 29 35 = true := by decide +kernel
theorem bk_X8_leanersOf_36_39 : rr_chk mX8_leanersOf [(.ishr, 0, 0, 0), (.iconst 1, 1, 0, 0), (.iand, 0, 0, 0)] 36 39 = true := by decide +kernel
theorem bk_X8_leanersOf_42_8 : rr_chk mX8_leanersOf [(.iload_n 2, 0, 2, 0), (.iconst 1, 1, 0, 0), (.iload_n 3, 0, 3, 0), (.ishl, 0, 0, 0), (.ior, 0, 0, 0), (.istore_n 2, 0, 2, 0), (.iinc 3 1, 1, 3, 0), (.goto (-43), 0, 0, 0)] 42 8 = true := by decide +kernel
set_option maxRecDepth 100000 in
set_option maxHeartbeats 4000000 in
theorem c8_leanersOf (tc wd cc kc : Nat) (G : Nat → Nat → Int32) (k : Nat) (hkc : kc ≤ 6) (hk : k < kc) : rr_C mX8_leanersOf 1 [.ref 0, .int (nI k)] (W_G (gv tc wd cc kc) G) 0 0 (some (p_lean (G 3) kc k kc &&& (((1 : Int32) <<< (nI k &&& 31)) ^^^ (-1)))) (W_G (gv tc wd cc kc) G) := by
  refine rr_C.of (n := 1) fX8_leanersOf.1 rfl rfl (fun Z hC => ?_)
  show rr_J Z 4 0 0 (rr_MQ Z 0 0 (some (p_lean (G 3) kc k kc &&& (((1 : Int32) <<< (nI k &&& 31)) ^^^ (-1)))) (W_G (gv tc wd cc kc) G)) 0 [(0, .ref 0), (1, .int (nI k))] [] (W_G (gv tc wd cc kc) G)
  refine rr_go hC bk_X8_leanersOf_0_8 (l' := [(0, .ref 0), (1, .int (nI k)), (2, .int (1 <<< (nI k &&& 31))), (3, .int ((nI k) + 1))]) (st' := []) (w' := (W_G (gv tc wd cc kc) G)) rfl ?_
  rw [show ((nI k) + 1 : Int32) = nI (k + 1) from nI_add k 1]
  have lp8 : ∀ (j o : Nat), o + j = kc → k + 1 ≤ o → rr_J Z 4 0 0 (rr_MQ Z 0 0 (some (p_lean (G 3) kc k kc &&& (((1 : Int32) <<< (nI k &&& 31)) ^^^ (-1)))) (W_G (gv tc wd cc kc) G)) 8 [(0, .ref 0), (1, .int (nI k)), (2, .int (p_lean (G 3) kc k o)), (3, .int (nI o))] [] (W_G (gv tc wd cc kc) G) := by
    intro j
    induction j with
    | zero =>
      intro o hk8 hlo8
      refine rr_go hC bk_X8_leanersOf_8_13 (l' := [(0, .ref 0), (1, .int (nI k)), (2, .int (p_lean (G 3) kc k o)), (3, .int (nI o))]) (st' := [.int (nI kc), .int (nI o)]) (w' := (W_G (gv tc wd cc kc) G)) rfl ?_
      refine rr_icmp_ge hC (off := 41) (tgt := 54) (by decide +kernel) (fun h13 => ?_) (fun h13 => by rw [rr_nn_le (by omega) (by omega)] at h13; omega)
      rw [rr_nn_le (by omega) (by omega)] at h13
      refine rr_go hC bk_X8_leanersOf_54_61 (l' := [(0, .ref 0), (1, .int (nI k)), (2, .int (p_lean (G 3) kc k o)), (3, .int (nI o))]) (st' := [.int ((p_lean (G 3) kc k o) &&& ((1 <<< (nI k &&& 31)) ^^^ (-1)))]) (w' := (W_G (gv tc wd cc kc) G)) rfl ?_
      exact rr_reti hC (by decide +kernel) (by rw [show o = kc by omega]) (by rfl) ⟨Nat.zero_le _, Nat.zero_le _⟩
    | succ j ih =>
      intro o hk8 hlo8
      refine rr_go hC bk_X8_leanersOf_8_13 (l' := [(0, .ref 0), (1, .int (nI k)), (2, .int (p_lean (G 3) kc k o)), (3, .int (nI o))]) (st' := [.int (nI kc), .int (nI o)]) (w' := (W_G (gv tc wd cc kc) G)) rfl ?_
      refine rr_icmp_ge hC (off := 41) (tgt := 54) (by decide +kernel) (fun h13 => by rw [rr_nn_le (by omega) (by omega)] at h13; omega) (fun h13 => ?_)
      rw [rr_nn_le (by omega) (by omega)] at h13
      refine rr_go hC bk_X8_leanersOf_16_22 (l' := [(0, .ref 0), (1, .int (nI k)), (2, .int (p_lean (G 3) kc k o)), (3, .int (nI o))]) (st' := [.int (nI o), .ref 4, .ref 0]) (w' := (W_G (gv tc wd cc kc) G)) rfl ?_
      refine rr_iald hC o (by decide +kernel) rfl rfl (by omega) rfl ?_
      show rr_J Z 4 0 0 _ 23 [(0, .ref 0), (1, .int (nI k)), (2, .int (p_lean (G 3) kc k o)), (3, .int (nI o))] [.int (G 3 o), .ref 0] (W_G (gv tc wd cc kc) G)
      refine rr_callV hC (by decide +kernel) kl_8_61 fX8_hasClause (c8_hasClause tc wd cc kc G (G 3 o)) rfl rfl [0, 1, 2, 3, 4, 5, 6] rfl rfl (Eq.refl 7) rfl rfl rfl (rest := []) rfl rfl ⟨Nat.zero_le _, Nat.zero_le _⟩ (w2 := (W_G (gv tc wd cc kc) G)) rfl ?_
      show rr_J Z 4 0 0 _ 26 [(0, .ref 0), (1, .int (nI k)), (2, .int (p_lean (G 3) kc k o)), (3, .int (nI o))] [.int (rr_b (p_in (G 3 o) (nI kc)))] (W_G (gv tc wd cc kc) G)
      refine rr_eqb hC (off := 22) (tgt := 48) (by decide +kernel) (fun h26 => ?_) (fun h26 => ?_)
      · refine rr_go hC bk_X8_leanersOf_48_8 (l' := [(0, .ref 0), (1, .int (nI k)), (2, .int (p_lean (G 3) kc k o)), (3, .int ((nI o) + 1))]) (st' := []) (w' := (W_G (gv tc wd cc kc) G)) rfl ?_
        rw [show ((nI o) + 1 : Int32) = nI (o + 1) from nI_add o 1]
        exact rr_cast (l' := [(0, .ref 0), (1, .int (nI k)), (2, .int (p_lean (G 3) kc k (o + 1))), (3, .int (nI (o + 1)))]) (by simp [p_lean, p_bit, show ¬ o ≤ k by omega, *]) rfl (w' := (W_G (gv tc wd cc kc) G)) (by rfl) (ih (o + 1) (by omega) (by omega))
      · refine rr_go hC bk_X8_leanersOf_29_35 (l' := [(0, .ref 0), (1, .int (nI k)), (2, .int (p_lean (G 3) kc k o)), (3, .int (nI o))]) (st' := [.int (nI o), .ref 4, .int (p_lean (G 3) kc k o)]) (w' := (W_G (gv tc wd cc kc) G)) rfl ?_
        refine rr_iald hC o (by decide +kernel) rfl rfl (by omega) rfl ?_
        show rr_J Z 4 0 0 _ 36 [(0, .ref 0), (1, .int (nI k)), (2, .int (p_lean (G 3) kc k o)), (3, .int (nI o))] [.int (G 3 o), .int (p_lean (G 3) kc k o)] (W_G (gv tc wd cc kc) G)
        refine rr_go hC bk_X8_leanersOf_36_39 (l' := [(0, .ref 0), (1, .int (nI k)), (2, .int (p_lean (G 3) kc k o)), (3, .int (nI o))]) (st' := [.int (((p_lean (G 3) kc k o) >>> (G 3 o &&& 31)) &&& 1)]) (w' := (W_G (gv tc wd cc kc) G)) rfl ?_
        refine rr_if_eq hC (off := 9) (tgt := 48) (by decide +kernel) (fun h39 => ?_) (fun h39 => ?_)
        · refine rr_go hC bk_X8_leanersOf_48_8 (l' := [(0, .ref 0), (1, .int (nI k)), (2, .int (p_lean (G 3) kc k o)), (3, .int ((nI o) + 1))]) (st' := []) (w' := (W_G (gv tc wd cc kc) G)) rfl ?_
          rw [show ((nI o) + 1 : Int32) = nI (o + 1) from nI_add o 1]
          exact rr_cast (l' := [(0, .ref 0), (1, .int (nI k)), (2, .int (p_lean (G 3) kc k (o + 1))), (3, .int (nI (o + 1)))]) (by simp [p_lean, p_bit, show ¬ o ≤ k by omega, *]) rfl (w' := (W_G (gv tc wd cc kc) G)) (by rfl) (ih (o + 1) (by omega) (by omega))
        · refine rr_go hC bk_X8_leanersOf_42_8 (l' := [(0, .ref 0), (1, .int (nI k)), (2, .int ((p_lean (G 3) kc k o) ||| (1 <<< (nI o &&& 31)))), (3, .int ((nI o) + 1))]) (st' := []) (w' := (W_G (gv tc wd cc kc) G)) rfl ?_
          rw [show ((nI o) + 1 : Int32) = nI (o + 1) from nI_add o 1]
          exact rr_cast (l' := [(0, .ref 0), (1, .int (nI k)), (2, .int (p_lean (G 3) kc k (o + 1))), (3, .int (nI (o + 1)))]) (by simp [p_lean, p_bit, show ¬ o ≤ k by omega, *]) rfl (w' := (W_G (gv tc wd cc kc) G)) (by rfl) (ih (o + 1) (by omega) (by omega))
  exact rr_cast (l' := [(0, .ref 0), (1, .int (nI k)), (2, .int (p_lean (G 3) kc k (k + 1))), (3, .int (nI (k + 1)))]) (by first | rfl | (simp [p_lean])) rfl (w' := (W_G (gv tc wd cc kc) G)) (by rfl) (lp8 (kc - (k + 1)) (k + 1) (by omega) (Nat.le_refl _))
theorem bk_X8_firstHour_0_3 : rr_chk mX8_firstHour [(.iload_n 3, 0, 3, 0), (.istore 5, 0, 5, 0)] 0 3 = true := by decide +kernel
theorem bk_X8_firstHour_3_7 : rr_chk mX8_firstHour [(.iload 5, 0, 5, 0), (.iload 4, 0, 4, 0)] 3 7 = true := by decide +kernel
theorem bk_X8_firstHour_30_32 : rr_chk mX8_firstHour [(.iload 4, 0, 4, 0)] 30 32 = true := by decide +kernel
theorem bk_X8_firstHour_10_14 : rr_chk mX8_firstHour [(.aload_n 0, 0, 0, 0), (.iload_n 1, 0, 1, 0), (.iload 5, 0, 5, 0)] 10 14 = true := by decide +kernel
theorem bk_X8_firstHour_17_18 : rr_chk mX8_firstHour [(.iload_n 2, 0, 2, 0)] 17 18 = true := by decide +kernel
theorem bk_X8_firstHour_24_3 : rr_chk mX8_firstHour [(.iinc 5 1, 1, 5, 0), (.goto (-24), 0, 0, 0)] 24 3 = true := by decide +kernel
theorem bk_X8_firstHour_21_23 : rr_chk mX8_firstHour [(.iload 5, 0, 5, 0)] 21 23 = true := by decide +kernel
set_option maxRecDepth 100000 in
set_option maxHeartbeats 4000000 in
theorem c8_firstHour (tc wd cc kc : Nat) (G : Nat → Nat → Int32) (c : Nat) (wet : Bool) (a b : Nat) (htc : tc ≤ 12) (hcc : cc ≤ 9) (hc : c < cc) (hb : b < 100000) (hab : a ≤ b) : rr_C mX8_firstHour 2 [.ref 0, .int (nI c), .int (rr_b wet), .int (nI a), .int (nI b)] (W_G (gv tc wd cc kc) G) 0 0 (some (nI (p_fst (fun x => p_wet G tc c x == wet) a (b - a)))) (W_G (gv tc wd cc kc) G) := by
  refine rr_C.of (n := 4) fX8_firstHour.1 rfl rfl (fun Z hC => ?_)
  show rr_J Z 6 0 0 (rr_MQ Z 0 0 (some (nI (p_fst (fun x => p_wet G tc c x == wet) a (b - a)))) (W_G (gv tc wd cc kc) G)) 0 [(0, .ref 0), (1, .int (nI c)), (2, .int (rr_b wet)), (3, .int (nI a)), (4, .int (nI b))] [] (W_G (gv tc wd cc kc) G)
  refine rr_go hC bk_X8_firstHour_0_3 (l' := [(0, .ref 0), (1, .int (nI c)), (2, .int (rr_b wet)), (3, .int (nI a)), (4, .int (nI b)), (5, .int (nI a))]) (st' := []) (w' := (W_G (gv tc wd cc kc) G)) rfl ?_
  have lp3 : ∀ (j h : Nat), h + j = b → a ≤ h → p_fst (fun x => p_wet G tc c x == wet) a (b - a) = p_fst (fun x => p_wet G tc c x == wet) h (b - h) → rr_J Z 6 0 0 (rr_MQ Z 0 0 (some (nI (p_fst (fun x => p_wet G tc c x == wet) a (b - a)))) (W_G (gv tc wd cc kc) G)) 3 [(0, .ref 0), (1, .int (nI c)), (2, .int (rr_b wet)), (3, .int (nI a)), (4, .int (nI b)), (5, .int (nI h))] [] (W_G (gv tc wd cc kc) G) := by
    intro j
    induction j with
    | zero =>
      intro h hk3 hlo3 hq
      refine rr_go hC bk_X8_firstHour_3_7 (l' := [(0, .ref 0), (1, .int (nI c)), (2, .int (rr_b wet)), (3, .int (nI a)), (4, .int (nI b)), (5, .int (nI h))]) (st' := [.int (nI b), .int (nI h)]) (w' := (W_G (gv tc wd cc kc) G)) rfl ?_
      refine rr_icmp_ge hC (off := 23) (tgt := 30) (by decide +kernel) (fun h7 => ?_) (fun h7 => by rw [rr_nn_le (by omega) (by omega)] at h7; omega)
      rw [rr_nn_le (by omega) (by omega)] at h7
      refine rr_go hC bk_X8_firstHour_30_32 (l' := [(0, .ref 0), (1, .int (nI c)), (2, .int (rr_b wet)), (3, .int (nI a)), (4, .int (nI b)), (5, .int (nI h))]) (st' := [.int (nI b)]) (w' := (W_G (gv tc wd cc kc) G)) rfl ?_
      exact rr_reti hC (by decide +kernel) (by rw [hq, show b - h = 0 by omega, show h = b by omega]; rfl) (by rfl) ⟨Nat.zero_le _, Nat.zero_le _⟩
    | succ j ih =>
      intro h hk3 hlo3 hq
      refine rr_go hC bk_X8_firstHour_3_7 (l' := [(0, .ref 0), (1, .int (nI c)), (2, .int (rr_b wet)), (3, .int (nI a)), (4, .int (nI b)), (5, .int (nI h))]) (st' := [.int (nI b), .int (nI h)]) (w' := (W_G (gv tc wd cc kc) G)) rfl ?_
      refine rr_icmp_ge hC (off := 23) (tgt := 30) (by decide +kernel) (fun h7 => by rw [rr_nn_le (by omega) (by omega)] at h7; omega) (fun h7 => ?_)
      rw [rr_nn_le (by omega) (by omega)] at h7
      refine rr_go hC bk_X8_firstHour_10_14 (l' := [(0, .ref 0), (1, .int (nI c)), (2, .int (rr_b wet)), (3, .int (nI a)), (4, .int (nI b)), (5, .int (nI h))]) (st' := [.int (nI h), .int (nI c), .ref 0]) (w' := (W_G (gv tc wd cc kc) G)) rfl ?_
      refine rr_callV hC (by decide +kernel) kl_8_57 fX8_isWet (c8_isWet tc wd cc kc G c h (by omega) (by omega) (by omega) (by omega)) rfl rfl [0, 1, 2, 3, 4, 5, 6] rfl rfl (Eq.refl 7) rfl rfl rfl (rest := []) rfl rfl ⟨Nat.zero_le _, Nat.zero_le _⟩ (w2 := (W_G (gv tc wd cc kc) G)) rfl ?_
      show rr_J Z 6 0 0 _ 17 [(0, .ref 0), (1, .int (nI c)), (2, .int (rr_b wet)), (3, .int (nI a)), (4, .int (nI b)), (5, .int (nI h))] [.int (rr_b (p_wet G tc c h))] (W_G (gv tc wd cc kc) G)
      refine rr_go hC bk_X8_firstHour_17_18 (l' := [(0, .ref 0), (1, .int (nI c)), (2, .int (rr_b wet)), (3, .int (nI a)), (4, .int (nI b)), (5, .int (nI h))]) (st' := [.int (rr_b wet), .int (rr_b (p_wet G tc c h))]) (w' := (W_G (gv tc wd cc kc) G)) rfl ?_
      refine rr_icmp_ne hC (off := 6) (tgt := 24) (by decide +kernel) (fun h18 => ?_) (fun h18 => ?_)
      · refine rr_go hC bk_X8_firstHour_24_3 (l' := [(0, .ref 0), (1, .int (nI c)), (2, .int (rr_b wet)), (3, .int (nI a)), (4, .int (nI b)), (5, .int ((nI h) + 1))]) (st' := []) (w' := (W_G (gv tc wd cc kc) G)) rfl ?_
        rw [show ((nI h) + 1 : Int32) = nI (h + 1) from nI_add h 1]
        exact rr_cast (l' := [(0, .ref 0), (1, .int (nI c)), (2, .int (rr_b wet)), (3, .int (nI a)), (4, .int (nI b)), (5, .int (nI (h + 1)))]) (by rfl) rfl (w' := (W_G (gv tc wd cc kc) G)) (by rfl) (ih (h + 1) (by omega) (by omega) (by rw [hq, show b - h = (b - (h + 1)) + 1 by omega, p_fst, if_neg (by rw [rr_b_inj] at h18; simp [h18])]))
      · refine rr_go hC bk_X8_firstHour_21_23 (l' := [(0, .ref 0), (1, .int (nI c)), (2, .int (rr_b wet)), (3, .int (nI a)), (4, .int (nI b)), (5, .int (nI h))]) (st' := [.int (nI h)]) (w' := (W_G (gv tc wd cc kc) G)) rfl ?_
        exact rr_reti hC (by decide +kernel) (by rw [hq, show b - h = (b - (h + 1)) + 1 by omega, p_fst, if_pos (by rw [rr_b_inj] at h18; simp [h18])]) (by rfl) ⟨Nat.zero_le _, Nat.zero_le _⟩
  exact rr_cast (l' := [(0, .ref 0), (1, .int (nI c)), (2, .int (rr_b wet)), (3, .int (nI a)), (4, .int (nI b)), (5, .int (nI a))]) (by rfl) rfl (w' := (W_G (gv tc wd cc kc) G)) (by rfl) (lp3 (b - a) a (by omega) (Nat.le_refl _) rfl)
def p_bec (G H : Nat → Nat → Int32) : Nat → Nat → Int32 := va_up (va_up (va_up (va_up (va_up (va_up G 0 (va_cpy (H 0) (G 0) 0 0 12)) 1 (va_cpy (H 1) (G 1) 0 0 9)) 2 (va_cpy (H 2) (G 2) 0 0 6)) 3 (va_cpy (H 3) (G 3) 0 0 6)) 4 (va_cpy (H 4) (G 4) 0 0 6)) 5 (va_cpy (H 5) (G 5) 0 0 6)
theorem bk_X8_empty_0_20 : rr_chk mX8_empty [(.aload_n 0, 0, 0, 0), (.iconst 0, 0, 0, 0), (.putfield 30, 0, 8, 6), (.aload_n 0, 0, 0, 0), (.iconst 0, 0, 0, 0), (.putfield 34, 0, 8, 7), (.aload_n 0, 0, 0, 0), (.iconst 0, 0, 0, 0), (.putfield 37, 0, 8, 8), (.aload_n 0, 0, 0, 0), (.iconst 0, 0, 0, 0), (.putfield 40, 0, 8, 9)] 0 20 = true := by decide +kernel
set_option maxRecDepth 100000 in
set_option maxHeartbeats 4000000 in
theorem c8_empty (tc wd cc kc : Nat) (G : Nat → Nat → Int32) : rr_C mX8_empty 0 [.ref 0] (W_G (gv tc wd cc kc) G) 0 0 none (W_G (gv 0 0 0 0) G) := by
  refine rr_C.of (n := 0) fX8_empty.1 rfl rfl (fun Z hC => ?_)
  show rr_J Z 1 0 0 (rr_MQ Z 0 0 none (W_G (gv 0 0 0 0) G)) 0 [(0, .ref 0)] [] (W_G (gv tc wd cc kc) G)
  refine rr_go hC bk_X8_empty_0_20 (l' := [(0, .ref 0)]) (st' := []) (w' := (W_G (upd (upd (upd (upd (gv tc wd cc kc) 0 0) 1 0) 2 0) 3 0) G)) rfl ?_
  exact rr_retv hC (by decide +kernel) (by rfl) ⟨Nat.zero_le _, Nat.zero_le _⟩
theorem bk_X8_addTide_0_6 : rr_chk mX8_addTide [(.aload_n 0, 0, 0, 0), (.getfield 30, 0, 8, 6), (.bipush 12, 12, 0, 0)] 0 6 = true := by decide +kernel
theorem bk_X8_addTide_9_18 : rr_chk mX8_addTide [(.aload_n 0, 0, 0, 0), (.getfield 9, 0, 8, 0), (.aload_n 0, 0, 0, 0), (.getfield 30, 0, 8, 6), (.iload_n 1, 0, 1, 0)] 9 18 = true := by decide +kernel
theorem bk_X8_addTide_19_29 : rr_chk mX8_addTide [(.aload_n 0, 0, 0, 0), (.dup, 0, 0, 0), (.getfield 30, 0, 8, 6), (.iconst 1, 1, 0, 0), (.iadd, 0, 0, 0), (.putfield 30, 0, 8, 6)] 19 29 = true := by decide +kernel
set_option maxRecDepth 100000 in
set_option maxHeartbeats 4000000 in
theorem c8_addTide (tc wd cc kc : Nat) (G : Nat → Nat → Int32) (x : Int32) (htc : tc < 12) : rr_C mX8_addTide 0 [.ref 0, .int x] (W_G (gv tc wd cc kc) G) 0 0 none (W_G (gv (tc + 1) wd cc kc) (va_up G 0 (upd (G 0) tc x))) := by
  refine rr_C.of (n := 1) fX8_addTide.1 rfl rfl (fun Z hC => ?_)
  show rr_J Z 2 0 0 (rr_MQ Z 0 0 none (W_G (gv (tc + 1) wd cc kc) (va_up G 0 (upd (G 0) tc x)))) 0 [(0, .ref 0), (1, .int x)] [] (W_G (gv tc wd cc kc) G)
  refine rr_go hC bk_X8_addTide_0_6 (l' := [(0, .ref 0), (1, .int x)]) (st' := [.int 12, .int (nI tc)]) (w' := (W_G (gv tc wd cc kc) G)) rfl ?_
  refine rr_icmp_ge hC (off := 23) (tgt := 29) (by decide +kernel) (fun h6 => by rw [rr_ln_le (a := 12) (by omega) (by omega)] at h6; omega) (fun h6 => ?_)
  rw [rr_ln_le (a := 12) (by omega) (by omega)] at h6
  refine rr_go hC bk_X8_addTide_9_18 (l' := [(0, .ref 0), (1, .int x)]) (st' := [.int x, .int (nI tc), .ref 1]) (w' := (W_G (gv tc wd cc kc) G)) rfl ?_
  refine rr_iast hC tc (by decide +kernel) rfl rfl (by omega) rfl (w' := (W_G (gv tc wd cc kc) (va_up G 0 (upd (G 0) tc x)))) rfl ?_
  show rr_J Z 2 0 0 _ 19 [(0, .ref 0), (1, .int x)] [] (W_G (gv tc wd cc kc) (va_up G 0 (upd (G 0) tc x)))
  refine rr_go hC bk_X8_addTide_19_29 (l' := [(0, .ref 0), (1, .int x)]) (st' := []) (w' := (W_G (upd (gv tc wd cc kc) 0 ((nI tc) + 1)) (va_up G 0 (upd (G 0) tc x)))) rfl ?_
  rw [show ((nI tc) + 1 : Int32) = nI (tc + 1) from nI_add tc 1]
  exact rr_retv hC (by decide +kernel) (by rfl) ⟨Nat.zero_le _, Nat.zero_le _⟩
theorem bk_X8_addCell_0_6 : rr_chk mX8_addCell [(.aload_n 0, 0, 0, 0), (.getfield 37, 0, 8, 8), (.bipush 9, 9, 0, 0)] 0 6 = true := by decide +kernel
theorem bk_X8_addCell_9_18 : rr_chk mX8_addCell [(.aload_n 0, 0, 0, 0), (.getfield 15, 0, 8, 1), (.aload_n 0, 0, 0, 0), (.getfield 37, 0, 8, 8), (.iload_n 1, 0, 1, 0)] 9 18 = true := by decide +kernel
theorem bk_X8_addCell_19_29 : rr_chk mX8_addCell [(.aload_n 0, 0, 0, 0), (.dup, 0, 0, 0), (.getfield 37, 0, 8, 8), (.iconst 1, 1, 0, 0), (.iadd, 0, 0, 0), (.putfield 37, 0, 8, 8)] 19 29 = true := by decide +kernel
set_option maxRecDepth 100000 in
set_option maxHeartbeats 4000000 in
theorem c8_addCell (tc wd cc kc : Nat) (G : Nat → Nat → Int32) (x : Int32) (hcc : cc < 9) : rr_C mX8_addCell 0 [.ref 0, .int x] (W_G (gv tc wd cc kc) G) 0 0 none (W_G (gv tc wd (cc + 1) kc) (va_up G 1 (upd (G 1) cc x))) := by
  refine rr_C.of (n := 1) fX8_addCell.1 rfl rfl (fun Z hC => ?_)
  show rr_J Z 2 0 0 (rr_MQ Z 0 0 none (W_G (gv tc wd (cc + 1) kc) (va_up G 1 (upd (G 1) cc x)))) 0 [(0, .ref 0), (1, .int x)] [] (W_G (gv tc wd cc kc) G)
  refine rr_go hC bk_X8_addCell_0_6 (l' := [(0, .ref 0), (1, .int x)]) (st' := [.int 9, .int (nI cc)]) (w' := (W_G (gv tc wd cc kc) G)) rfl ?_
  refine rr_icmp_ge hC (off := 23) (tgt := 29) (by decide +kernel) (fun h6 => by rw [rr_ln_le (a := 9) (by omega) (by omega)] at h6; omega) (fun h6 => ?_)
  rw [rr_ln_le (a := 9) (by omega) (by omega)] at h6
  refine rr_go hC bk_X8_addCell_9_18 (l' := [(0, .ref 0), (1, .int x)]) (st' := [.int x, .int (nI cc), .ref 2]) (w' := (W_G (gv tc wd cc kc) G)) rfl ?_
  refine rr_iast hC cc (by decide +kernel) rfl rfl (by omega) rfl (w' := (W_G (gv tc wd cc kc) (va_up G 1 (upd (G 1) cc x)))) rfl ?_
  show rr_J Z 2 0 0 _ 19 [(0, .ref 0), (1, .int x)] [] (W_G (gv tc wd cc kc) (va_up G 1 (upd (G 1) cc x)))
  refine rr_go hC bk_X8_addCell_19_29 (l' := [(0, .ref 0), (1, .int x)]) (st' := []) (w' := (W_G (upd (gv tc wd cc kc) 2 ((nI cc) + 1)) (va_up G 1 (upd (G 1) cc x)))) rfl ?_
  rw [show ((nI cc) + 1 : Int32) = nI (cc + 1) from nI_add cc 1]
  exact rr_retv hC (by decide +kernel) (by rfl) ⟨Nat.zero_le _, Nat.zero_le _⟩
theorem bk_X8_addClause_0_6 : rr_chk mX8_addClause [(.aload_n 0, 0, 0, 0), (.getfield 40, 0, 8, 9), (.bipush 6, 6, 0, 0)] 0 6 = true := by decide +kernel
theorem bk_X8_addClause_9_18 : rr_chk mX8_addClause [(.aload_n 0, 0, 0, 0), (.getfield 18, 0, 8, 2), (.aload_n 0, 0, 0, 0), (.getfield 40, 0, 8, 9), (.iload_n 1, 0, 1, 0)] 9 18 = true := by decide +kernel
theorem bk_X8_addClause_19_28 : rr_chk mX8_addClause [(.aload_n 0, 0, 0, 0), (.getfield 21, 0, 8, 3), (.aload_n 0, 0, 0, 0), (.getfield 40, 0, 8, 9), (.iload_n 2, 0, 2, 0)] 19 28 = true := by decide +kernel
theorem bk_X8_addClause_29_38 : rr_chk mX8_addClause [(.aload_n 0, 0, 0, 0), (.getfield 24, 0, 8, 4), (.aload_n 0, 0, 0, 0), (.getfield 40, 0, 8, 9), (.iload_n 3, 0, 3, 0)] 29 38 = true := by decide +kernel
theorem bk_X8_addClause_39_49 : rr_chk mX8_addClause [(.aload_n 0, 0, 0, 0), (.getfield 27, 0, 8, 5), (.aload_n 0, 0, 0, 0), (.getfield 40, 0, 8, 9), (.iload 4, 0, 4, 0)] 39 49 = true := by decide +kernel
theorem bk_X8_addClause_50_60 : rr_chk mX8_addClause [(.aload_n 0, 0, 0, 0), (.dup, 0, 0, 0), (.getfield 40, 0, 8, 9), (.iconst 1, 1, 0, 0), (.iadd, 0, 0, 0), (.putfield 40, 0, 8, 9)] 50 60 = true := by decide +kernel
set_option maxRecDepth 100000 in
set_option maxHeartbeats 4000000 in
theorem c8_addClause (tc wd cc kc : Nat) (G : Nat → Nat → Int32) (x y z u : Int32) (hkc : kc < 6) : rr_C mX8_addClause 0 [.ref 0, .int x, .int y, .int z, .int u] (W_G (gv tc wd cc kc) G) 0 0 none (W_G (gv tc wd cc (kc + 1)) (va_up (va_up (va_up (va_up G 2 (upd (G 2) kc x)) 3 (upd (G 3) kc y)) 4 (upd (G 4) kc z)) 5 (upd (G 5) kc u))) := by
  refine rr_C.of (n := 4) fX8_addClause.1 rfl rfl (fun Z hC => ?_)
  show rr_J Z 5 0 0 (rr_MQ Z 0 0 none (W_G (gv tc wd cc (kc + 1)) (va_up (va_up (va_up (va_up G 2 (upd (G 2) kc x)) 3 (upd (G 3) kc y)) 4 (upd (G 4) kc z)) 5 (upd (G 5) kc u)))) 0 [(0, .ref 0), (1, .int x), (2, .int y), (3, .int z), (4, .int u)] [] (W_G (gv tc wd cc kc) G)
  refine rr_go hC bk_X8_addClause_0_6 (l' := [(0, .ref 0), (1, .int x), (2, .int y), (3, .int z), (4, .int u)]) (st' := [.int 6, .int (nI kc)]) (w' := (W_G (gv tc wd cc kc) G)) rfl ?_
  refine rr_icmp_ge hC (off := 54) (tgt := 60) (by decide +kernel) (fun h6 => by rw [rr_ln_le (a := 6) (by omega) (by omega)] at h6; omega) (fun h6 => ?_)
  rw [rr_ln_le (a := 6) (by omega) (by omega)] at h6
  refine rr_go hC bk_X8_addClause_9_18 (l' := [(0, .ref 0), (1, .int x), (2, .int y), (3, .int z), (4, .int u)]) (st' := [.int x, .int (nI kc), .ref 3]) (w' := (W_G (gv tc wd cc kc) G)) rfl ?_
  refine rr_iast hC kc (by decide +kernel) rfl rfl (by omega) rfl (w' := (W_G (gv tc wd cc kc) (va_up G 2 (upd (G 2) kc x)))) rfl ?_
  show rr_J Z 5 0 0 _ 19 [(0, .ref 0), (1, .int x), (2, .int y), (3, .int z), (4, .int u)] [] (W_G (gv tc wd cc kc) (va_up G 2 (upd (G 2) kc x)))
  refine rr_go hC bk_X8_addClause_19_28 (l' := [(0, .ref 0), (1, .int x), (2, .int y), (3, .int z), (4, .int u)]) (st' := [.int y, .int (nI kc), .ref 4]) (w' := (W_G (gv tc wd cc kc) (va_up G 2 (upd (G 2) kc x)))) rfl ?_
  refine rr_iast hC kc (by decide +kernel) rfl rfl (by omega) rfl (w' := (W_G (gv tc wd cc kc) (va_up (va_up G 2 (upd (G 2) kc x)) 3 (upd (G 3) kc y)))) rfl ?_
  show rr_J Z 5 0 0 _ 29 [(0, .ref 0), (1, .int x), (2, .int y), (3, .int z), (4, .int u)] [] (W_G (gv tc wd cc kc) (va_up (va_up G 2 (upd (G 2) kc x)) 3 (upd (G 3) kc y)))
  refine rr_go hC bk_X8_addClause_29_38 (l' := [(0, .ref 0), (1, .int x), (2, .int y), (3, .int z), (4, .int u)]) (st' := [.int z, .int (nI kc), .ref 5]) (w' := (W_G (gv tc wd cc kc) (va_up (va_up G 2 (upd (G 2) kc x)) 3 (upd (G 3) kc y)))) rfl ?_
  refine rr_iast hC kc (by decide +kernel) rfl rfl (by omega) rfl (w' := (W_G (gv tc wd cc kc) (va_up (va_up (va_up G 2 (upd (G 2) kc x)) 3 (upd (G 3) kc y)) 4 (upd (G 4) kc z)))) rfl ?_
  show rr_J Z 5 0 0 _ 39 [(0, .ref 0), (1, .int x), (2, .int y), (3, .int z), (4, .int u)] [] (W_G (gv tc wd cc kc) (va_up (va_up (va_up G 2 (upd (G 2) kc x)) 3 (upd (G 3) kc y)) 4 (upd (G 4) kc z)))
  refine rr_go hC bk_X8_addClause_39_49 (l' := [(0, .ref 0), (1, .int x), (2, .int y), (3, .int z), (4, .int u)]) (st' := [.int u, .int (nI kc), .ref 6]) (w' := (W_G (gv tc wd cc kc) (va_up (va_up (va_up G 2 (upd (G 2) kc x)) 3 (upd (G 3) kc y)) 4 (upd (G 4) kc z)))) rfl ?_
  refine rr_iast hC kc (by decide +kernel) rfl rfl (by omega) rfl (w' := (W_G (gv tc wd cc kc) (va_up (va_up (va_up (va_up G 2 (upd (G 2) kc x)) 3 (upd (G 3) kc y)) 4 (upd (G 4) kc z)) 5 (upd (G 5) kc u)))) rfl ?_
  show rr_J Z 5 0 0 _ 50 [(0, .ref 0), (1, .int x), (2, .int y), (3, .int z), (4, .int u)] [] (W_G (gv tc wd cc kc) (va_up (va_up (va_up (va_up G 2 (upd (G 2) kc x)) 3 (upd (G 3) kc y)) 4 (upd (G 4) kc z)) 5 (upd (G 5) kc u)))
  refine rr_go hC bk_X8_addClause_50_60 (l' := [(0, .ref 0), (1, .int x), (2, .int y), (3, .int z), (4, .int u)]) (st' := []) (w' := (W_G (upd (gv tc wd cc kc) 3 ((nI kc) + 1)) (va_up (va_up (va_up (va_up G 2 (upd (G 2) kc x)) 3 (upd (G 3) kc y)) 4 (upd (G 4) kc z)) 5 (upd (G 5) kc u)))) rfl ?_
  rw [show ((nI kc) + 1 : Int32) = nI (kc + 1) from nI_add kc 1]
  exact rr_retv hC (by decide +kernel) (by rfl) ⟨Nat.zero_le _, Nat.zero_le _⟩
theorem bk_X8_become_0_12 : rr_chk mX8_become [(.aload_n 1, 0, 1, 0), (.getfield 9, 0, 8, 0), (.iconst 0, 0, 0, 0), (.aload_n 0, 0, 0, 0), (.getfield 9, 0, 8, 0), (.iconst 0, 0, 0, 0), (.bipush 12, 12, 0, 0)] 0 12 = true := by decide +kernel
theorem bk_X8_become_15_27 : rr_chk mX8_become [(.aload_n 1, 0, 1, 0), (.getfield 15, 0, 8, 1), (.iconst 0, 0, 0, 0), (.aload_n 0, 0, 0, 0), (.getfield 15, 0, 8, 1), (.iconst 0, 0, 0, 0), (.bipush 9, 9, 0, 0)] 15 27 = true := by decide +kernel
theorem bk_X8_become_30_42 : rr_chk mX8_become [(.aload_n 1, 0, 1, 0), (.getfield 18, 0, 8, 2), (.iconst 0, 0, 0, 0), (.aload_n 0, 0, 0, 0), (.getfield 18, 0, 8, 2), (.iconst 0, 0, 0, 0), (.bipush 6, 6, 0, 0)] 30 42 = true := by decide +kernel
theorem bk_X8_become_45_57 : rr_chk mX8_become [(.aload_n 1, 0, 1, 0), (.getfield 21, 0, 8, 3), (.iconst 0, 0, 0, 0), (.aload_n 0, 0, 0, 0), (.getfield 21, 0, 8, 3), (.iconst 0, 0, 0, 0), (.bipush 6, 6, 0, 0)] 45 57 = true := by decide +kernel
theorem bk_X8_become_60_72 : rr_chk mX8_become [(.aload_n 1, 0, 1, 0), (.getfield 24, 0, 8, 4), (.iconst 0, 0, 0, 0), (.aload_n 0, 0, 0, 0), (.getfield 24, 0, 8, 4), (.iconst 0, 0, 0, 0), (.bipush 6, 6, 0, 0)] 60 72 = true := by decide +kernel
theorem bk_X8_become_75_87 : rr_chk mX8_become [(.aload_n 1, 0, 1, 0), (.getfield 27, 0, 8, 5), (.iconst 0, 0, 0, 0), (.aload_n 0, 0, 0, 0), (.getfield 27, 0, 8, 5), (.iconst 0, 0, 0, 0), (.bipush 6, 6, 0, 0)] 75 87 = true := by decide +kernel
theorem bk_X8_become_90_122 : rr_chk mX8_become [(.aload_n 0, 0, 0, 0), (.aload_n 1, 0, 1, 0), (.getfield 30, 0, 8, 6), (.putfield 30, 0, 8, 6), (.aload_n 0, 0, 0, 0), (.aload_n 1, 0, 1, 0), (.getfield 34, 0, 8, 7), (.putfield 34, 0, 8, 7), (.aload_n 0, 0, 0, 0), (.aload_n 1, 0, 1, 0), (.getfield 37, 0, 8, 8), (.putfield 37, 0, 8, 8), (.aload_n 0, 0, 0, 0), (.aload_n 1, 0, 1, 0), (.getfield 40, 0, 8, 9), (.putfield 40, 0, 8, 9)] 90 122 = true := by decide +kernel
set_option maxRecDepth 100000 in
set_option maxHeartbeats 4000000 in
theorem c8_become (tc wd cc kc : Nat) (G : Nat → Nat → Int32) (tb wb cb kb : Nat) (H : Nat → Nat → Int32) : rr_C mX8_become 1 [.ref 0, .ref 7] (W_GG (gv tc wd cc kc) G (gv tb wb cb kb) H) 0 0 none (W_GG (gv tb wb cb kb) (p_bec G H) (gv tb wb cb kb) H) := by
  refine rr_C.of (n := 1) fX8_become.1 rfl rfl (fun Z hC => ?_)
  show rr_J Z 2 0 0 (rr_MQ Z 0 0 none (W_GG (gv tb wb cb kb) (p_bec G H) (gv tb wb cb kb) H)) 0 [(0, .ref 0), (1, .ref 7)] [] (W_GG (gv tc wd cc kc) G (gv tb wb cb kb) H)
  refine rr_go hC bk_X8_become_0_12 (l' := [(0, .ref 0), (1, .ref 7)]) (st' := [.int 12, .int 0, .ref 1, .int 0, .ref 8]) (w' := (W_GG (gv tc wd cc kc) G (gv tb wb cb kb) H)) rfl ?_
  refine rr_copy hC (by decide +kernel) kl_8_43 rfl rfl rfl 0 0 12 (by simp only [fa_lit, rr_addl, rr_ladd, rr_lmul, rr_mull, nI_add, pk_mul, nI_1]) (by simp only [fa_lit, rr_addl, rr_ladd, rr_lmul, rr_mull, nI_add, pk_mul, nI_1]) (by simp only [fa_lit, rr_addl, rr_ladd, rr_lmul, rr_mull, nI_add, pk_mul, nI_1]) rfl rfl (by omega) (by omega) rfl rfl (w' := (W_GG (gv tc wd cc kc) (va_up G 0 (va_cpy (H 0) (G 0) 0 0 12)) (gv tb wb cb kb) H)) rfl ?_
  refine rr_go hC bk_X8_become_15_27 (l' := [(0, .ref 0), (1, .ref 7)]) (st' := [.int 9, .int 0, .ref 2, .int 0, .ref 9]) (w' := (W_GG (gv tc wd cc kc) (va_up G 0 (va_cpy (H 0) (G 0) 0 0 12)) (gv tb wb cb kb) H)) rfl ?_
  refine rr_copy hC (by decide +kernel) kl_8_43 rfl rfl rfl 0 0 9 (by simp only [fa_lit, rr_addl, rr_ladd, rr_lmul, rr_mull, nI_add, pk_mul, nI_1]) (by simp only [fa_lit, rr_addl, rr_ladd, rr_lmul, rr_mull, nI_add, pk_mul, nI_1]) (by simp only [fa_lit, rr_addl, rr_ladd, rr_lmul, rr_mull, nI_add, pk_mul, nI_1]) rfl rfl (by omega) (by omega) rfl rfl (w' := (W_GG (gv tc wd cc kc) (va_up (va_up G 0 (va_cpy (H 0) (G 0) 0 0 12)) 1 (va_cpy (H 1) (G 1) 0 0 9)) (gv tb wb cb kb) H)) rfl ?_
  refine rr_go hC bk_X8_become_30_42 (l' := [(0, .ref 0), (1, .ref 7)]) (st' := [.int 6, .int 0, .ref 3, .int 0, .ref 10]) (w' := (W_GG (gv tc wd cc kc) (va_up (va_up G 0 (va_cpy (H 0) (G 0) 0 0 12)) 1 (va_cpy (H 1) (G 1) 0 0 9)) (gv tb wb cb kb) H)) rfl ?_
  refine rr_copy hC (by decide +kernel) kl_8_43 rfl rfl rfl 0 0 6 (by simp only [fa_lit, rr_addl, rr_ladd, rr_lmul, rr_mull, nI_add, pk_mul, nI_1]) (by simp only [fa_lit, rr_addl, rr_ladd, rr_lmul, rr_mull, nI_add, pk_mul, nI_1]) (by simp only [fa_lit, rr_addl, rr_ladd, rr_lmul, rr_mull, nI_add, pk_mul, nI_1]) rfl rfl (by omega) (by omega) rfl rfl (w' := (W_GG (gv tc wd cc kc) (va_up (va_up (va_up G 0 (va_cpy (H 0) (G 0) 0 0 12)) 1 (va_cpy (H 1) (G 1) 0 0 9)) 2 (va_cpy (H 2) (G 2) 0 0 6)) (gv tb wb cb kb) H)) rfl ?_
  refine rr_go hC bk_X8_become_45_57 (l' := [(0, .ref 0), (1, .ref 7)]) (st' := [.int 6, .int 0, .ref 4, .int 0, .ref 11]) (w' := (W_GG (gv tc wd cc kc) (va_up (va_up (va_up G 0 (va_cpy (H 0) (G 0) 0 0 12)) 1 (va_cpy (H 1) (G 1) 0 0 9)) 2 (va_cpy (H 2) (G 2) 0 0 6)) (gv tb wb cb kb) H)) rfl ?_
  refine rr_copy hC (by decide +kernel) kl_8_43 rfl rfl rfl 0 0 6 (by simp only [fa_lit, rr_addl, rr_ladd, rr_lmul, rr_mull, nI_add, pk_mul, nI_1]) (by simp only [fa_lit, rr_addl, rr_ladd, rr_lmul, rr_mull, nI_add, pk_mul, nI_1]) (by simp only [fa_lit, rr_addl, rr_ladd, rr_lmul, rr_mull, nI_add, pk_mul, nI_1]) rfl rfl (by omega) (by omega) rfl rfl (w' := (W_GG (gv tc wd cc kc) (va_up (va_up (va_up (va_up G 0 (va_cpy (H 0) (G 0) 0 0 12)) 1 (va_cpy (H 1) (G 1) 0 0 9)) 2 (va_cpy (H 2) (G 2) 0 0 6)) 3 (va_cpy (H 3) (G 3) 0 0 6)) (gv tb wb cb kb) H)) rfl ?_
  refine rr_go hC bk_X8_become_60_72 (l' := [(0, .ref 0), (1, .ref 7)]) (st' := [.int 6, .int 0, .ref 5, .int 0, .ref 12]) (w' := (W_GG (gv tc wd cc kc) (va_up (va_up (va_up (va_up G 0 (va_cpy (H 0) (G 0) 0 0 12)) 1 (va_cpy (H 1) (G 1) 0 0 9)) 2 (va_cpy (H 2) (G 2) 0 0 6)) 3 (va_cpy (H 3) (G 3) 0 0 6)) (gv tb wb cb kb) H)) rfl ?_
  refine rr_copy hC (by decide +kernel) kl_8_43 rfl rfl rfl 0 0 6 (by simp only [fa_lit, rr_addl, rr_ladd, rr_lmul, rr_mull, nI_add, pk_mul, nI_1]) (by simp only [fa_lit, rr_addl, rr_ladd, rr_lmul, rr_mull, nI_add, pk_mul, nI_1]) (by simp only [fa_lit, rr_addl, rr_ladd, rr_lmul, rr_mull, nI_add, pk_mul, nI_1]) rfl rfl (by omega) (by omega) rfl rfl (w' := (W_GG (gv tc wd cc kc) (va_up (va_up (va_up (va_up (va_up G 0 (va_cpy (H 0) (G 0) 0 0 12)) 1 (va_cpy (H 1) (G 1) 0 0 9)) 2 (va_cpy (H 2) (G 2) 0 0 6)) 3 (va_cpy (H 3) (G 3) 0 0 6)) 4 (va_cpy (H 4) (G 4) 0 0 6)) (gv tb wb cb kb) H)) rfl ?_
  refine rr_go hC bk_X8_become_75_87 (l' := [(0, .ref 0), (1, .ref 7)]) (st' := [.int 6, .int 0, .ref 6, .int 0, .ref 13]) (w' := (W_GG (gv tc wd cc kc) (va_up (va_up (va_up (va_up (va_up G 0 (va_cpy (H 0) (G 0) 0 0 12)) 1 (va_cpy (H 1) (G 1) 0 0 9)) 2 (va_cpy (H 2) (G 2) 0 0 6)) 3 (va_cpy (H 3) (G 3) 0 0 6)) 4 (va_cpy (H 4) (G 4) 0 0 6)) (gv tb wb cb kb) H)) rfl ?_
  refine rr_copy hC (by decide +kernel) kl_8_43 rfl rfl rfl 0 0 6 (by simp only [fa_lit, rr_addl, rr_ladd, rr_lmul, rr_mull, nI_add, pk_mul, nI_1]) (by simp only [fa_lit, rr_addl, rr_ladd, rr_lmul, rr_mull, nI_add, pk_mul, nI_1]) (by simp only [fa_lit, rr_addl, rr_ladd, rr_lmul, rr_mull, nI_add, pk_mul, nI_1]) rfl rfl (by omega) (by omega) rfl rfl (w' := (W_GG (gv tc wd cc kc) (va_up (va_up (va_up (va_up (va_up (va_up G 0 (va_cpy (H 0) (G 0) 0 0 12)) 1 (va_cpy (H 1) (G 1) 0 0 9)) 2 (va_cpy (H 2) (G 2) 0 0 6)) 3 (va_cpy (H 3) (G 3) 0 0 6)) 4 (va_cpy (H 4) (G 4) 0 0 6)) 5 (va_cpy (H 5) (G 5) 0 0 6)) (gv tb wb cb kb) H)) rfl ?_
  refine rr_go hC bk_X8_become_90_122 (l' := [(0, .ref 0), (1, .ref 7)]) (st' := []) (w' := (W_GG (upd (upd (upd (upd (gv tc wd cc kc) 0 (nI tb)) 1 (nI wb)) 2 (nI cb)) 3 (nI kb)) (va_up (va_up (va_up (va_up (va_up (va_up G 0 (va_cpy (H 0) (G 0) 0 0 12)) 1 (va_cpy (H 1) (G 1) 0 0 9)) 2 (va_cpy (H 2) (G 2) 0 0 6)) 3 (va_cpy (H 3) (G 3) 0 0 6)) 4 (va_cpy (H 4) (G 4) 0 0 6)) 5 (va_cpy (H 5) (G 5) 0 0 6)) (gv tb wb cb kb) H)) rfl ?_
  exact rr_retv hC (by decide +kernel) (by rfl) ⟨Nat.zero_le _, Nat.zero_le _⟩
