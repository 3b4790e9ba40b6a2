/-! Sand: where clauses are. Pure words, contracts -/
def sv4 (h ss p1 p2 : Int32) (i : Nat) : Int32 := match i with
  | 0 => h
  | 1 => ss
  | 2 => p1
  | _ => p2
/-- clause k is nowhere: rows, stick -/
def p_rmS (S : Nat → Nat → Int32) (k : Nat) : Nat → Nat → Int32 := va_up (va_up (va_up S 0 (upd (S 0) k (-1))) 1 (upd (S 1) k 0)) 2 (upd (S 2) k 0)
def p_rms (ss : Int32) (k : Nat) : Int32 := if ss = nI k then -1 else ss
def p_rsS (S : Nat → Nat → Int32) : Nat → Nat → Nat → Int32
  | 0 => S
  | k + 1 => p_rmS (p_rsS S k) k
def p_cpS (S T : Nat → Nat → Int32) : Nat → Nat → Int32 := va_up (va_up (va_up S 0 (va_cpy (T 0) (S 0) 0 0 6)) 1 (va_cpy (T 1) (S 1) 0 0 6)) 2 (va_cpy (T 2) (S 2) 0 0 6)
def p_sav (R : Nat → Int32) (a : Nat) (h ss p1 p2 : Int32) (S : Nat → Nat → Int32) : Nat → Int32 := va_cpy (S 2) (va_cpy (S 1) (va_cpy (S 0) (upd (upd (upd (upd R a h) (a + 1) ss) (a + 2) p1) (a + 3) p2) 0 (a + 4) 6) 0 ((a + 4) + 6) 6) 0 ((a + 4) + 12) 6
def p_lod (S : Nat → Nat → Int32) (R : Nat → Int32) (a : Nat) : Nat → Nat → Int32 := va_up (va_up (va_up S 0 (va_cpy R (S 0) (a + 4) 0 6)) 1 (va_cpy R (S 1) ((a + 4) + 6) 0 6)) 2 (va_cpy R (S 2) ((a + 4) + 12) 0 6)
def p_cin (f : Nat → Int32) (c : Int32) (k : Nat) : Nat → Int32
  | 0 => -1
  | n + 1 => if f k = c then nI k else p_cin f c (k + 1) n
def p_may (S G : Nat → Nat → Int32) (ss : Int32) (tc kc hh k c : Nat) : Bool := decide (ss = -1) && (decide (S 0 k = -1) && (!p_wet G tc c hh && decide (p_cin (S 0) (nI c) 0 kc = -1)))
def p_wrS (S : Nat → Nat → Int32) (k c : Nat) : Nat → Nat → Int32 := va_up (va_up (va_up S 0 (upd (S 0) k (nI c))) 1 (upd (S 1) k 0)) 2 (upd (S 2) k 0)
def p_ra (S : Nat → Nat → Int32) (ss : Int32) : Nat → (Nat → Nat → Int32) × Int32 × Nat
  | 0 => (S, ss, 0)
  | k + 1 => if (p_ra S ss k).1 0 k = -1 then p_ra S ss k else (p_rmS (p_ra S ss k).1 k, p_rms (p_ra S ss k).2.1 k, (p_ra S ss k).2.2 + 1)
theorem p_ra_le (S : Nat → Nat → Int32) (ss : Int32) (k : Nat) : (p_ra S ss k).2.2 ≤ k := by
  induction k with
  | zero => exact Nat.le_refl _
  | succ k ih =>
    simp only [p_ra]
    split
    · omega
    · simp; omega
def p_lay (S G : Nat → Nat → Int32) : Nat → Nat → Nat → Int32
  | 0 => S
  | k + 1 => va_up (va_up (p_lay S G k) 0 (upd (p_lay S G k 0) k (nI k))) 1 (upd (p_lay S G k 1) k (G 2 k))
def p_done (S G : Nat → Nat → Int32) (k : Nat) : Bool := !decide (S 0 k = -1) && !decide (S 1 k < G 2 k)
def p_fs (S G : Nat → Nat → Int32) : Nat → Int32
  | 0 => 0
  | k + 1 => if p_done S G k = true ∧ (G 3 k = -1 ∨ ¬ p_bit (p_fs S G k) (G 3 k) = 0) then p_fs S G k ||| ((1 : Int32) <<< (nI k &&& 31)) else p_fs S G k
def p_age (G : Nat → Nat → Int32) (tc wd hh k : Nat) (S : Nat → Nat → Int32) (ss : Int32) : (Nat → Nat → Int32) × Int32 :=
  if p_wet G tc (S 0 k).toNatClampNeg hh = true then (p_rmS S k, p_rms ss k)
  else if ss = nI k then (va_up S 1 (upd (S 1) k (S 1 k + 1)), if p_done (va_up S 1 (upd (S 1) k (S 1 k + 1))) G k = true then -1 else ss)
  else if p_done S G k = true then (if S 2 k + 1 ≤ nI wd then (va_up S 2 (upd (S 2) k (S 2 k + 1)), ss) else (p_rmS (va_up S 2 (upd (S 2) k (S 2 k + 1))) k, p_rms ss k))
  else (S, ss)
def p_pl (G : Nat → Nat → Int32) (tc wd hh : Nat) (S : Nat → Nat → Int32) (ss : Int32) : Nat → (Nat → Nat → Int32) × Int32
  | 0 => (S, ss)
  | k + 1 => if (p_pl G tc wd hh S ss k).1 0 k = -1 then p_pl G tc wd hh S ss k else p_age G tc wd hh k (p_pl G tc wd hh S ss k).1 (p_pl G tc wd hh S ss k).2
/-- every clause is nowhere or in a cell that there is -/
def p_ok (S : Nat → Nat → Int32) (cc kc : Nat) : Prop := ∀ k, k < kc → S 0 k = -1 ∨ ∃ c, c < cc ∧ S 0 k = nI c
theorem p_rmS_0 (S : Nat → Nat → Int32) (k : Nat) : p_rmS S k 0 = upd (S 0) k (-1) := rfl
theorem p_ok_rm {S : Nat → Nat → Int32} {cc kc : Nat} (h : p_ok S cc kc) (k : Nat) : p_ok (p_rmS S k) cc kc := by
  intro j hj
  rw [p_rmS_0]
  by_cases e : j = k
  · subst e; left; exact pk_us
  · rw [pk_un e]; exact h j hj
theorem p_ok_age {S G : Nat → Nat → Int32} {cc kc : Nat} (h : p_ok S cc kc) (tc wd hh k : Nat) (ss : Int32) : p_ok (p_age G tc wd hh k S ss).1 cc kc := by
  unfold p_age
  split
  · exact p_ok_rm h k
  · split
    · exact h
    · split
      · split
        · exact h
        · exact p_ok_rm (S := va_up S 2 (upd (S 2) k (S 2 k + 1))) h k
      · exact h
theorem p_ok_pl {S G : Nat → Nat → Int32} {cc kc : Nat} (h : p_ok S cc kc) (tc wd hh : Nat) (ss : Int32) (k : Nat) : p_ok (p_pl G tc wd hh S ss k).1 cc kc := by
  induction k with
  | zero => exact h
  | succ k ih =>
    simp only [p_pl]
    split
    · exact ih
    · exact p_ok_age ih _ _ _ _ _
theorem bk_X6_isNowhere_0_1 : rr_chk mX6_isNowhere [(.iload_n 1, 0, 1, 0)] 0 1 = true := by decide +kernel
theorem bk_X6_isNowhere_4_7 : rr_chk mX6_isNowhere [(.iload_n 1, 0, 1, 0), (.bipush 6, 6, 0, 0)] 4 7 = true := by decide +kernel
theorem bk_X6_isNowhere_10_15 : rr_chk mX6_isNowhere [(.aload_n 0, 0, 0, 0), (.getfield 9, 0, 6, 1), (.iload_n 1, 0, 1, 0)] 10 15 = true := by decide +kernel
theorem bk_X6_isNowhere_16_17 : rr_chk mX6_isNowhere [(.iconst (-1), (-1), 0, 0)] 16 17 = true := by decide +kernel
theorem bk_X6_isNowhere_24_25 : rr_chk mX6_isNowhere [(.iconst 0, 0, 0, 0)] 24 25 = true := by decide +kernel
theorem bk_X6_isNowhere_20_25 : rr_chk mX6_isNowhere [(.iconst 1, 1, 0, 0), (.goto 4, 0, 0, 0)] 20 25 = true := by decide +kernel
set_option maxRecDepth 100000 in
set_option maxHeartbeats 4000000 in
theorem c6_isNowhere (hx ss p1 p2 : Int32) (S : Nat → Nat → Int32) (q0 : Nat) (k : Nat) (hk : k < 6) : rr_C mX6_isNowhere 0 [.ref 0, .int (nI k)] (W_S0 (sv4 hx ss p1 p2) S q0) 0 0 (some (rr_b (decide (S 0 k = -1)))) (W_S0 (sv4 hx ss p1 p2) S q0) := by
  refine rr_C.of (n := 1) fX6_isNowhere.1 rfl rfl (fun Z hC => ?_)
  show rr_J Z 2 0 0 (rr_MQ Z 0 0 (some (rr_b (decide (S 0 k = -1)))) (W_S0 (sv4 hx ss p1 p2) S q0)) 0 [(0, .ref 0), (1, .int (nI k))] [] (W_S0 (sv4 hx ss p1 p2) S q0)
  refine rr_go hC bk_X6_isNowhere_0_1 (l' := [(0, .ref 0), (1, .int (nI k))]) (st' := [.int (nI k)]) (w' := (W_S0 (sv4 hx ss p1 p2) S q0)) rfl ?_
  refine rr_if_lt hC (off := 19) (tgt := 20) (by decide +kernel) (fun h1 => by rw [rr_nl_lt (b := 0) (by omega) (by omega)] at h1; omega) (fun h1 => ?_)
  rw [rr_nl_lt (b := 0) (by omega) (by omega)] at h1
  refine rr_go hC bk_X6_isNowhere_4_7 (l' := [(0, .ref 0), (1, .int (nI k))]) (st' := [.int 6, .int (nI k)]) (w' := (W_S0 (sv4 hx ss p1 p2) S q0)) rfl ?_
  refine rr_icmp_ge hC (off := 13) (tgt := 20) (by decide +kernel) (fun h7 => by rw [rr_ln_le (a := 6) (by omega) (by omega)] at h7; omega) (fun h7 => ?_)
  rw [rr_ln_le (a := 6) (by omega) (by omega)] at h7
  refine rr_go hC bk_X6_isNowhere_10_15 (l' := [(0, .ref 0), (1, .int (nI k))]) (st' := [.int (nI k), .ref 1]) (w' := (W_S0 (sv4 hx ss p1 p2) S q0)) rfl ?_
  refine rr_iald hC k (by decide +kernel) rfl rfl (by omega) rfl ?_
  show rr_J Z 2 0 0 _ 16 [(0, .ref 0), (1, .int (nI k))] [.int (S 0 k)] (W_S0 (sv4 hx ss p1 p2) S q0)
  refine rr_go hC bk_X6_isNowhere_16_17 (l' := [(0, .ref 0), (1, .int (nI k))]) (st' := [.int (-1), .int (S 0 k)]) (w' := (W_S0 (sv4 hx ss p1 p2) S q0)) rfl ?_
  refine rr_icmp_ne hC (off := 7) (tgt := 24) (by decide +kernel) (fun h17 => ?_) (fun h17 => ?_)
  · refine rr_go hC bk_X6_isNowhere_24_25 (l' := [(0, .ref 0), (1, .int (nI k))]) (st' := [.int 0]) (w' := (W_S0 (sv4 hx ss p1 p2) S q0)) rfl ?_
    exact rr_retz hC (by decide +kernel) (Or.inl rfl) (by simp [rr_b, *]) (by rfl) ⟨Nat.zero_le _, Nat.zero_le _⟩
  · refine rr_go hC bk_X6_isNowhere_20_25 (l' := [(0, .ref 0), (1, .int (nI k))]) (st' := [.int 1]) (w' := (W_S0 (sv4 hx ss p1 p2) S q0)) rfl ?_
    exact rr_retz hC (by decide +kernel) (Or.inr rfl) (by simp [rr_b, *]) (by rfl) ⟨Nat.zero_le _, Nat.zero_le _⟩
theorem bk_X6_remove_0_1 : rr_chk mX6_remove [(.iload_n 1, 0, 1, 0)] 0 1 = true := by decide +kernel
theorem bk_X6_remove_4_7 : rr_chk mX6_remove [(.iload_n 1, 0, 1, 0), (.bipush 6, 6, 0, 0)] 4 7 = true := by decide +kernel
theorem bk_X6_remove_11_17 : rr_chk mX6_remove [(.aload_n 0, 0, 0, 0), (.getfield 9, 0, 6, 1), (.iload_n 1, 0, 1, 0), (.iconst (-1), (-1), 0, 0)] 11 17 = true := by decide +kernel
theorem bk_X6_remove_18_24 : rr_chk mX6_remove [(.aload_n 0, 0, 0, 0), (.getfield 15, 0, 6, 2), (.iload_n 1, 0, 1, 0), (.iconst 0, 0, 0, 0)] 18 24 = true := by decide +kernel
theorem bk_X6_remove_25_31 : rr_chk mX6_remove [(.aload_n 0, 0, 0, 0), (.getfield 18, 0, 6, 3), (.iload_n 1, 0, 1, 0), (.iconst 0, 0, 0, 0)] 25 31 = true := by decide +kernel
theorem bk_X6_remove_32_37 : rr_chk mX6_remove [(.aload_n 0, 0, 0, 0), (.getfield 32, 0, 6, 5), (.iload_n 1, 0, 1, 0)] 32 37 = true := by decide +kernel
theorem bk_X6_remove_40_45 : rr_chk mX6_remove [(.aload_n 0, 0, 0, 0), (.iconst (-1), (-1), 0, 0), (.putfield 32, 0, 6, 5)] 40 45 = true := by decide +kernel
set_option maxRecDepth 100000 in
set_option maxHeartbeats 4000000 in
theorem c6_remove (hx ss p1 p2 : Int32) (S : Nat → Nat → Int32) (q0 : Nat) (k : Nat) (hk : k < 6) : rr_C mX6_remove 0 [.ref 0, .int (nI k)] (W_S0 (sv4 hx ss p1 p2) S q0) 0 0 none (W_S0 (sv4 hx (p_rms ss k) p1 p2) (p_rmS S k) q0) := by
  refine rr_C.of (n := 1) fX6_remove.1 rfl rfl (fun Z hC => ?_)
  show rr_J Z 2 0 0 (rr_MQ Z 0 0 none (W_S0 (sv4 hx (p_rms ss k) p1 p2) (p_rmS S k) q0)) 0 [(0, .ref 0), (1, .int (nI k))] [] (W_S0 (sv4 hx ss p1 p2) S q0)
  refine rr_go hC bk_X6_remove_0_1 (l' := [(0, .ref 0), (1, .int (nI k))]) (st' := [.int (nI k)]) (w' := (W_S0 (sv4 hx ss p1 p2) S q0)) rfl ?_
  refine rr_if_lt hC (off := 9) (tgt := 10) (by decide +kernel) (fun h1 => by rw [rr_nl_lt (b := 0) (by omega) (by omega)] at h1; omega) (fun h1 => ?_)
  rw [rr_nl_lt (b := 0) (by omega) (by omega)] at h1
  refine rr_go hC bk_X6_remove_4_7 (l' := [(0, .ref 0), (1, .int (nI k))]) (st' := [.int 6, .int (nI k)]) (w' := (W_S0 (sv4 hx ss p1 p2) S q0)) rfl ?_
  refine rr_icmp_lt hC (off := 4) (tgt := 11) (by decide +kernel) (fun h7 => ?_) (fun h7 => by rw [rr_nl_lt (b := 6) (by omega) (by omega)] at h7; omega)
  rw [rr_nl_lt (b := 6) (by omega) (by omega)] at h7
  refine rr_go hC bk_X6_remove_11_17 (l' := [(0, .ref 0), (1, .int (nI k))]) (st' := [.int (-1), .int (nI k), .ref 1]) (w' := (W_S0 (sv4 hx ss p1 p2) S q0)) rfl ?_
  refine rr_iast hC k (by decide +kernel) rfl rfl (by omega) rfl (w' := (W_S0 (sv4 hx ss p1 p2) (va_up S 0 (upd (S 0) k (-1))) q0)) rfl ?_
  show rr_J Z 2 0 0 _ 18 [(0, .ref 0), (1, .int (nI k))] [] (W_S0 (sv4 hx ss p1 p2) (va_up S 0 (upd (S 0) k (-1))) q0)
  refine rr_go hC bk_X6_remove_18_24 (l' := [(0, .ref 0), (1, .int (nI k))]) (st' := [.int 0, .int (nI k), .ref 2]) (w' := (W_S0 (sv4 hx ss p1 p2) (va_up S 0 (upd (S 0) k (-1))) q0)) rfl ?_
  refine rr_iast hC k (by decide +kernel) rfl rfl (by omega) rfl (w' := (W_S0 (sv4 hx ss p1 p2) (va_up (va_up S 0 (upd (S 0) k (-1))) 1 (upd (S 1) k 0)) q0)) rfl ?_
  show rr_J Z 2 0 0 _ 25 [(0, .ref 0), (1, .int (nI k))] [] (W_S0 (sv4 hx ss p1 p2) (va_up (va_up S 0 (upd (S 0) k (-1))) 1 (upd (S 1) k 0)) q0)
  refine rr_go hC bk_X6_remove_25_31 (l' := [(0, .ref 0), (1, .int (nI k))]) (st' := [.int 0, .int (nI k), .ref 3]) (w' := (W_S0 (sv4 hx ss p1 p2) (va_up (va_up S 0 (upd (S 0) k (-1))) 1 (upd (S 1) k 0)) q0)) rfl ?_
  refine rr_iast hC k (by decide +kernel) rfl rfl (by omega) rfl (w' := (W_S0 (sv4 hx ss p1 p2) (va_up (va_up (va_up S 0 (upd (S 0) k (-1))) 1 (upd (S 1) k 0)) 2 (upd (S 2) k 0)) q0)) rfl ?_
  show rr_J Z 2 0 0 _ 32 [(0, .ref 0), (1, .int (nI k))] [] (W_S0 (sv4 hx ss p1 p2) (va_up (va_up (va_up S 0 (upd (S 0) k (-1))) 1 (upd (S 1) k 0)) 2 (upd (S 2) k 0)) q0)
  refine rr_go hC bk_X6_remove_32_37 (l' := [(0, .ref 0), (1, .int (nI k))]) (st' := [.int (nI k), .int ss]) (w' := (W_S0 (sv4 hx ss p1 p2) (va_up (va_up (va_up S 0 (upd (S 0) k (-1))) 1 (upd (S 1) k 0)) 2 (upd (S 2) k 0)) q0)) rfl ?_
  refine rr_icmp_ne hC (off := 8) (tgt := 45) (by decide +kernel) (fun h37 => ?_) (fun h37 => ?_)
  · exact rr_retv hC (by decide +kernel) (by simp only [p_rms, p_rmS, *, if_true, if_false] <;> rfl) ⟨Nat.zero_le _, Nat.zero_le _⟩
  · refine rr_go hC bk_X6_remove_40_45 (l' := [(0, .ref 0), (1, .int (nI k))]) (st' := []) (w' := (W_S0 (upd (sv4 hx ss p1 p2) 1 (-1)) (va_up (va_up (va_up S 0 (upd (S 0) k (-1))) 1 (upd (S 1) k 0)) 2 (upd (S 2) k 0)) q0)) rfl ?_
    exact rr_retv hC (by decide +kernel) (by simp only [p_rms, p_rmS, *, if_true, if_false] <;> rfl) ⟨Nat.zero_le _, Nat.zero_le _⟩
theorem bk_X6_freeStick_0_5 : rr_chk mX6_freeStick [(.aload_n 0, 0, 0, 0), (.iconst (-1), (-1), 0, 0), (.putfield 32, 0, 6, 5)] 0 5 = true := by decide +kernel
set_option maxRecDepth 100000 in
set_option maxHeartbeats 4000000 in
theorem c6_freeStick (hx ss p1 p2 : Int32) (S : Nat → Nat → Int32) (q0 : Nat) : rr_C mX6_freeStick 0 [.ref 0] (W_S0 (sv4 hx ss p1 p2) S q0) 0 0 none (W_S0 (sv4 hx (-1) p1 p2) S q0) := by
  refine rr_C.of (n := 0) fX6_freeStick.1 rfl rfl (fun Z hC => ?_)
  show rr_J Z 1 0 0 (rr_MQ Z 0 0 none (W_S0 (sv4 hx (-1) p1 p2) S q0)) 0 [(0, .ref 0)] [] (W_S0 (sv4 hx ss p1 p2) S q0)
  refine rr_go hC bk_X6_freeStick_0_5 (l' := [(0, .ref 0)]) (st' := []) (w' := (W_S0 (upd (sv4 hx ss p1 p2) 1 (-1)) S q0)) rfl ?_
  exact rr_retv hC (by decide +kernel) (by rfl) ⟨Nat.zero_le _, Nat.zero_le _⟩
theorem bk_X6_copy_0_44 : rr_chk mX6_copy [(.aload_n 0, 0, 0, 0), (.aload_n 1, 0, 1, 0), (.getfield 28, 0, 6, 4), (.putfield 28, 0, 6, 4), (.aload_n 0, 0, 0, 0), (.aload_n 1, 0, 1, 0), (.getfield 32, 0, 6, 5), (.putfield 32, 0, 6, 5), (.aload_n 0, 0, 0, 0), (.aload_n 1, 0, 1, 0), (.getfield 35, 0, 6, 6), (.putfield 35, 0, 6, 6), (.aload_n 0, 0, 0, 0), (.aload_n 1, 0, 1, 0), (.getfield 38, 0, 6, 7), (.putfield 38, 0, 6, 7), (.aload_n 1, 0, 1, 0), (.getfield 9, 0, 6, 1), (.iconst 0, 0, 0, 0), (.aload_n 0, 0, 0, 0), (.getfield 9, 0, 6, 1), (.iconst 0, 0, 0, 0), (.bipush 6, 6, 0, 0)] 0 44 = true := by decide +kernel
theorem bk_X6_copy_47_59 : rr_chk mX6_copy [(.aload_n 1, 0, 1, 0), (.getfield 15, 0, 6, 2), (.iconst 0, 0, 0, 0), (.aload_n 0, 0, 0, 0), (.getfield 15, 0, 6, 2), (.iconst 0, 0, 0, 0), (.bipush 6, 6, 0, 0)] 47 59 = true := by decide +kernel
theorem bk_X6_copy_62_74 : rr_chk mX6_copy [(.aload_n 1, 0, 1, 0), (.getfield 18, 0, 6, 3), (.iconst 0, 0, 0, 0), (.aload_n 0, 0, 0, 0), (.getfield 18, 0, 6, 3), (.iconst 0, 0, 0, 0), (.bipush 6, 6, 0, 0)] 62 74 = true := by decide +kernel
set_option maxRecDepth 100000 in
set_option maxHeartbeats 4000000 in
theorem c6_copy (hx ss p1 p2 : Int32) (S : Nat → Nat → Int32) (q0 : Nat) (hy sy r1 r2 : Int32) (T : Nat → Nat → Int32) (q1 : Nat) : rr_C mX6_copy 1 [.ref 0, .ref 4] (W_SS0 (sv4 hx ss p1 p2) S (sv4 hy sy r1 r2) T q0 q1) 0 0 none (W_SS0 (sv4 hy sy r1 r2) (p_cpS S T) (sv4 hy sy r1 r2) T q0 q1) := by
  refine rr_C.of (n := 1) fX6_copy.1 rfl rfl (fun Z hC => ?_)
  show rr_J Z 2 0 0 (rr_MQ Z 0 0 none (W_SS0 (sv4 hy sy r1 r2) (p_cpS S T) (sv4 hy sy r1 r2) T q0 q1)) 0 [(0, .ref 0), (1, .ref 4)] [] (W_SS0 (sv4 hx ss p1 p2) S (sv4 hy sy r1 r2) T q0 q1)
  refine rr_go hC bk_X6_copy_0_44 (l' := [(0, .ref 0), (1, .ref 4)]) (st' := [.int 6, .int 0, .ref 1, .int 0, .ref 5]) (w' := (W_SS0 (upd (upd (upd (upd (sv4 hx ss p1 p2) 0 hy) 1 sy) 2 r1) 3 r2) S (sv4 hy sy r1 r2) T q0 q1)) rfl ?_
  refine rr_copy hC (by decide +kernel) kl_6_45 rfl rfl rfl 0 0 6 (by simp only [fa_lit, rr_addl, rr_ladd, rr_lmul, rr_mull, nI_add, pk_mul, nI_1]) (by simp only [fa_lit, rr_addl, rr_ladd, rr_lmul, rr_mull, nI_add, pk_mul, nI_1]) (by simp only [fa_lit, rr_addl, rr_ladd, rr_lmul, rr_mull, nI_add, pk_mul, nI_1]) rfl rfl (by omega) (by omega) rfl rfl (w' := (W_SS0 (upd (upd (upd (upd (sv4 hx ss p1 p2) 0 hy) 1 sy) 2 r1) 3 r2) (va_up S 0 (va_cpy (T 0) (S 0) 0 0 6)) (sv4 hy sy r1 r2) T q0 q1)) rfl ?_
  refine rr_go hC bk_X6_copy_47_59 (l' := [(0, .ref 0), (1, .ref 4)]) (st' := [.int 6, .int 0, .ref 2, .int 0, .ref 6]) (w' := (W_SS0 (upd (upd (upd (upd (sv4 hx ss p1 p2) 0 hy) 1 sy) 2 r1) 3 r2) (va_up S 0 (va_cpy (T 0) (S 0) 0 0 6)) (sv4 hy sy r1 r2) T q0 q1)) rfl ?_
  refine rr_copy hC (by decide +kernel) kl_6_45 rfl rfl rfl 0 0 6 (by simp only [fa_lit, rr_addl, rr_ladd, rr_lmul, rr_mull, nI_add, pk_mul, nI_1]) (by simp only [fa_lit, rr_addl, rr_ladd, rr_lmul, rr_mull, nI_add, pk_mul, nI_1]) (by simp only [fa_lit, rr_addl, rr_ladd, rr_lmul, rr_mull, nI_add, pk_mul, nI_1]) rfl rfl (by omega) (by omega) rfl rfl (w' := (W_SS0 (upd (upd (upd (upd (sv4 hx ss p1 p2) 0 hy) 1 sy) 2 r1) 3 r2) (va_up (va_up S 0 (va_cpy (T 0) (S 0) 0 0 6)) 1 (va_cpy (T 1) (S 1) 0 0 6)) (sv4 hy sy r1 r2) T q0 q1)) rfl ?_
  refine rr_go hC bk_X6_copy_62_74 (l' := [(0, .ref 0), (1, .ref 4)]) (st' := [.int 6, .int 0, .ref 3, .int 0, .ref 7]) (w' := (W_SS0 (upd (upd (upd (upd (sv4 hx ss p1 p2) 0 hy) 1 sy) 2 r1) 3 r2) (va_up (va_up S 0 (va_cpy (T 0) (S 0) 0 0 6)) 1 (va_cpy (T 1) (S 1) 0 0 6)) (sv4 hy sy r1 r2) T q0 q1)) rfl ?_
  refine rr_copy hC (by decide +kernel) kl_6_45 rfl rfl rfl 0 0 6 (by simp only [fa_lit, rr_addl, rr_ladd, rr_lmul, rr_mull, nI_add, pk_mul, nI_1]) (by simp only [fa_lit, rr_addl, rr_ladd, rr_lmul, rr_mull, nI_add, pk_mul, nI_1]) (by simp only [fa_lit, rr_addl, rr_ladd, rr_lmul, rr_mull, nI_add, pk_mul, nI_1]) rfl rfl (by omega) (by omega) rfl rfl (w' := (W_SS0 (upd (upd (upd (upd (sv4 hx ss p1 p2) 0 hy) 1 sy) 2 r1) 3 r2) (va_up (va_up (va_up S 0 (va_cpy (T 0) (S 0) 0 0 6)) 1 (va_cpy (T 1) (S 1) 0 0 6)) 2 (va_cpy (T 2) (S 2) 0 0 6)) (sv4 hy sy r1 r2) T q0 q1)) rfl ?_
  exact rr_retv hC (by decide +kernel) (by rfl) ⟨Nat.zero_le _, Nat.zero_le _⟩
theorem bk_X6_save_0_1 : rr_chk mX6_save [(.iload_n 2, 0, 2, 0)] 0 1 = true := by decide +kernel
theorem bk_X6_save_4_10 : rr_chk mX6_save [(.iload_n 2, 0, 2, 0), (.aload_n 1, 0, 1, 0), (.arraylength, 0, 0, 0), (.bipush 22, 22, 0, 0), (.isub, 0, 0, 0)] 4 10 = true := by decide +kernel
theorem bk_X6_save_14_20 : rr_chk mX6_save [(.aload_n 1, 0, 1, 0), (.iload_n 2, 0, 2, 0), (.aload_n 0, 0, 0, 0), (.getfield 28, 0, 6, 4)] 14 20 = true := by decide +kernel
theorem bk_X6_save_21_29 : rr_chk mX6_save [(.aload_n 1, 0, 1, 0), (.iload_n 2, 0, 2, 0), (.iconst 1, 1, 0, 0), (.iadd, 0, 0, 0), (.aload_n 0, 0, 0, 0), (.getfield 32, 0, 6, 5)] 21 29 = true := by decide +kernel
theorem bk_X6_save_30_38 : rr_chk mX6_save [(.aload_n 1, 0, 1, 0), (.iload_n 2, 0, 2, 0), (.iconst 2, 2, 0, 0), (.iadd, 0, 0, 0), (.aload_n 0, 0, 0, 0), (.getfield 35, 0, 6, 6)] 30 38 = true := by decide +kernel
theorem bk_X6_save_39_47 : rr_chk mX6_save [(.aload_n 1, 0, 1, 0), (.iload_n 2, 0, 2, 0), (.iconst 3, 3, 0, 0), (.iadd, 0, 0, 0), (.aload_n 0, 0, 0, 0), (.getfield 38, 0, 6, 7)] 39 47 = true := by decide +kernel
theorem bk_X6_save_48_59 : rr_chk mX6_save [(.aload_n 0, 0, 0, 0), (.getfield 9, 0, 6, 1), (.iconst 0, 0, 0, 0), (.aload_n 1, 0, 1, 0), (.iload_n 2, 0, 2, 0), (.iconst 4, 4, 0, 0), (.iadd, 0, 0, 0), (.bipush 6, 6, 0, 0)] 48 59 = true := by decide +kernel
theorem bk_X6_save_62_76 : rr_chk mX6_save [(.aload_n 0, 0, 0, 0), (.getfield 15, 0, 6, 2), (.iconst 0, 0, 0, 0), (.aload_n 1, 0, 1, 0), (.iload_n 2, 0, 2, 0), (.iconst 4, 4, 0, 0), (.iadd, 0, 0, 0), (.bipush 6, 6, 0, 0), (.iadd, 0, 0, 0), (.bipush 6, 6, 0, 0)] 62 76 = true := by decide +kernel
theorem bk_X6_save_79_93 : rr_chk mX6_save [(.aload_n 0, 0, 0, 0), (.getfield 18, 0, 6, 3), (.iconst 0, 0, 0, 0), (.aload_n 1, 0, 1, 0), (.iload_n 2, 0, 2, 0), (.iconst 4, 4, 0, 0), (.iadd, 0, 0, 0), (.bipush 12, 12, 0, 0), (.iadd, 0, 0, 0), (.bipush 6, 6, 0, 0)] 79 93 = true := by decide +kernel
set_option maxRecDepth 100000 in
set_option maxHeartbeats 4000000 in
theorem c6_save660 (hx ss p1 p2 : Int32) (S : Nat → Nat → Int32) (q0 : Nat) (R : Nat → Nat → Int32) (a : Nat) (ha : a + 22 ≤ 660) : rr_C mX6_save 1 [.ref 0, .ref 4, .int (nI a)] (W_SR660 (sv4 hx ss p1 p2) S R q0) 0 0 none (W_SR660 (sv4 hx ss p1 p2) S (va_up R 0 (p_sav (R 0) a hx ss p1 p2 S)) q0) := by
  refine rr_C.of (n := 2) fX6_save.1 rfl rfl (fun Z hC => ?_)
  show rr_J Z 3 0 0 (rr_MQ Z 0 0 none (W_SR660 (sv4 hx ss p1 p2) S (va_up R 0 (p_sav (R 0) a hx ss p1 p2 S)) q0)) 0 [(0, .ref 0), (1, .ref 4), (2, .int (nI a))] [] (W_SR660 (sv4 hx ss p1 p2) S R q0)
  refine rr_go hC bk_X6_save_0_1 (l' := [(0, .ref 0), (1, .ref 4), (2, .int (nI a))]) (st' := [.int (nI a)]) (w' := (W_SR660 (sv4 hx ss p1 p2) S R q0)) rfl ?_
  refine rr_if_lt hC (off := 12) (tgt := 13) (by decide +kernel) (fun h1 => by rw [rr_nl_lt (b := 0) (by omega) (by omega)] at h1; omega) (fun h1 => ?_)
  rw [rr_nl_lt (b := 0) (by omega) (by omega)] at h1
  refine rr_go hC bk_X6_save_4_10 (l' := [(0, .ref 0), (1, .ref 4), (2, .int (nI a))]) (st' := [.int ((nI 660) - 22), .int (nI a)]) (w' := (W_SR660 (sv4 hx ss p1 p2) S R q0)) rfl ?_
  rw [show (nI 660 - 22 : Int32) = nI 638 from by decide +kernel]
  refine rr_icmp_le hC (off := 4) (tgt := 14) (by decide +kernel) (fun h10 => ?_) (fun h10 => by rw [rr_nn_le (by omega) (by omega)] at h10; omega)
  rw [rr_nn_le (by omega) (by omega)] at h10
  refine rr_go hC bk_X6_save_14_20 (l' := [(0, .ref 0), (1, .ref 4), (2, .int (nI a))]) (st' := [.int hx, .int (nI a), .ref 4]) (w' := (W_SR660 (sv4 hx ss p1 p2) S R q0)) rfl ?_
  refine rr_iast hC a (by decide +kernel) rfl rfl (by omega) rfl (w' := (W_SR660 (sv4 hx ss p1 p2) S (va_up R 0 (upd (R 0) a hx)) q0)) rfl ?_
  show rr_J Z 3 0 0 _ 21 [(0, .ref 0), (1, .ref 4), (2, .int (nI a))] [] (W_SR660 (sv4 hx ss p1 p2) S (va_up R 0 (upd (R 0) a hx)) q0)
  refine rr_go hC bk_X6_save_21_29 (l' := [(0, .ref 0), (1, .ref 4), (2, .int (nI a))]) (st' := [.int ss, .int ((nI a) + 1), .ref 4]) (w' := (W_SR660 (sv4 hx ss p1 p2) S (va_up R 0 (upd (R 0) a hx)) q0)) rfl ?_
  rw [show ((nI a) + 1 : Int32) = nI (a + 1) from nI_add a 1]
  refine rr_iast hC (a + 1) (by decide +kernel) rfl rfl (by omega) rfl (w' := (W_SR660 (sv4 hx ss p1 p2) S (va_up R 0 (upd (upd (R 0) a hx) (a + 1) ss)) q0)) rfl ?_
  show rr_J Z 3 0 0 _ 30 [(0, .ref 0), (1, .ref 4), (2, .int (nI a))] [] (W_SR660 (sv4 hx ss p1 p2) S (va_up R 0 (upd (upd (R 0) a hx) (a + 1) ss)) q0)
  refine rr_go hC bk_X6_save_30_38 (l' := [(0, .ref 0), (1, .ref 4), (2, .int (nI a))]) (st' := [.int p1, .int ((nI a) + 2), .ref 4]) (w' := (W_SR660 (sv4 hx ss p1 p2) S (va_up R 0 (upd (upd (R 0) a hx) (a + 1) ss)) q0)) rfl ?_
  rw [show ((nI a) + 2 : Int32) = nI (a + 2) from nI_add a 2]
  refine rr_iast hC (a + 2) (by decide +kernel) rfl rfl (by omega) rfl (w' := (W_SR660 (sv4 hx ss p1 p2) S (va_up R 0 (upd (upd (upd (R 0) a hx) (a + 1) ss) (a + 2) p1)) q0)) rfl ?_
  show rr_J Z 3 0 0 _ 39 [(0, .ref 0), (1, .ref 4), (2, .int (nI a))] [] (W_SR660 (sv4 hx ss p1 p2) S (va_up R 0 (upd (upd (upd (R 0) a hx) (a + 1) ss) (a + 2) p1)) q0)
  refine rr_go hC bk_X6_save_39_47 (l' := [(0, .ref 0), (1, .ref 4), (2, .int (nI a))]) (st' := [.int p2, .int ((nI a) + 3), .ref 4]) (w' := (W_SR660 (sv4 hx ss p1 p2) S (va_up R 0 (upd (upd (upd (R 0) a hx) (a + 1) ss) (a + 2) p1)) q0)) rfl ?_
  rw [show ((nI a) + 3 : Int32) = nI (a + 3) from nI_add a 3]
  refine rr_iast hC (a + 3) (by decide +kernel) rfl rfl (by omega) rfl (w' := (W_SR660 (sv4 hx ss p1 p2) S (va_up R 0 (upd (upd (upd (upd (R 0) a hx) (a + 1) ss) (a + 2) p1) (a + 3) p2)) q0)) rfl ?_
  show rr_J Z 3 0 0 _ 48 [(0, .ref 0), (1, .ref 4), (2, .int (nI a))] [] (W_SR660 (sv4 hx ss p1 p2) S (va_up R 0 (upd (upd (upd (upd (R 0) a hx) (a + 1) ss) (a + 2) p1) (a + 3) p2)) q0)
  refine rr_go hC bk_X6_save_48_59 (l' := [(0, .ref 0), (1, .ref 4), (2, .int (nI a))]) (st' := [.int 6, .int ((nI a) + 4), .ref 4, .int 0, .ref 1]) (w' := (W_SR660 (sv4 hx ss p1 p2) S (va_up R 0 (upd (upd (upd (upd (R 0) a hx) (a + 1) ss) (a + 2) p1) (a + 3) p2)) q0)) rfl ?_
  rw [show ((nI a) + 4 : Int32) = nI (a + 4) from nI_add a 4]
  refine rr_copy hC (by decide +kernel) kl_6_45 rfl rfl rfl 0 (a + 4) 6 (by simp only [fa_lit, rr_addl, rr_ladd, rr_lmul, rr_mull, nI_add, pk_mul, nI_1]) rfl (by simp only [fa_lit, rr_addl, rr_ladd, rr_lmul, rr_mull, nI_add, pk_mul, nI_1]) rfl rfl (by omega) (by omega) rfl rfl (w' := (W_SR660 (sv4 hx ss p1 p2) S (va_up R 0 (va_cpy (S 0) (upd (upd (upd (upd (R 0) a hx) (a + 1) ss) (a + 2) p1) (a + 3) p2) 0 (a + 4) 6)) q0)) rfl ?_
  refine rr_go hC bk_X6_save_62_76 (l' := [(0, .ref 0), (1, .ref 4), (2, .int (nI a))]) (st' := [.int 6, .int (((nI a) + 4) + 6), .ref 4, .int 0, .ref 2]) (w' := (W_SR660 (sv4 hx ss p1 p2) S (va_up R 0 (va_cpy (S 0) (upd (upd (upd (upd (R 0) a hx) (a + 1) ss) (a + 2) p1) (a + 3) p2) 0 (a + 4) 6)) q0)) rfl ?_
  rw [show ((nI a) + 4 : Int32) = nI (a + 4) from nI_add a 4]
  rw [show ((nI (a + 4)) + 6 : Int32) = nI ((a + 4) + 6) from nI_add (a + 4) 6]
  refine rr_copy hC (by decide +kernel) kl_6_45 rfl rfl rfl 0 ((a + 4) + 6) 6 (by simp only [fa_lit, rr_addl, rr_ladd, rr_lmul, rr_mull, nI_add, pk_mul, nI_1]) rfl (by simp only [fa_lit, rr_addl, rr_ladd, rr_lmul, rr_mull, nI_add, pk_mul, nI_1]) rfl rfl (by omega) (by omega) rfl rfl (w' := (W_SR660 (sv4 hx ss p1 p2) S (va_up R 0 (va_cpy (S 1) (va_cpy (S 0) (upd (upd (upd (upd (R 0) a hx) (a + 1) ss) (a + 2) p1) (a + 3) p2) 0 (a + 4) 6) 0 ((a + 4) + 6) 6)) q0)) rfl ?_
  refine rr_go hC bk_X6_save_79_93 (l' := [(0, .ref 0), (1, .ref 4), (2, .int (nI a))]) (st' := [.int 6, .int (((nI a) + 4) + 12), .ref 4, .int 0, .ref 3]) (w' := (W_SR660 (sv4 hx ss p1 p2) S (va_up R 0 (va_cpy (S 1) (va_cpy (S 0) (upd (upd (upd (upd (R 0) a hx) (a + 1) ss) (a + 2) p1) (a + 3) p2) 0 (a + 4) 6) 0 ((a + 4) + 6) 6)) q0)) rfl ?_
  rw [show ((nI a) + 4 : Int32) = nI (a + 4) from nI_add a 4]
  rw [show ((nI (a + 4)) + 12 : Int32) = nI ((a + 4) + 12) from nI_add (a + 4) 12]
  refine rr_copy hC (by decide +kernel) kl_6_45 rfl rfl rfl 0 ((a + 4) + 12) 6 (by simp only [fa_lit, rr_addl, rr_ladd, rr_lmul, rr_mull, nI_add, pk_mul, nI_1]) rfl (by simp only [fa_lit, rr_addl, rr_ladd, rr_lmul, rr_mull, nI_add, pk_mul, nI_1]) rfl rfl (by omega) (by omega) rfl rfl (w' := (W_SR660 (sv4 hx ss p1 p2) S (va_up R 0 (va_cpy (S 2) (va_cpy (S 1) (va_cpy (S 0) (upd (upd (upd (upd (R 0) a hx) (a + 1) ss) (a + 2) p1) (a + 3) p2) 0 (a + 4) 6) 0 ((a + 4) + 6) 6) 0 ((a + 4) + 12) 6)) q0)) rfl ?_
  exact rr_retv hC (by decide +kernel) (by rfl) ⟨Nat.zero_le _, Nat.zero_le _⟩
theorem bk_X6_load_0_1 : rr_chk mX6_load [(.iload_n 2, 0, 2, 0)] 0 1 = true := by decide +kernel
theorem bk_X6_load_4_10 : rr_chk mX6_load [(.iload_n 2, 0, 2, 0), (.aload_n 1, 0, 1, 0), (.arraylength, 0, 0, 0), (.bipush 22, 22, 0, 0), (.isub, 0, 0, 0)] 4 10 = true := by decide +kernel
theorem bk_X6_load_14_17 : rr_chk mX6_load [(.aload_n 0, 0, 0, 0), (.aload_n 1, 0, 1, 0), (.iload_n 2, 0, 2, 0)] 14 17 = true := by decide +kernel
theorem bk_X6_load_18_26 : rr_chk mX6_load [(.putfield 28, 0, 6, 4), (.aload_n 0, 0, 0, 0), (.aload_n 1, 0, 1, 0), (.iload_n 2, 0, 2, 0), (.iconst 1, 1, 0, 0), (.iadd, 0, 0, 0)] 18 26 = true := by decide +kernel
theorem bk_X6_load_27_35 : rr_chk mX6_load [(.putfield 32, 0, 6, 5), (.aload_n 0, 0, 0, 0), (.aload_n 1, 0, 1, 0), (.iload_n 2, 0, 2, 0), (.iconst 2, 2, 0, 0), (.iadd, 0, 0, 0)] 27 35 = true := by decide +kernel
theorem bk_X6_load_36_44 : rr_chk mX6_load [(.putfield 35, 0, 6, 6), (.aload_n 0, 0, 0, 0), (.aload_n 1, 0, 1, 0), (.iload_n 2, 0, 2, 0), (.iconst 3, 3, 0, 0), (.iadd, 0, 0, 0)] 36 44 = true := by decide +kernel
theorem bk_X6_load_45_59 : rr_chk mX6_load [(.putfield 38, 0, 6, 7), (.aload_n 1, 0, 1, 0), (.iload_n 2, 0, 2, 0), (.iconst 4, 4, 0, 0), (.iadd, 0, 0, 0), (.aload_n 0, 0, 0, 0), (.getfield 9, 0, 6, 1), (.iconst 0, 0, 0, 0), (.bipush 6, 6, 0, 0)] 45 59 = true := by decide +kernel
theorem bk_X6_load_62_76 : rr_chk mX6_load [(.aload_n 1, 0, 1, 0), (.iload_n 2, 0, 2, 0), (.iconst 4, 4, 0, 0), (.iadd, 0, 0, 0), (.bipush 6, 6, 0, 0), (.iadd, 0, 0, 0), (.aload_n 0, 0, 0, 0), (.getfield 15, 0, 6, 2), (.iconst 0, 0, 0, 0), (.bipush 6, 6, 0, 0)] 62 76 = true := by decide +kernel
theorem bk_X6_load_79_93 : rr_chk mX6_load [(.aload_n 1, 0, 1, 0), (.iload_n 2, 0, 2, 0), (.iconst 4, 4, 0, 0), (.iadd, 0, 0, 0), (.bipush 12, 12, 0, 0), (.iadd, 0, 0, 0), (.aload_n 0, 0, 0, 0), (.getfield 18, 0, 6, 3), (.iconst 0, 0, 0, 0), (.bipush 6, 6, 0, 0)] 79 93 = true := by decide +kernel
set_option maxRecDepth 100000 in
set_option maxHeartbeats 4000000 in
theorem c6_load660 (hx ss p1 p2 : Int32) (S : Nat → Nat → Int32) (q0 : Nat) (R : Nat → Nat → Int32) (a : Nat) (ha : a + 22 ≤ 660) : rr_C mX6_load 1 [.ref 0, .ref 4, .int (nI a)] (W_SR660 (sv4 hx ss p1 p2) S R q0) 0 0 none (W_SR660 (sv4 (R 0 a) (R 0 (a + 1)) (R 0 (a + 2)) (R 0 (a + 3))) (p_lod S (R 0) a) R q0) := by
  refine rr_C.of (n := 2) fX6_load.1 rfl rfl (fun Z hC => ?_)
  show rr_J Z 3 0 0 (rr_MQ Z 0 0 none (W_SR660 (sv4 (R 0 a) (R 0 (a + 1)) (R 0 (a + 2)) (R 0 (a + 3))) (p_lod S (R 0) a) R q0)) 0 [(0, .ref 0), (1, .ref 4), (2, .int (nI a))] [] (W_SR660 (sv4 hx ss p1 p2) S R q0)
  refine rr_go hC bk_X6_load_0_1 (l' := [(0, .ref 0), (1, .ref 4), (2, .int (nI a))]) (st' := [.int (nI a)]) (w' := (W_SR660 (sv4 hx ss p1 p2) S R q0)) rfl ?_
  refine rr_if_lt hC (off := 12) (tgt := 13) (by decide +kernel) (fun h1 => by rw [rr_nl_lt (b := 0) (by omega) (by omega)] at h1; omega) (fun h1 => ?_)
  rw [rr_nl_lt (b := 0) (by omega) (by omega)] at h1
  refine rr_go hC bk_X6_load_4_10 (l' := [(0, .ref 0), (1, .ref 4), (2, .int (nI a))]) (st' := [.int ((nI 660) - 22), .int (nI a)]) (w' := (W_SR660 (sv4 hx ss p1 p2) S R q0)) rfl ?_
  rw [show (nI 660 - 22 : Int32) = nI 638 from by decide +kernel]
  refine rr_icmp_le hC (off := 4) (tgt := 14) (by decide +kernel) (fun h10 => ?_) (fun h10 => by rw [rr_nn_le (by omega) (by omega)] at h10; omega)
  rw [rr_nn_le (by omega) (by omega)] at h10
  refine rr_go hC bk_X6_load_14_17 (l' := [(0, .ref 0), (1, .ref 4), (2, .int (nI a))]) (st' := [.int (nI a), .ref 4, .ref 0]) (w' := (W_SR660 (sv4 hx ss p1 p2) S R q0)) rfl ?_
  refine rr_iald hC a (by decide +kernel) rfl rfl (by omega) rfl ?_
  show rr_J Z 3 0 0 _ 18 [(0, .ref 0), (1, .ref 4), (2, .int (nI a))] [.int (R 0 a), .ref 0] (W_SR660 (sv4 hx ss p1 p2) S R q0)
  refine rr_go hC bk_X6_load_18_26 (l' := [(0, .ref 0), (1, .ref 4), (2, .int (nI a))]) (st' := [.int ((nI a) + 1), .ref 4, .ref 0]) (w' := (W_SR660 (upd (sv4 hx ss p1 p2) 0 (R 0 a)) S R q0)) rfl ?_
  rw [show ((nI a) + 1 : Int32) = nI (a + 1) from nI_add a 1]
  refine rr_iald hC (a + 1) (by decide +kernel) rfl rfl (by omega) rfl ?_
  show rr_J Z 3 0 0 _ 27 [(0, .ref 0), (1, .ref 4), (2, .int (nI a))] [.int (R 0 (a + 1)), .ref 0] (W_SR660 (upd (sv4 hx ss p1 p2) 0 (R 0 a)) S R q0)
  refine rr_go hC bk_X6_load_27_35 (l' := [(0, .ref 0), (1, .ref 4), (2, .int (nI a))]) (st' := [.int ((nI a) + 2), .ref 4, .ref 0]) (w' := (W_SR660 (upd (upd (sv4 hx ss p1 p2) 0 (R 0 a)) 1 (R 0 (a + 1))) S R q0)) rfl ?_
  rw [show ((nI a) + 2 : Int32) = nI (a + 2) from nI_add a 2]
  refine rr_iald hC (a + 2) (by decide +kernel) rfl rfl (by omega) rfl ?_
  show rr_J Z 3 0 0 _ 36 [(0, .ref 0), (1, .ref 4), (2, .int (nI a))] [.int (R 0 (a + 2)), .ref 0] (W_SR660 (upd (upd (sv4 hx ss p1 p2) 0 (R 0 a)) 1 (R 0 (a + 1))) S R q0)
  refine rr_go hC bk_X6_load_36_44 (l' := [(0, .ref 0), (1, .ref 4), (2, .int (nI a))]) (st' := [.int ((nI a) + 3), .ref 4, .ref 0]) (w' := (W_SR660 (upd (upd (upd (sv4 hx ss p1 p2) 0 (R 0 a)) 1 (R 0 (a + 1))) 2 (R 0 (a + 2))) S R q0)) rfl ?_
  rw [show ((nI a) + 3 : Int32) = nI (a + 3) from nI_add a 3]
  refine rr_iald hC (a + 3) (by decide +kernel) rfl rfl (by omega) rfl ?_
  show rr_J Z 3 0 0 _ 45 [(0, .ref 0), (1, .ref 4), (2, .int (nI a))] [.int (R 0 (a + 3)), .ref 0] (W_SR660 (upd (upd (upd (sv4 hx ss p1 p2) 0 (R 0 a)) 1 (R 0 (a + 1))) 2 (R 0 (a + 2))) S R q0)
  refine rr_go hC bk_X6_load_45_59 (l' := [(0, .ref 0), (1, .ref 4), (2, .int (nI a))]) (st' := [.int 6, .int 0, .ref 1, .int ((nI a) + 4), .ref 4]) (w' := (W_SR660 (upd (upd (upd (upd (sv4 hx ss p1 p2) 0 (R 0 a)) 1 (R 0 (a + 1))) 2 (R 0 (a + 2))) 3 (R 0 (a + 3))) S R q0)) rfl ?_
  rw [show ((nI a) + 4 : Int32) = nI (a + 4) from nI_add a 4]
  refine rr_copy hC (by decide +kernel) kl_6_45 rfl rfl rfl (a + 4) 0 6 rfl (by simp only [fa_lit, rr_addl, rr_ladd, rr_lmul, rr_mull, nI_add, pk_mul, nI_1]) (by simp only [fa_lit, rr_addl, rr_ladd, rr_lmul, rr_mull, nI_add, pk_mul, nI_1]) rfl rfl (by omega) (by omega) rfl rfl (w' := (W_SR660 (upd (upd (upd (upd (sv4 hx ss p1 p2) 0 (R 0 a)) 1 (R 0 (a + 1))) 2 (R 0 (a + 2))) 3 (R 0 (a + 3))) (va_up S 0 (va_cpy (R 0) (S 0) (a + 4) 0 6)) R q0)) rfl ?_
  refine rr_go hC bk_X6_load_62_76 (l' := [(0, .ref 0), (1, .ref 4), (2, .int (nI a))]) (st' := [.int 6, .int 0, .ref 2, .int (((nI a) + 4) + 6), .ref 4]) (w' := (W_SR660 (upd (upd (upd (upd (sv4 hx ss p1 p2) 0 (R 0 a)) 1 (R 0 (a + 1))) 2 (R 0 (a + 2))) 3 (R 0 (a + 3))) (va_up S 0 (va_cpy (R 0) (S 0) (a + 4) 0 6)) R q0)) rfl ?_
  rw [show ((nI a) + 4 : Int32) = nI (a + 4) from nI_add a 4]
  rw [show ((nI (a + 4)) + 6 : Int32) = nI ((a + 4) + 6) from nI_add (a + 4) 6]
  refine rr_copy hC (by decide +kernel) kl_6_45 rfl rfl rfl ((a + 4) + 6) 0 6 rfl (by simp only [fa_lit, rr_addl, rr_ladd, rr_lmul, rr_mull, nI_add, pk_mul, nI_1]) (by simp only [fa_lit, rr_addl, rr_ladd, rr_lmul, rr_mull, nI_add, pk_mul, nI_1]) rfl rfl (by omega) (by omega) rfl rfl (w' := (W_SR660 (upd (upd (upd (upd (sv4 hx ss p1 p2) 0 (R 0 a)) 1 (R 0 (a + 1))) 2 (R 0 (a + 2))) 3 (R 0 (a + 3))) (va_up (va_up S 0 (va_cpy (R 0) (S 0) (a + 4) 0 6)) 1 (va_cpy (R 0) (S 1) ((a + 4) + 6) 0 6)) R q0)) rfl ?_
  refine rr_go hC bk_X6_load_79_93 (l' := [(0, .ref 0), (1, .ref 4), (2, .int (nI a))]) (st' := [.int 6, .int 0, .ref 3, .int (((nI a) + 4) + 12), .ref 4]) (w' := (W_SR660 (upd (upd (upd (upd (sv4 hx ss p1 p2) 0 (R 0 a)) 1 (R 0 (a + 1))) 2 (R 0 (a + 2))) 3 (R 0 (a + 3))) (va_up (va_up S 0 (va_cpy (R 0) (S 0) (a + 4) 0 6)) 1 (va_cpy (R 0) (S 1) ((a + 4) + 6) 0 6)) R q0)) rfl ?_
  rw [show ((nI a) + 4 : Int32) = nI (a + 4) from nI_add a 4]
  rw [show ((nI (a + 4)) + 12 : Int32) = nI ((a + 4) + 12) from nI_add (a + 4) 12]
  refine rr_copy hC (by decide +kernel) kl_6_45 rfl rfl rfl ((a + 4) + 12) 0 6 rfl (by simp only [fa_lit, rr_addl, rr_ladd, rr_lmul, rr_mull, nI_add, pk_mul, nI_1]) (by simp only [fa_lit, rr_addl, rr_ladd, rr_lmul, rr_mull, nI_add, pk_mul, nI_1]) rfl rfl (by omega) (by omega) rfl rfl (w' := (W_SR660 (upd (upd (upd (upd (sv4 hx ss p1 p2) 0 (R 0 a)) 1 (R 0 (a + 1))) 2 (R 0 (a + 2))) 3 (R 0 (a + 3))) (va_up (va_up (va_up S 0 (va_cpy (R 0) (S 0) (a + 4) 0 6)) 1 (va_cpy (R 0) (S 1) ((a + 4) + 6) 0 6)) 2 (va_cpy (R 0) (S 2) ((a + 4) + 12) 0 6)) R q0)) rfl ?_
  exact rr_retv hC (by decide +kernel) (by rfl) ⟨Nat.zero_le _, Nat.zero_le _⟩
set_option maxRecDepth 100000 in
set_option maxHeartbeats 4000000 in
theorem c6_save44 (hx ss p1 p2 : Int32) (S : Nat → Nat → Int32) (q0 : Nat) (R : Nat → Nat → Int32) (a : Nat) (ha : a + 22 ≤ 44) : rr_C mX6_save 1 [.ref 0, .ref 4, .int (nI a)] (W_SR44 (sv4 hx ss p1 p2) S R q0) 0 0 none (W_SR44 (sv4 hx ss p1 p2) S (va_up R 0 (p_sav (R 0) a hx ss p1 p2 S)) q0) := by
  refine rr_C.of (n := 2) fX6_save.1 rfl rfl (fun Z hC => ?_)
  show rr_J Z 3 0 0 (rr_MQ Z 0 0 none (W_SR44 (sv4 hx ss p1 p2) S (va_up R 0 (p_sav (R 0) a hx ss p1 p2 S)) q0)) 0 [(0, .ref 0), (1, .ref 4), (2, .int (nI a))] [] (W_SR44 (sv4 hx ss p1 p2) S R q0)
  refine rr_go hC bk_X6_save_0_1 (l' := [(0, .ref 0), (1, .ref 4), (2, .int (nI a))]) (st' := [.int (nI a)]) (w' := (W_SR44 (sv4 hx ss p1 p2) S R q0)) rfl ?_
  refine rr_if_lt hC (off := 12) (tgt := 13) (by decide +kernel) (fun h1 => by rw [rr_nl_lt (b := 0) (by omega) (by omega)] at h1; omega) (fun h1 => ?_)
  rw [rr_nl_lt (b := 0) (by omega) (by omega)] at h1
  refine rr_go hC bk_X6_save_4_10 (l' := [(0, .ref 0), (1, .ref 4), (2, .int (nI a))]) (st' := [.int ((nI 44) - 22), .int (nI a)]) (w' := (W_SR44 (sv4 hx ss p1 p2) S R q0)) rfl ?_
  rw [show (nI 44 - 22 : Int32) = nI 22 from by decide +kernel]
  refine rr_icmp_le hC (off := 4) (tgt := 14) (by decide +kernel) (fun h10 => ?_) (fun h10 => by rw [rr_nn_le (by omega) (by omega)] at h10; omega)
  rw [rr_nn_le (by omega) (by omega)] at h10
  refine rr_go hC bk_X6_save_14_20 (l' := [(0, .ref 0), (1, .ref 4), (2, .int (nI a))]) (st' := [.int hx, .int (nI a), .ref 4]) (w' := (W_SR44 (sv4 hx ss p1 p2) S R q0)) rfl ?_
  refine rr_iast hC a (by decide +kernel) rfl rfl (by omega) rfl (w' := (W_SR44 (sv4 hx ss p1 p2) S (va_up R 0 (upd (R 0) a hx)) q0)) rfl ?_
  show rr_J Z 3 0 0 _ 21 [(0, .ref 0), (1, .ref 4), (2, .int (nI a))] [] (W_SR44 (sv4 hx ss p1 p2) S (va_up R 0 (upd (R 0) a hx)) q0)
  refine rr_go hC bk_X6_save_21_29 (l' := [(0, .ref 0), (1, .ref 4), (2, .int (nI a))]) (st' := [.int ss, .int ((nI a) + 1), .ref 4]) (w' := (W_SR44 (sv4 hx ss p1 p2) S (va_up R 0 (upd (R 0) a hx)) q0)) rfl ?_
  rw [show ((nI a) + 1 : Int32) = nI (a + 1) from nI_add a 1]
  refine rr_iast hC (a + 1) (by decide +kernel) rfl rfl (by omega) rfl (w' := (W_SR44 (sv4 hx ss p1 p2) S (va_up R 0 (upd (upd (R 0) a hx) (a + 1) ss)) q0)) rfl ?_
  show rr_J Z 3 0 0 _ 30 [(0, .ref 0), (1, .ref 4), (2, .int (nI a))] [] (W_SR44 (sv4 hx ss p1 p2) S (va_up R 0 (upd (upd (R 0) a hx) (a + 1) ss)) q0)
  refine rr_go hC bk_X6_save_30_38 (l' := [(0, .ref 0), (1, .ref 4), (2, .int (nI a))]) (st' := [.int p1, .int ((nI a) + 2), .ref 4]) (w' := (W_SR44 (sv4 hx ss p1 p2) S (va_up R 0 (upd (upd (R 0) a hx) (a + 1) ss)) q0)) rfl ?_
  rw [show ((nI a) + 2 : Int32) = nI (a + 2) from nI_add a 2]
  refine rr_iast hC (a + 2) (by decide +kernel) rfl rfl (by omega) rfl (w' := (W_SR44 (sv4 hx ss p1 p2) S (va_up R 0 (upd (upd (upd (R 0) a hx) (a + 1) ss) (a + 2) p1)) q0)) rfl ?_
  show rr_J Z 3 0 0 _ 39 [(0, .ref 0), (1, .ref 4), (2, .int (nI a))] [] (W_SR44 (sv4 hx ss p1 p2) S (va_up R 0 (upd (upd (upd (R 0) a hx) (a + 1) ss) (a + 2) p1)) q0)
  refine rr_go hC bk_X6_save_39_47 (l' := [(0, .ref 0), (1, .ref 4), (2, .int (nI a))]) (st' := [.int p2, .int ((nI a) + 3), .ref 4]) (w' := (W_SR44 (sv4 hx ss p1 p2) S (va_up R 0 (upd (upd (upd (R 0) a hx) (a + 1) ss) (a + 2) p1)) q0)) rfl ?_
  rw [show ((nI a) + 3 : Int32) = nI (a + 3) from nI_add a 3]
  refine rr_iast hC (a + 3) (by decide +kernel) rfl rfl (by omega) rfl (w' := (W_SR44 (sv4 hx ss p1 p2) S (va_up R 0 (upd (upd (upd (upd (R 0) a hx) (a + 1) ss) (a + 2) p1) (a + 3) p2)) q0)) rfl ?_
  show rr_J Z 3 0 0 _ 48 [(0, .ref 0), (1, .ref 4), (2, .int (nI a))] [] (W_SR44 (sv4 hx ss p1 p2) S (va_up R 0 (upd (upd (upd (upd (R 0) a hx) (a + 1) ss) (a + 2) p1) (a + 3) p2)) q0)
  refine rr_go hC bk_X6_save_48_59 (l' := [(0, .ref 0), (1, .ref 4), (2, .int (nI a))]) (st' := [.int 6, .int ((nI a) + 4), .ref 4, .int 0, .ref 1]) (w' := (W_SR44 (sv4 hx ss p1 p2) S (va_up R 0 (upd (upd (upd (upd (R 0) a hx) (a + 1) ss) (a + 2) p1) (a + 3) p2)) q0)) rfl ?_
  rw [show ((nI a) + 4 : Int32) = nI (a + 4) from nI_add a 4]
  refine rr_copy hC (by decide +kernel) kl_6_45 rfl rfl rfl 0 (a + 4) 6 (by simp only [fa_lit, rr_addl, rr_ladd, rr_lmul, rr_mull, nI_add, pk_mul, nI_1]) rfl (by simp only [fa_lit, rr_addl, rr_ladd, rr_lmul, rr_mull, nI_add, pk_mul, nI_1]) rfl rfl (by omega) (by omega) rfl rfl (w' := (W_SR44 (sv4 hx ss p1 p2) S (va_up R 0 (va_cpy (S 0) (upd (upd (upd (upd (R 0) a hx) (a + 1) ss) (a + 2) p1) (a + 3) p2) 0 (a + 4) 6)) q0)) rfl ?_
  refine rr_go hC bk_X6_save_62_76 (l' := [(0, .ref 0), (1, .ref 4), (2, .int (nI a))]) (st' := [.int 6, .int (((nI a) + 4) + 6), .ref 4, .int 0, .ref 2]) (w' := (W_SR44 (sv4 hx ss p1 p2) S (va_up R 0 (va_cpy (S 0) (upd (upd (upd (upd (R 0) a hx) (a + 1) ss) (a + 2) p1) (a + 3) p2) 0 (a + 4) 6)) q0)) rfl ?_
  rw [show ((nI a) + 4 : Int32) = nI (a + 4) from nI_add a 4]
  rw [show ((nI (a + 4)) + 6 : Int32) = nI ((a + 4) + 6) from nI_add (a + 4) 6]
  refine rr_copy hC (by decide +kernel) kl_6_45 rfl rfl rfl 0 ((a + 4) + 6) 6 (by simp only [fa_lit, rr_addl, rr_ladd, rr_lmul, rr_mull, nI_add, pk_mul, nI_1]) rfl (by simp only [fa_lit, rr_addl, rr_ladd, rr_lmul, rr_mull, nI_add, pk_mul, nI_1]) rfl rfl (by omega) (by omega) rfl rfl (w' := (W_SR44 (sv4 hx ss p1 p2) S (va_up R 0 (va_cpy (S 1) (va_cpy (S 0) (upd (upd (upd (upd (R 0) a hx) (a + 1) ss) (a + 2) p1) (a + 3) p2) 0 (a + 4) 6) 0 ((a + 4) + 6) 6)) q0)) rfl ?_
  refine rr_go hC bk_X6_save_79_93 (l' := [(0, .ref 0), (1, .ref 4), (2, .int (nI a))]) (st' := [.int 6, .int (((nI a) + 4) + 12), .ref 4, .int 0, .ref 3]) (w' := (W_SR44 (sv4 hx ss p1 p2) S (va_up R 0 (va_cpy (S 1) (va_cpy (S 0) (upd (upd (upd (upd (R 0) a hx) (a + 1) ss) (a + 2) p1) (a + 3) p2) 0 (a + 4) 6) 0 ((a + 4) + 6) 6)) q0)) rfl ?_
  rw [show ((nI a) + 4 : Int32) = nI (a + 4) from nI_add a 4]
  rw [show ((nI (a + 4)) + 12 : Int32) = nI ((a + 4) + 12) from nI_add (a + 4) 12]
  refine rr_copy hC (by decide +kernel) kl_6_45 rfl rfl rfl 0 ((a + 4) + 12) 6 (by simp only [fa_lit, rr_addl, rr_ladd, rr_lmul, rr_mull, nI_add, pk_mul, nI_1]) rfl (by simp only [fa_lit, rr_addl, rr_ladd, rr_lmul, rr_mull, nI_add, pk_mul, nI_1]) rfl rfl (by omega) (by omega) rfl rfl (w' := (W_SR44 (sv4 hx ss p1 p2) S (va_up R 0 (va_cpy (S 2) (va_cpy (S 1) (va_cpy (S 0) (upd (upd (upd (upd (R 0) a hx) (a + 1) ss) (a + 2) p1) (a + 3) p2) 0 (a + 4) 6) 0 ((a + 4) + 6) 6) 0 ((a + 4) + 12) 6)) q0)) rfl ?_
  exact rr_retv hC (by decide +kernel) (by rfl) ⟨Nat.zero_le _, Nat.zero_le _⟩
set_option maxRecDepth 100000 in
set_option maxHeartbeats 4000000 in
theorem c6_load44 (hx ss p1 p2 : Int32) (S : Nat → Nat → Int32) (q0 : Nat) (R : Nat → Nat → Int32) (a : Nat) (ha : a + 22 ≤ 44) : rr_C mX6_load 1 [.ref 0, .ref 4, .int (nI a)] (W_SR44 (sv4 hx ss p1 p2) S R q0) 0 0 none (W_SR44 (sv4 (R 0 a) (R 0 (a + 1)) (R 0 (a + 2)) (R 0 (a + 3))) (p_lod S (R 0) a) R q0) := by
  refine rr_C.of (n := 2) fX6_load.1 rfl rfl (fun Z hC => ?_)
  show rr_J Z 3 0 0 (rr_MQ Z 0 0 none (W_SR44 (sv4 (R 0 a) (R 0 (a + 1)) (R 0 (a + 2)) (R 0 (a + 3))) (p_lod S (R 0) a) R q0)) 0 [(0, .ref 0), (1, .ref 4), (2, .int (nI a))] [] (W_SR44 (sv4 hx ss p1 p2) S R q0)
  refine rr_go hC bk_X6_load_0_1 (l' := [(0, .ref 0), (1, .ref 4), (2, .int (nI a))]) (st' := [.int (nI a)]) (w' := (W_SR44 (sv4 hx ss p1 p2) S R q0)) rfl ?_
  refine rr_if_lt hC (off := 12) (tgt := 13) (by decide +kernel) (fun h1 => by rw [rr_nl_lt (b := 0) (by omega) (by omega)] at h1; omega) (fun h1 => ?_)
  rw [rr_nl_lt (b := 0) (by omega) (by omega)] at h1
  refine rr_go hC bk_X6_load_4_10 (l' := [(0, .ref 0), (1, .ref 4), (2, .int (nI a))]) (st' := [.int ((nI 44) - 22), .int (nI a)]) (w' := (W_SR44 (sv4 hx ss p1 p2) S R q0)) rfl ?_
  rw [show (nI 44 - 22 : Int32) = nI 22 from by decide +kernel]
  refine rr_icmp_le hC (off := 4) (tgt := 14) (by decide +kernel) (fun h10 => ?_) (fun h10 => by rw [rr_nn_le (by omega) (by omega)] at h10; omega)
  rw [rr_nn_le (by omega) (by omega)] at h10
  refine rr_go hC bk_X6_load_14_17 (l' := [(0, .ref 0), (1, .ref 4), (2, .int (nI a))]) (st' := [.int (nI a), .ref 4, .ref 0]) (w' := (W_SR44 (sv4 hx ss p1 p2) S R q0)) rfl ?_
  refine rr_iald hC a (by decide +kernel) rfl rfl (by omega) rfl ?_
  show rr_J Z 3 0 0 _ 18 [(0, .ref 0), (1, .ref 4), (2, .int (nI a))] [.int (R 0 a), .ref 0] (W_SR44 (sv4 hx ss p1 p2) S R q0)
  refine rr_go hC bk_X6_load_18_26 (l' := [(0, .ref 0), (1, .ref 4), (2, .int (nI a))]) (st' := [.int ((nI a) + 1), .ref 4, .ref 0]) (w' := (W_SR44 (upd (sv4 hx ss p1 p2) 0 (R 0 a)) S R q0)) rfl ?_
  rw [show ((nI a) + 1 : Int32) = nI (a + 1) from nI_add a 1]
  refine rr_iald hC (a + 1) (by decide +kernel) rfl rfl (by omega) rfl ?_
  show rr_J Z 3 0 0 _ 27 [(0, .ref 0), (1, .ref 4), (2, .int (nI a))] [.int (R 0 (a + 1)), .ref 0] (W_SR44 (upd (sv4 hx ss p1 p2) 0 (R 0 a)) S R q0)
  refine rr_go hC bk_X6_load_27_35 (l' := [(0, .ref 0), (1, .ref 4), (2, .int (nI a))]) (st' := [.int ((nI a) + 2), .ref 4, .ref 0]) (w' := (W_SR44 (upd (upd (sv4 hx ss p1 p2) 0 (R 0 a)) 1 (R 0 (a + 1))) S R q0)) rfl ?_
  rw [show ((nI a) + 2 : Int32) = nI (a + 2) from nI_add a 2]
  refine rr_iald hC (a + 2) (by decide +kernel) rfl rfl (by omega) rfl ?_
  show rr_J Z 3 0 0 _ 36 [(0, .ref 0), (1, .ref 4), (2, .int (nI a))] [.int (R 0 (a + 2)), .ref 0] (W_SR44 (upd (upd (sv4 hx ss p1 p2) 0 (R 0 a)) 1 (R 0 (a + 1))) S R q0)
  refine rr_go hC bk_X6_load_36_44 (l' := [(0, .ref 0), (1, .ref 4), (2, .int (nI a))]) (st' := [.int ((nI a) + 3), .ref 4, .ref 0]) (w' := (W_SR44 (upd (upd (upd (sv4 hx ss p1 p2) 0 (R 0 a)) 1 (R 0 (a + 1))) 2 (R 0 (a + 2))) S R q0)) rfl ?_
  rw [show ((nI a) + 3 : Int32) = nI (a + 3) from nI_add a 3]
  refine rr_iald hC (a + 3) (by decide +kernel) rfl rfl (by omega) rfl ?_
  show rr_J Z 3 0 0 _ 45 [(0, .ref 0), (1, .ref 4), (2, .int (nI a))] [.int (R 0 (a + 3)), .ref 0] (W_SR44 (upd (upd (upd (sv4 hx ss p1 p2) 0 (R 0 a)) 1 (R 0 (a + 1))) 2 (R 0 (a + 2))) S R q0)
  refine rr_go hC bk_X6_load_45_59 (l' := [(0, .ref 0), (1, .ref 4), (2, .int (nI a))]) (st' := [.int 6, .int 0, .ref 1, .int ((nI a) + 4), .ref 4]) (w' := (W_SR44 (upd (upd (upd (upd (sv4 hx ss p1 p2) 0 (R 0 a)) 1 (R 0 (a + 1))) 2 (R 0 (a + 2))) 3 (R 0 (a + 3))) S R q0)) rfl ?_
  rw [show ((nI a) + 4 : Int32) = nI (a + 4) from nI_add a 4]
  refine rr_copy hC (by decide +kernel) kl_6_45 rfl rfl rfl (a + 4) 0 6 rfl (by simp only [fa_lit, rr_addl, rr_ladd, rr_lmul, rr_mull, nI_add, pk_mul, nI_1]) (by simp only [fa_lit, rr_addl, rr_ladd, rr_lmul, rr_mull, nI_add, pk_mul, nI_1]) rfl rfl (by omega) (by omega) rfl rfl (w' := (W_SR44 (upd (upd (upd (upd (sv4 hx ss p1 p2) 0 (R 0 a)) 1 (R 0 (a + 1))) 2 (R 0 (a + 2))) 3 (R 0 (a + 3))) (va_up S 0 (va_cpy (R 0) (S 0) (a + 4) 0 6)) R q0)) rfl ?_
  refine rr_go hC bk_X6_load_62_76 (l' := [(0, .ref 0), (1, .ref 4), (2, .int (nI a))]) (st' := [.int 6, .int 0, .ref 2, .int (((nI a) + 4) + 6), .ref 4]) (w' := (W_SR44 (upd (upd (upd (upd (sv4 hx ss p1 p2) 0 (R 0 a)) 1 (R 0 (a + 1))) 2 (R 0 (a + 2))) 3 (R 0 (a + 3))) (va_up S 0 (va_cpy (R 0) (S 0) (a + 4) 0 6)) R q0)) rfl ?_
  rw [show ((nI a) + 4 : Int32) = nI (a + 4) from nI_add a 4]
  rw [show ((nI (a + 4)) + 6 : Int32) = nI ((a + 4) + 6) from nI_add (a + 4) 6]
  refine rr_copy hC (by decide +kernel) kl_6_45 rfl rfl rfl ((a + 4) + 6) 0 6 rfl (by simp only [fa_lit, rr_addl, rr_ladd, rr_lmul, rr_mull, nI_add, pk_mul, nI_1]) (by simp only [fa_lit, rr_addl, rr_ladd, rr_lmul, rr_mull, nI_add, pk_mul, nI_1]) rfl rfl (by omega) (by omega) rfl rfl (w' := (W_SR44 (upd (upd (upd (upd (sv4 hx ss p1 p2) 0 (R 0 a)) 1 (R 0 (a + 1))) 2 (R 0 (a + 2))) 3 (R 0 (a + 3))) (va_up (va_up S 0 (va_cpy (R 0) (S 0) (a + 4) 0 6)) 1 (va_cpy (R 0) (S 1) ((a + 4) + 6) 0 6)) R q0)) rfl ?_
  refine rr_go hC bk_X6_load_79_93 (l' := [(0, .ref 0), (1, .ref 4), (2, .int (nI a))]) (st' := [.int 6, .int 0, .ref 3, .int (((nI a) + 4) + 12), .ref 4]) (w' := (W_SR44 (upd (upd (upd (upd (sv4 hx ss p1 p2) 0 (R 0 a)) 1 (R 0 (a + 1))) 2 (R 0 (a + 2))) 3 (R 0 (a + 3))) (va_up (va_up S 0 (va_cpy (R 0) (S 0) (a + 4) 0 6)) 1 (va_cpy (R 0) (S 1) ((a + 4) + 6) 0 6)) R q0)) rfl ?_
  rw [show ((nI a) + 4 : Int32) = nI (a + 4) from nI_add a 4]
  rw [show ((nI (a + 4)) + 12 : Int32) = nI ((a + 4) + 12) from nI_add (a + 4) 12]
  refine rr_copy hC (by decide +kernel) kl_6_45 rfl rfl rfl ((a + 4) + 12) 0 6 rfl (by simp only [fa_lit, rr_addl, rr_ladd, rr_lmul, rr_mull, nI_add, pk_mul, nI_1]) (by simp only [fa_lit, rr_addl, rr_ladd, rr_lmul, rr_mull, nI_add, pk_mul, nI_1]) rfl rfl (by omega) (by omega) rfl rfl (w' := (W_SR44 (upd (upd (upd (upd (sv4 hx ss p1 p2) 0 (R 0 a)) 1 (R 0 (a + 1))) 2 (R 0 (a + 2))) 3 (R 0 (a + 3))) (va_up (va_up (va_up S 0 (va_cpy (R 0) (S 0) (a + 4) 0 6)) 1 (va_cpy (R 0) (S 1) ((a + 4) + 6) 0 6)) 2 (va_cpy (R 0) (S 2) ((a + 4) + 12) 0 6)) R q0)) rfl ?_
  exact rr_retv hC (by decide +kernel) (by rfl) ⟨Nat.zero_le _, Nat.zero_le _⟩
theorem bk_X6_restart_0_22 : rr_chk mX6_restart [(.aload_n 0, 0, 0, 0), (.iconst 0, 0, 0, 0), (.putfield 28, 0, 6, 4), (.aload_n 0, 0, 0, 0), (.iconst (-1), (-1), 0, 0), (.putfield 32, 0, 6, 5), (.aload_n 0, 0, 0, 0), (.iconst 0, 0, 0, 0), (.putfield 35, 0, 6, 6), (.aload_n 0, 0, 0, 0), (.iconst 0, 0, 0, 0), (.putfield 38, 0, 6, 7), (.iconst 0, 0, 0, 0), (.istore_n 1, 0, 1, 0)] 0 22 = true := by decide +kernel
theorem bk_X6_restart_22_25 : rr_chk mX6_restart [(.iload_n 1, 0, 1, 0), (.bipush 6, 6, 0, 0)] 22 25 = true := by decide +kernel
theorem bk_X6_restart_28_30 : rr_chk mX6_restart [(.aload_n 0, 0, 0, 0), (.iload_n 1, 0, 1, 0)] 28 30 = true := by decide +kernel
theorem bk_X6_restart_33_22 : rr_chk mX6_restart [(.iinc 1 1, 1, 1, 0), (.goto (-14), 0, 0, 0)] 33 22 = true := by decide +kernel
set_option maxRecDepth 100000 in
set_option maxHeartbeats 4000000 in
theorem c6_restart (hh : Nat) (ss p1 p2 : Int32) (S : Nat → Nat → Int32) (tc wd cc kc : Nat) (G : Nat → Nat → Int32) : rr_C mX6_restart 1 [.ref 0] (W_S (sv4 (nI hh) ss p1 p2) S (gv tc wd cc kc) G) 0 0 none (W_S (sv4 (nI 0) (-1) 0 0) (p_rsS S 6) (gv tc wd cc kc) G) := by
  refine rr_C.of (n := 0) fX6_restart.1 rfl rfl (fun Z hC => ?_)
  show rr_J Z 2 0 0 (rr_MQ Z 0 0 none (W_S (sv4 (nI 0) (-1) 0 0) (p_rsS S 6) (gv tc wd cc kc) G)) 0 [(0, .ref 0)] [] (W_S (sv4 (nI hh) ss p1 p2) S (gv tc wd cc kc) G)
  refine rr_go hC bk_X6_restart_0_22 (l' := [(0, .ref 0), (1, .int 0)]) (st' := []) (w' := (W_S (upd (upd (upd (upd (sv4 (nI hh) ss p1 p2) 0 0) 1 (-1)) 2 0) 3 0) S (gv tc wd cc kc) G)) rfl ?_
  have lp22 : ∀ (j k : Nat), k + j = 6 → 0 ≤ k → rr_J Z 2 0 0 (rr_MQ Z 0 0 none (W_S (sv4 (nI 0) (-1) 0 0) (p_rsS S 6) (gv tc wd cc kc) G)) 22 [(0, .ref 0), (1, .int (nI k))] [] (W_S (sv4 (nI 0) (-1) 0 0) (p_rsS S k) (gv tc wd cc kc) G) := by
    intro j
    induction j with
    | zero =>
      intro k hk22 hlo22
      refine rr_go hC bk_X6_restart_22_25 (l' := [(0, .ref 0), (1, .int (nI k))]) (st' := [.int 6, .int (nI k)]) (w' := (W_S (sv4 (nI 0) (-1) 0 0) (p_rsS S k) (gv tc wd cc kc) G)) rfl ?_
      refine rr_icmp_ge hC (off := 14) (tgt := 39) (by decide +kernel) (fun h25 => ?_) (fun h25 => by rw [rr_ln_le (a := 6) (by omega) (by omega)] at h25; omega)
      rw [rr_ln_le (a := 6) (by omega) (by omega)] at h25
      exact rr_retv hC (by decide +kernel) (by rw [show k = 6 by omega]) ⟨Nat.zero_le _, Nat.zero_le _⟩
    | succ j ih =>
      intro k hk22 hlo22
      refine rr_go hC bk_X6_restart_22_25 (l' := [(0, .ref 0), (1, .int (nI k))]) (st' := [.int 6, .int (nI k)]) (w' := (W_S (sv4 (nI 0) (-1) 0 0) (p_rsS S k) (gv tc wd cc kc) G)) rfl ?_
      refine rr_icmp_ge hC (off := 14) (tgt := 39) (by decide +kernel) (fun h25 => by rw [rr_ln_le (a := 6) (by omega) (by omega)] at h25; omega) (fun h25 => ?_)
      rw [rr_ln_le (a := 6) (by omega) (by omega)] at h25
      refine rr_go hC bk_X6_restart_28_30 (l' := [(0, .ref 0), (1, .int (nI k))]) (st' := [.int (nI k), .ref 0]) (w' := (W_S (sv4 (nI 0) (-1) 0 0) (p_rsS S k) (gv tc wd cc kc) G)) rfl ?_
      refine rr_callV hC (by decide +kernel) kl_6_41 fX6_remove (c6_remove (nI 0) (-1) 0 0 (p_rsS S k) 8 k (by omega)) rfl rfl [0, 1, 2, 3] rfl rfl (Eq.refl 4) rfl rfl rfl (rest := []) rfl rfl ⟨Nat.zero_le _, Nat.zero_le _⟩ (w2 := (W_S (sv4 (nI 0) (p_rms (-1) k) 0 0) (p_rmS (p_rsS S k) k) (gv tc wd cc kc) G)) rfl ?_
      show rr_J Z 2 0 0 _ 33 [(0, .ref 0), (1, .int (nI k))] [] (W_S (sv4 (nI 0) (p_rms (-1) k) 0 0) (p_rmS (p_rsS S k) k) (gv tc wd cc kc) G)
      refine rr_go hC bk_X6_restart_33_22 (l' := [(0, .ref 0), (1, .int ((nI k) + 1))]) (st' := []) (w' := (W_S (sv4 (nI 0) (p_rms (-1) k) 0 0) (p_rmS (p_rsS S k) k) (gv tc wd cc kc) G)) rfl ?_
      rw [show ((nI k) + 1 : Int32) = nI (k + 1) from nI_add k 1]
      exact rr_cast (l' := [(0, .ref 0), (1, .int (nI (k + 1)))]) (by rfl) rfl (w' := (W_S (sv4 (nI 0) (-1) 0 0) (p_rsS S (k + 1)) (gv tc wd cc kc) G)) (by simp [p_rms, p_rsS]) (ih (k + 1) (by omega) (by omega))
  exact rr_cast (l' := [(0, .ref 0), (1, .int (nI 0))]) (by first | rfl | (rfl)) rfl (w' := (W_S (sv4 (nI 0) (-1) 0 0) (p_rsS S 0) (gv tc wd cc kc) G)) (by rfl) (lp22 (6 - 0) 0 (by omega) (Nat.le_refl _))
theorem bk_X6_clauseIn_0_2 : rr_chk mX6_clauseIn [(.iconst 0, 0, 0, 0), (.istore_n 2, 0, 2, 0)] 0 2 = true := by decide +kernel
theorem bk_X6_clauseIn_2_10 : rr_chk mX6_clauseIn [(.iload_n 2, 0, 2, 0), (.aload_n 0, 0, 0, 0), (.getfield 21, 0, 6, 0), (.getfield 51, 0, 8, 9)] 2 10 = true := by decide +kernel
theorem bk_X6_clauseIn_31_32 : rr_chk mX6_clauseIn [(.iconst (-1), (-1), 0, 0)] 31 32 = true := by decide +kernel
theorem bk_X6_clauseIn_13_18 : rr_chk mX6_clauseIn [(.aload_n 0, 0, 0, 0), (.getfield 9, 0, 6, 1), (.iload_n 2, 0, 2, 0)] 13 18 = true := by decide +kernel
theorem bk_X6_clauseIn_19_20 : rr_chk mX6_clauseIn [(.iload_n 1, 0, 1, 0)] 19 20 = true := by decide +kernel
theorem bk_X6_clauseIn_25_2 : rr_chk mX6_clauseIn [(.iinc 2 1, 1, 2, 0), (.goto (-26), 0, 0, 0)] 25 2 = true := by decide +kernel
theorem bk_X6_clauseIn_23_24 : rr_chk mX6_clauseIn [(.iload_n 2, 0, 2, 0)] 23 24 = true := by decide +kernel
set_option maxRecDepth 100000 in
set_option maxHeartbeats 4000000 in
theorem c6_clauseIn (hh : Nat) (ss p1 p2 : Int32) (S : Nat → Nat → Int32) (tc wd cc kc : Nat) (G : Nat → Nat → Int32) (c : Int32) (hkc : kc ≤ 6) : rr_C mX6_clauseIn 0 [.ref 0, .int c] (W_S (sv4 (nI hh) ss p1 p2) S (gv tc wd cc kc) G) 0 0 (some (p_cin (S 0) c 0 kc)) (W_S (sv4 (nI hh) ss p1 p2) S (gv tc wd cc kc) G) := by
  refine rr_C.of (n := 1) fX6_clauseIn.1 rfl rfl (fun Z hC => ?_)
  show rr_J Z 3 0 0 (rr_MQ Z 0 0 (some (p_cin (S 0) c 0 kc)) (W_S (sv4 (nI hh) ss p1 p2) S (gv tc wd cc kc) G)) 0 [(0, .ref 0), (1, .int c)] [] (W_S (sv4 (nI hh) ss p1 p2) S (gv tc wd cc kc) G)
  refine rr_go hC bk_X6_clauseIn_0_2 (l' := [(0, .ref 0), (1, .int c), (2, .int 0)]) (st' := []) (w' := (W_S (sv4 (nI hh) ss p1 p2) S (gv tc wd cc kc) G)) rfl ?_
  have lp2 : ∀ (j k : Nat), k + j = kc → 0 ≤ k → p_cin (S 0) c 0 kc = p_cin (S 0) c k (kc - k) → rr_J Z 3 0 0 (rr_MQ Z 0 0 (some (p_cin (S 0) c 0 kc)) (W_S (sv4 (nI hh) ss p1 p2) S (gv tc wd cc kc) G)) 2 [(0, .ref 0), (1, .int c), (2, .int (nI k))] [] (W_S (sv4 (nI hh) ss p1 p2) S (gv tc wd cc kc) G) := by
    intro j
    induction j with
    | zero =>
      intro k hk2 hlo2 hq
      refine rr_go hC bk_X6_clauseIn_2_10 (l' := [(0, .ref 0), (1, .int c), (2, .int (nI k))]) (st' := [.int (nI kc), .int (nI k)]) (w' := (W_S (sv4 (nI hh) ss p1 p2) S (gv tc wd cc kc) G)) rfl ?_
      refine rr_icmp_ge hC (off := 21) (tgt := 31) (by decide +kernel) (fun h10 => ?_) (fun h10 => by rw [rr_nn_le (by omega) (by omega)] at h10; omega)
      rw [rr_nn_le (by omega) (by omega)] at h10
      refine rr_go hC bk_X6_clauseIn_31_32 (l' := [(0, .ref 0), (1, .int c), (2, .int (nI k))]) (st' := [.int (-1)]) (w' := (W_S (sv4 (nI hh) ss p1 p2) S (gv tc wd cc kc) G)) rfl ?_
      exact rr_reti hC (by decide +kernel) (by rw [hq, show kc - k = 0 by omega]; rfl) (by rfl) ⟨Nat.zero_le _, Nat.zero_le _⟩
    | succ j ih =>
      intro k hk2 hlo2 hq
      refine rr_go hC bk_X6_clauseIn_2_10 (l' := [(0, .ref 0), (1, .int c), (2, .int (nI k))]) (st' := [.int (nI kc), .int (nI k)]) (w' := (W_S (sv4 (nI hh) ss p1 p2) S (gv tc wd cc kc) G)) rfl ?_
      refine rr_icmp_ge hC (off := 21) (tgt := 31) (by decide +kernel) (fun h10 => by rw [rr_nn_le (by omega) (by omega)] at h10; omega) (fun h10 => ?_)
      rw [rr_nn_le (by omega) (by omega)] at h10
      refine rr_go hC bk_X6_clauseIn_13_18 (l' := [(0, .ref 0), (1, .int c), (2, .int (nI k))]) (st' := [.int (nI k), .ref 1]) (w' := (W_S (sv4 (nI hh) ss p1 p2) S (gv tc wd cc kc) G)) rfl ?_
      refine rr_iald hC k (by decide +kernel) rfl rfl (by omega) rfl ?_
      show rr_J Z 3 0 0 _ 19 [(0, .ref 0), (1, .int c), (2, .int (nI k))] [.int (S 0 k)] (W_S (sv4 (nI hh) ss p1 p2) S (gv tc wd cc kc) G)
      refine rr_go hC bk_X6_clauseIn_19_20 (l' := [(0, .ref 0), (1, .int c), (2, .int (nI k))]) (st' := [.int c, .int (S 0 k)]) (w' := (W_S (sv4 (nI hh) ss p1 p2) S (gv tc wd cc kc) G)) rfl ?_
      refine rr_icmp_ne hC (off := 5) (tgt := 25) (by decide +kernel) (fun h20 => ?_) (fun h20 => ?_)
      · refine rr_go hC bk_X6_clauseIn_25_2 (l' := [(0, .ref 0), (1, .int c), (2, .int ((nI k) + 1))]) (st' := []) (w' := (W_S (sv4 (nI hh) ss p1 p2) S (gv tc wd cc kc) G)) rfl ?_
        rw [show ((nI k) + 1 : Int32) = nI (k + 1) from nI_add k 1]
        exact rr_cast (l' := [(0, .ref 0), (1, .int c), (2, .int (nI (k + 1)))]) (by rfl) rfl (w' := (W_S (sv4 (nI hh) ss p1 p2) S (gv tc wd cc kc) G)) (by rfl) (ih (k + 1) (by omega) (by omega) (by rw [hq, show kc - k = (kc - (k + 1)) + 1 by omega, p_cin, if_neg h20]))
      · refine rr_go hC bk_X6_clauseIn_23_24 (l' := [(0, .ref 0), (1, .int c), (2, .int (nI k))]) (st' := [.int (nI k)]) (w' := (W_S (sv4 (nI hh) ss p1 p2) S (gv tc wd cc kc) G)) rfl ?_
        exact rr_reti hC (by decide +kernel) (by rw [hq, show kc - k = (kc - (k + 1)) + 1 by omega, p_cin, if_pos h20]) (by rfl) ⟨Nat.zero_le _, Nat.zero_le _⟩
  exact rr_cast (l' := [(0, .ref 0), (1, .int c), (2, .int (nI 0))]) (by first | rfl | (simp [*])) rfl (w' := (W_S (sv4 (nI hh) ss p1 p2) S (gv tc wd cc kc) G)) (by rfl) (lp2 (kc - 0) 0 (by omega) (Nat.le_refl _) rfl)
theorem bk_X6_mayWrite_0_5 : rr_chk mX6_mayWrite [(.aload_n 0, 0, 0, 0), (.getfield 32, 0, 6, 5), (.iconst (-1), (-1), 0, 0)] 0 5 = true := by decide +kernel
theorem bk_X6_mayWrite_44_45 : rr_chk mX6_mayWrite [(.iconst 0, 0, 0, 0)] 44 45 = true := by decide +kernel
theorem bk_X6_mayWrite_8_10 : rr_chk mX6_mayWrite [(.aload_n 0, 0, 0, 0), (.iload_n 1, 0, 1, 0)] 8 10 = true := by decide +kernel
theorem bk_X6_mayWrite_16_25 : rr_chk mX6_mayWrite [(.aload_n 0, 0, 0, 0), (.getfield 21, 0, 6, 0), (.iload_n 2, 0, 2, 0), (.aload_n 0, 0, 0, 0), (.getfield 28, 0, 6, 4)] 16 25 = true := by decide +kernel
theorem bk_X6_mayWrite_31_33 : rr_chk mX6_mayWrite [(.aload_n 0, 0, 0, 0), (.iload_n 2, 0, 2, 0)] 31 33 = true := by decide +kernel
theorem bk_X6_mayWrite_36_37 : rr_chk mX6_mayWrite [(.iconst (-1), (-1), 0, 0)] 36 37 = true := by decide +kernel
theorem bk_X6_mayWrite_40_45 : rr_chk mX6_mayWrite [(.iconst 1, 1, 0, 0), (.goto 4, 0, 0, 0)] 40 45 = true := by decide +kernel
set_option maxRecDepth 100000 in
set_option maxHeartbeats 4000000 in
theorem c6_mayWrite (hh : Nat) (ss p1 p2 : Int32) (S : Nat → Nat → Int32) (tc wd cc kc : Nat) (G : Nat → Nat → Int32) (k c : Nat) (htc : tc ≤ 12) (hcc : cc ≤ 9) (hkc : kc ≤ 6) (hh9 : hh < 100000) (hk : k < kc) (hc : c < cc) : rr_C mX6_mayWrite 2 [.ref 0, .int (nI k), .int (nI c)] (W_S (sv4 (nI hh) ss p1 p2) S (gv tc wd cc kc) G) 0 0 (some (rr_b (p_may S G ss tc kc hh k c))) (W_S (sv4 (nI hh) ss p1 p2) S (gv tc wd cc kc) G) := by
  refine rr_C.of (n := 2) fX6_mayWrite.1 rfl rfl (fun Z hC => ?_)
  show rr_J Z 3 0 0 (rr_MQ Z 0 0 (some (rr_b (p_may S G ss tc kc hh k c))) (W_S (sv4 (nI hh) ss p1 p2) S (gv tc wd cc kc) G)) 0 [(0, .ref 0), (1, .int (nI k)), (2, .int (nI c))] [] (W_S (sv4 (nI hh) ss p1 p2) S (gv tc wd cc kc) G)
  refine rr_go hC bk_X6_mayWrite_0_5 (l' := [(0, .ref 0), (1, .int (nI k)), (2, .int (nI c))]) (st' := [.int (-1), .int ss]) (w' := (W_S (sv4 (nI hh) ss p1 p2) S (gv tc wd cc kc) G)) rfl ?_
  refine rr_icmp_ne hC (off := 39) (tgt := 44) (by decide +kernel) (fun h5 => ?_) (fun h5 => ?_)
  · refine rr_go hC bk_X6_mayWrite_44_45 (l' := [(0, .ref 0), (1, .int (nI k)), (2, .int (nI c))]) (st' := [.int 0]) (w' := (W_S (sv4 (nI hh) ss p1 p2) S (gv tc wd cc kc) G)) rfl ?_
    exact rr_retz hC (by decide +kernel) (Or.inl rfl) (by simp [p_may, rr_b, *]) (by rfl) ⟨Nat.zero_le _, Nat.zero_le _⟩
  · refine rr_go hC bk_X6_mayWrite_8_10 (l' := [(0, .ref 0), (1, .int (nI k)), (2, .int (nI c))]) (st' := [.int (nI k), .ref 0]) (w' := (W_S (sv4 (nI hh) ss p1 p2) S (gv tc wd cc kc) G)) rfl ?_
    refine rr_callV hC (by decide +kernel) kl_6_56 fX6_isNowhere (c6_isNowhere (nI hh) ss p1 p2 S 8 k (by omega)) rfl rfl [0, 1, 2, 3] rfl rfl (Eq.refl 4) rfl rfl rfl (rest := []) rfl rfl ⟨Nat.zero_le _, Nat.zero_le _⟩ (w2 := (W_S (sv4 (nI hh) ss p1 p2) S (gv tc wd cc kc) G)) rfl ?_
    show rr_J Z 3 0 0 _ 13 [(0, .ref 0), (1, .int (nI k)), (2, .int (nI c))] [.int (rr_b (decide (S 0 k = -1)))] (W_S (sv4 (nI hh) ss p1 p2) S (gv tc wd cc kc) G)
    refine rr_eqb hC (off := 31) (tgt := 44) (by decide +kernel) (fun h13 => ?_) (fun h13 => ?_)
    · replace h13 := of_decide_eq_false h13
      refine rr_go hC bk_X6_mayWrite_44_45 (l' := [(0, .ref 0), (1, .int (nI k)), (2, .int (nI c))]) (st' := [.int 0]) (w' := (W_S (sv4 (nI hh) ss p1 p2) S (gv tc wd cc kc) G)) rfl ?_
      exact rr_retz hC (by decide +kernel) (Or.inl rfl) (by simp [p_may, rr_b, *]) (by rfl) ⟨Nat.zero_le _, Nat.zero_le _⟩
    · replace h13 := of_decide_eq_true h13
      refine rr_go hC bk_X6_mayWrite_16_25 (l' := [(0, .ref 0), (1, .int (nI k)), (2, .int (nI c))]) (st' := [.int (nI hh), .int (nI c), .ref 4]) (w' := (W_S (sv4 (nI hh) ss p1 p2) S (gv tc wd cc kc) G)) rfl ?_
      refine rr_callV hC (by decide +kernel) kl_6_60 fX8_isWet (c8_isWet tc wd cc kc G c hh (by omega) (by omega) (by omega) (by omega)) rfl rfl [4, 5, 6, 7, 8, 9, 10] rfl rfl (Eq.refl 7) rfl rfl rfl (rest := []) rfl rfl ⟨Nat.zero_le _, Nat.zero_le _⟩ (w2 := (W_S (sv4 (nI hh) ss p1 p2) S (gv tc wd cc kc) G)) rfl ?_
      show rr_J Z 3 0 0 _ 28 [(0, .ref 0), (1, .int (nI k)), (2, .int (nI c))] [.int (rr_b (p_wet G tc c hh))] (W_S (sv4 (nI hh) ss p1 p2) S (gv tc wd cc kc) G)
      refine rr_neb hC (off := 16) (tgt := 44) (by decide +kernel) (fun h28 => ?_) (fun h28 => ?_)
      · refine rr_go hC bk_X6_mayWrite_44_45 (l' := [(0, .ref 0), (1, .int (nI k)), (2, .int (nI c))]) (st' := [.int 0]) (w' := (W_S (sv4 (nI hh) ss p1 p2) S (gv tc wd cc kc) G)) rfl ?_
        exact rr_retz hC (by decide +kernel) (Or.inl rfl) (by simp [p_may, rr_b, *]) (by rfl) ⟨Nat.zero_le _, Nat.zero_le _⟩
      · refine rr_go hC bk_X6_mayWrite_31_33 (l' := [(0, .ref 0), (1, .int (nI k)), (2, .int (nI c))]) (st' := [.int (nI c), .ref 0]) (w' := (W_S (sv4 (nI hh) ss p1 p2) S (gv tc wd cc kc) G)) rfl ?_
        refine rr_callV hC (by decide +kernel) kl_6_64 fX6_clauseIn (c6_clauseIn hh ss p1 p2 S tc wd cc kc G (nI c) (by omega)) rfl rfl [0, 1, 2, 3, 4, 5, 6, 7, 8, 9, 10] rfl rfl (Eq.refl 11) rfl rfl rfl (rest := []) rfl rfl ⟨Nat.zero_le _, Nat.zero_le _⟩ (w2 := (W_S (sv4 (nI hh) ss p1 p2) S (gv tc wd cc kc) G)) rfl ?_
        show rr_J Z 3 0 0 _ 36 [(0, .ref 0), (1, .int (nI k)), (2, .int (nI c))] [.int (p_cin (S 0) (nI c) 0 kc)] (W_S (sv4 (nI hh) ss p1 p2) S (gv tc wd cc kc) G)
        refine rr_go hC bk_X6_mayWrite_36_37 (l' := [(0, .ref 0), (1, .int (nI k)), (2, .int (nI c))]) (st' := [.int (-1), .int (p_cin (S 0) (nI c) 0 kc)]) (w' := (W_S (sv4 (nI hh) ss p1 p2) S (gv tc wd cc kc) G)) rfl ?_
        refine rr_icmp_ne hC (off := 7) (tgt := 44) (by decide +kernel) (fun h37 => ?_) (fun h37 => ?_)
        · refine rr_go hC bk_X6_mayWrite_44_45 (l' := [(0, .ref 0), (1, .int (nI k)), (2, .int (nI c))]) (st' := [.int 0]) (w' := (W_S (sv4 (nI hh) ss p1 p2) S (gv tc wd cc kc) G)) rfl ?_
          exact rr_retz hC (by decide +kernel) (Or.inl rfl) (by simp [p_may, rr_b, *]) (by rfl) ⟨Nat.zero_le _, Nat.zero_le _⟩
        · refine rr_go hC bk_X6_mayWrite_40_45 (l' := [(0, .ref 0), (1, .int (nI k)), (2, .int (nI c))]) (st' := [.int 1]) (w' := (W_S (sv4 (nI hh) ss p1 p2) S (gv tc wd cc kc) G)) rfl ?_
          exact rr_retz hC (by decide +kernel) (Or.inr rfl) (by simp [p_may, rr_b, *]) (by rfl) ⟨Nat.zero_le _, Nat.zero_le _⟩
theorem bk_X6_begin_0_5 : rr_chk mX6_begin [(.aload_n 0, 0, 0, 0), (.getfield 21, 0, 6, 0), (.iload_n 1, 0, 1, 0)] 0 5 = true := by decide +kernel
theorem bk_X6_begin_11_16 : rr_chk mX6_begin [(.aload_n 0, 0, 0, 0), (.getfield 21, 0, 6, 0), (.iload_n 2, 0, 2, 0)] 11 16 = true := by decide +kernel
theorem bk_X6_begin_22_28 : rr_chk mX6_begin [(.aload_n 0, 0, 0, 0), (.getfield 9, 0, 6, 1), (.iload_n 1, 0, 1, 0), (.iload_n 2, 0, 2, 0)] 22 28 = true := by decide +kernel
theorem bk_X6_begin_29_35 : rr_chk mX6_begin [(.aload_n 0, 0, 0, 0), (.getfield 15, 0, 6, 2), (.iload_n 1, 0, 1, 0), (.iconst 0, 0, 0, 0)] 29 35 = true := by decide +kernel
theorem bk_X6_begin_36_42 : rr_chk mX6_begin [(.aload_n 0, 0, 0, 0), (.getfield 18, 0, 6, 3), (.iload_n 1, 0, 1, 0), (.iconst 0, 0, 0, 0)] 36 42 = true := by decide +kernel
theorem bk_X6_begin_43_48 : rr_chk mX6_begin [(.aload_n 0, 0, 0, 0), (.iload_n 1, 0, 1, 0), (.putfield 32, 0, 6, 5)] 43 48 = true := by decide +kernel
set_option maxRecDepth 100000 in
set_option maxHeartbeats 4000000 in
theorem c6_begin (hh : Nat) (ss p1 p2 : Int32) (S : Nat → Nat → Int32) (tc wd cc kc : Nat) (G : Nat → Nat → Int32) (k c : Nat) (htc : tc ≤ 12) (hcc : cc ≤ 9) (hkc : kc ≤ 6) (hk : k < kc) (hc : c < cc) : rr_C mX6_begin 1 [.ref 0, .int (nI k), .int (nI c)] (W_S (sv4 (nI hh) ss p1 p2) S (gv tc wd cc kc) G) 0 0 none (W_S (sv4 (nI hh) (nI k) p1 p2) (p_wrS S k c) (gv tc wd cc kc) G) := by
  refine rr_C.of (n := 2) fX6_begin.1 rfl rfl (fun Z hC => ?_)
  show rr_J Z 3 0 0 (rr_MQ Z 0 0 none (W_S (sv4 (nI hh) (nI k) p1 p2) (p_wrS S k c) (gv tc wd cc kc) G)) 0 [(0, .ref 0), (1, .int (nI k)), (2, .int (nI c))] [] (W_S (sv4 (nI hh) ss p1 p2) S (gv tc wd cc kc) G)
  refine rr_go hC bk_X6_begin_0_5 (l' := [(0, .ref 0), (1, .int (nI k)), (2, .int (nI c))]) (st' := [.int (nI k), .ref 4]) (w' := (W_S (sv4 (nI hh) ss p1 p2) S (gv tc wd cc kc) G)) rfl ?_
  refine rr_callV hC (by decide +kernel) kl_6_68 fX8_hasClause (c8_hasClause tc wd cc kc G (nI k)) rfl rfl [4, 5, 6, 7, 8, 9, 10] rfl rfl (Eq.refl 7) rfl rfl rfl (rest := []) rfl rfl ⟨Nat.zero_le _, Nat.zero_le _⟩ (w2 := (W_S (sv4 (nI hh) ss p1 p2) S (gv tc wd cc kc) G)) rfl ?_
  show rr_J Z 3 0 0 _ 8 [(0, .ref 0), (1, .int (nI k)), (2, .int (nI c))] [.int (rr_b (p_in (nI k) (nI kc)))] (W_S (sv4 (nI hh) ss p1 p2) S (gv tc wd cc kc) G)
  refine rr_eqb hC (off := 40) (tgt := 48) (by decide +kernel) (fun h8 => by  rw [p_in_n (by omega) (by omega)] at h8; simp at h8; omega) (fun h8 => ?_)
  refine rr_go hC bk_X6_begin_11_16 (l' := [(0, .ref 0), (1, .int (nI k)), (2, .int (nI c))]) (st' := [.int (nI c), .ref 4]) (w' := (W_S (sv4 (nI hh) ss p1 p2) S (gv tc wd cc kc) G)) rfl ?_
  refine rr_callV hC (by decide +kernel) kl_6_71 fX8_hasCell (c8_hasCell tc wd cc kc G (nI c)) rfl rfl [4, 5, 6, 7, 8, 9, 10] rfl rfl (Eq.refl 7) rfl rfl rfl (rest := []) rfl rfl ⟨Nat.zero_le _, Nat.zero_le _⟩ (w2 := (W_S (sv4 (nI hh) ss p1 p2) S (gv tc wd cc kc) G)) rfl ?_
  show rr_J Z 3 0 0 _ 19 [(0, .ref 0), (1, .int (nI k)), (2, .int (nI c))] [.int (rr_b (p_in (nI c) (nI cc)))] (W_S (sv4 (nI hh) ss p1 p2) S (gv tc wd cc kc) G)
  refine rr_eqb hC (off := 29) (tgt := 48) (by decide +kernel) (fun h19 => by  rw [p_in_n (by omega) (by omega)] at h19; simp at h19; omega) (fun h19 => ?_)
  refine rr_go hC bk_X6_begin_22_28 (l' := [(0, .ref 0), (1, .int (nI k)), (2, .int (nI c))]) (st' := [.int (nI c), .int (nI k), .ref 1]) (w' := (W_S (sv4 (nI hh) ss p1 p2) S (gv tc wd cc kc) G)) rfl ?_
  refine rr_iast hC k (by decide +kernel) rfl rfl (by omega) rfl (w' := (W_S (sv4 (nI hh) ss p1 p2) (va_up S 0 (upd (S 0) k (nI c))) (gv tc wd cc kc) G)) rfl ?_
  show rr_J Z 3 0 0 _ 29 [(0, .ref 0), (1, .int (nI k)), (2, .int (nI c))] [] (W_S (sv4 (nI hh) ss p1 p2) (va_up S 0 (upd (S 0) k (nI c))) (gv tc wd cc kc) G)
  refine rr_go hC bk_X6_begin_29_35 (l' := [(0, .ref 0), (1, .int (nI k)), (2, .int (nI c))]) (st' := [.int 0, .int (nI k), .ref 2]) (w' := (W_S (sv4 (nI hh) ss p1 p2) (va_up S 0 (upd (S 0) k (nI c))) (gv tc wd cc kc) G)) rfl ?_
  refine rr_iast hC k (by decide +kernel) rfl rfl (by omega) rfl (w' := (W_S (sv4 (nI hh) ss p1 p2) (va_up (va_up S 0 (upd (S 0) k (nI c))) 1 (upd (S 1) k 0)) (gv tc wd cc kc) G)) rfl ?_
  show rr_J Z 3 0 0 _ 36 [(0, .ref 0), (1, .int (nI k)), (2, .int (nI c))] [] (W_S (sv4 (nI hh) ss p1 p2) (va_up (va_up S 0 (upd (S 0) k (nI c))) 1 (upd (S 1) k 0)) (gv tc wd cc kc) G)
  refine rr_go hC bk_X6_begin_36_42 (l' := [(0, .ref 0), (1, .int (nI k)), (2, .int (nI c))]) (st' := [.int 0, .int (nI k), .ref 3]) (w' := (W_S (sv4 (nI hh) ss p1 p2) (va_up (va_up S 0 (upd (S 0) k (nI c))) 1 (upd (S 1) k 0)) (gv tc wd cc kc) G)) rfl ?_
  refine rr_iast hC k (by decide +kernel) rfl rfl (by omega) rfl (w' := (W_S (sv4 (nI hh) ss p1 p2) (va_up (va_up (va_up S 0 (upd (S 0) k (nI c))) 1 (upd (S 1) k 0)) 2 (upd (S 2) k 0)) (gv tc wd cc kc) G)) rfl ?_
  show rr_J Z 3 0 0 _ 43 [(0, .ref 0), (1, .int (nI k)), (2, .int (nI c))] [] (W_S (sv4 (nI hh) ss p1 p2) (va_up (va_up (va_up S 0 (upd (S 0) k (nI c))) 1 (upd (S 1) k 0)) 2 (upd (S 2) k 0)) (gv tc wd cc kc) G)
  refine rr_go hC bk_X6_begin_43_48 (l' := [(0, .ref 0), (1, .int (nI k)), (2, .int (nI c))]) (st' := []) (w' := (W_S (upd (sv4 (nI hh) ss p1 p2) 1 (nI k)) (va_up (va_up (va_up S 0 (upd (S 0) k (nI c))) 1 (upd (S 1) k 0)) 2 (upd (S 2) k 0)) (gv tc wd cc kc) G)) rfl ?_
  exact rr_retv hC (by decide +kernel) (by rfl) ⟨Nat.zero_le _, Nat.zero_le _⟩
theorem bk_X6_removeAll_0_4 : rr_chk mX6_removeAll [(.iconst 0, 0, 0, 0), (.istore_n 1, 0, 1, 0), (.iconst 0, 0, 0, 0), (.istore_n 2, 0, 2, 0)] 0 4 = true := by decide +kernel
theorem bk_X6_removeAll_4_12 : rr_chk mX6_removeAll [(.iload_n 2, 0, 2, 0), (.aload_n 0, 0, 0, 0), (.getfield 21, 0, 6, 0), (.getfield 51, 0, 8, 9)] 4 12 = true := by decide +kernel
theorem bk_X6_removeAll_37_38 : rr_chk mX6_removeAll [(.iload_n 1, 0, 1, 0)] 37 38 = true := by decide +kernel
theorem bk_X6_removeAll_15_17 : rr_chk mX6_removeAll [(.aload_n 0, 0, 0, 0), (.iload_n 2, 0, 2, 0)] 15 17 = true := by decide +kernel
theorem bk_X6_removeAll_31_4 : rr_chk mX6_removeAll [(.iinc 2 1, 1, 2, 0), (.goto (-30), 0, 0, 0)] 31 4 = true := by decide +kernel
theorem bk_X6_removeAll_23_25 : rr_chk mX6_removeAll [(.aload_n 0, 0, 0, 0), (.iload_n 2, 0, 2, 0)] 23 25 = true := by decide +kernel
theorem bk_X6_removeAll_28_4 : rr_chk mX6_removeAll [(.iinc 1 1, 1, 1, 0), (.iinc 2 1, 1, 2, 0), (.goto (-30), 0, 0, 0)] 28 4 = true := by decide +kernel
set_option maxRecDepth 100000 in
set_option maxHeartbeats 4000000 in
theorem c6_removeAll (hh : Nat) (ss p1 p2 : Int32) (S : Nat → Nat → Int32) (tc wd cc kc : Nat) (G : Nat → Nat → Int32) (hkc : kc ≤ 6) : rr_C mX6_removeAll 1 [.ref 0] (W_S (sv4 (nI hh) ss p1 p2) S (gv tc wd cc kc) G) 0 0 (some (nI ((p_ra S ss kc).2.2))) (W_S (sv4 (nI hh) ((p_ra S ss kc).2.1) p1 p2) ((p_ra S ss kc).1) (gv tc wd cc kc) G) := by
  refine rr_C.of (n := 0) fX6_removeAll.1 rfl rfl (fun Z hC => ?_)
  show rr_J Z 3 0 0 (rr_MQ Z 0 0 (some (nI ((p_ra S ss kc).2.2))) (W_S (sv4 (nI hh) ((p_ra S ss kc).2.1) p1 p2) ((p_ra S ss kc).1) (gv tc wd cc kc) G)) 0 [(0, .ref 0)] [] (W_S (sv4 (nI hh) ss p1 p2) S (gv tc wd cc kc) G)
  refine rr_go hC bk_X6_removeAll_0_4 (l' := [(0, .ref 0), (1, .int 0), (2, .int 0)]) (st' := []) (w' := (W_S (sv4 (nI hh) ss p1 p2) S (gv tc wd cc kc) G)) rfl ?_
  have lp4 : ∀ (j k : Nat), k + j = kc → 0 ≤ k → rr_J Z 3 0 0 (rr_MQ Z 0 0 (some (nI ((p_ra S ss kc).2.2))) (W_S (sv4 (nI hh) ((p_ra S ss kc).2.1) p1 p2) ((p_ra S ss kc).1) (gv tc wd cc kc) G)) 4 [(0, .ref 0), (1, .int (nI ((p_ra S ss k).2.2))), (2, .int (nI k))] [] (W_S (sv4 (nI hh) ((p_ra S ss k).2.1) p1 p2) ((p_ra S ss k).1) (gv tc wd cc kc) G) := by
    intro j
    induction j with
    | zero =>
      intro k hk4 hlo4
      have hle := p_ra_le S ss k
      refine rr_go hC bk_X6_removeAll_4_12 (l' := [(0, .ref 0), (1, .int (nI ((p_ra S ss k).2.2))), (2, .int (nI k))]) (st' := [.int (nI kc), .int (nI k)]) (w' := (W_S (sv4 (nI hh) ((p_ra S ss k).2.1) p1 p2) ((p_ra S ss k).1) (gv tc wd cc kc) G)) rfl ?_
      refine rr_icmp_ge hC (off := 25) (tgt := 37) (by decide +kernel) (fun h12 => ?_) (fun h12 => by rw [rr_nn_le (by omega) (by omega)] at h12; omega)
      rw [rr_nn_le (by omega) (by omega)] at h12
      refine rr_go hC bk_X6_removeAll_37_38 (l' := [(0, .ref 0), (1, .int (nI ((p_ra S ss k).2.2))), (2, .int (nI k))]) (st' := [.int (nI ((p_ra S ss k).2.2))]) (w' := (W_S (sv4 (nI hh) ((p_ra S ss k).2.1) p1 p2) ((p_ra S ss k).1) (gv tc wd cc kc) G)) rfl ?_
      exact rr_reti hC (by decide +kernel) (by rw [show k = kc by omega]) (by rw [show k = kc by omega]) ⟨Nat.zero_le _, Nat.zero_le _⟩
    | succ j ih =>
      intro k hk4 hlo4
      have hle := p_ra_le S ss k
      refine rr_go hC bk_X6_removeAll_4_12 (l' := [(0, .ref 0), (1, .int (nI ((p_ra S ss k).2.2))), (2, .int (nI k))]) (st' := [.int (nI kc), .int (nI k)]) (w' := (W_S (sv4 (nI hh) ((p_ra S ss k).2.1) p1 p2) ((p_ra S ss k).1) (gv tc wd cc kc) G)) rfl ?_
      refine rr_icmp_ge hC (off := 25) (tgt := 37) (by decide +kernel) (fun h12 => by rw [rr_nn_le (by omega) (by omega)] at h12; omega) (fun h12 => ?_)
      rw [rr_nn_le (by omega) (by omega)] at h12
      refine rr_go hC bk_X6_removeAll_15_17 (l' := [(0, .ref 0), (1, .int (nI ((p_ra S ss k).2.2))), (2, .int (nI k))]) (st' := [.int (nI k), .ref 0]) (w' := (W_S (sv4 (nI hh) ((p_ra S ss k).2.1) p1 p2) ((p_ra S ss k).1) (gv tc wd cc kc) G)) rfl ?_
      refine rr_callV hC (by decide +kernel) kl_6_56 fX6_isNowhere (c6_isNowhere (nI hh) ((p_ra S ss k).2.1) p1 p2 ((p_ra S ss k).1) 8 k (by omega)) rfl rfl [0, 1, 2, 3] rfl rfl (Eq.refl 4) rfl rfl rfl (rest := []) rfl rfl ⟨Nat.zero_le _, Nat.zero_le _⟩ (w2 := (W_S (sv4 (nI hh) ((p_ra S ss k).2.1) p1 p2) ((p_ra S ss k).1) (gv tc wd cc kc) G)) rfl ?_
      show rr_J Z 3 0 0 _ 20 [(0, .ref 0), (1, .int (nI ((p_ra S ss k).2.2))), (2, .int (nI k))] [.int (rr_b (decide ((((p_ra S ss k).1) 0) k = -1)))] (W_S (sv4 (nI hh) ((p_ra S ss k).2.1) p1 p2) ((p_ra S ss k).1) (gv tc wd cc kc) G)
      refine rr_neb hC (off := 11) (tgt := 31) (by decide +kernel) (fun h20 => ?_) (fun h20 => ?_)
      · replace h20 := of_decide_eq_true h20
        refine rr_go hC bk_X6_removeAll_31_4 (l' := [(0, .ref 0), (1, .int (nI ((p_ra S ss k).2.2))), (2, .int ((nI k) + 1))]) (st' := []) (w' := (W_S (sv4 (nI hh) ((p_ra S ss k).2.1) p1 p2) ((p_ra S ss k).1) (gv tc wd cc kc) G)) rfl ?_
        rw [show ((nI k) + 1 : Int32) = nI (k + 1) from nI_add k 1]
        exact rr_cast (l' := [(0, .ref 0), (1, .int (nI ((p_ra S ss (k + 1)).2.2))), (2, .int (nI (k + 1)))]) (by simp [p_ra, *]) rfl (w' := (W_S (sv4 (nI hh) ((p_ra S ss (k + 1)).2.1) p1 p2) ((p_ra S ss (k + 1)).1) (gv tc wd cc kc) G)) (by simp [p_ra, *]) (ih (k + 1) (by omega) (by omega))
      · replace h20 := of_decide_eq_false h20
        refine rr_go hC bk_X6_removeAll_23_25 (l' := [(0, .ref 0), (1, .int (nI ((p_ra S ss k).2.2))), (2, .int (nI k))]) (st' := [.int (nI k), .ref 0]) (w' := (W_S (sv4 (nI hh) ((p_ra S ss k).2.1) p1 p2) ((p_ra S ss k).1) (gv tc wd cc kc) G)) rfl ?_
        refine rr_callV hC (by decide +kernel) kl_6_41 fX6_remove (c6_remove (nI hh) ((p_ra S ss k).2.1) p1 p2 ((p_ra S ss k).1) 8 k (by omega)) rfl rfl [0, 1, 2, 3] rfl rfl (Eq.refl 4) rfl rfl rfl (rest := []) rfl rfl ⟨Nat.zero_le _, Nat.zero_le _⟩ (w2 := (W_S (sv4 (nI hh) (p_rms ((p_ra S ss k).2.1) k) p1 p2) (p_rmS ((p_ra S ss k).1) k) (gv tc wd cc kc) G)) rfl ?_
        show rr_J Z 3 0 0 _ 28 [(0, .ref 0), (1, .int (nI ((p_ra S ss k).2.2))), (2, .int (nI k))] [] (W_S (sv4 (nI hh) (p_rms ((p_ra S ss k).2.1) k) p1 p2) (p_rmS ((p_ra S ss k).1) k) (gv tc wd cc kc) G)
        refine rr_go hC bk_X6_removeAll_28_4 (l' := [(0, .ref 0), (1, .int ((nI ((p_ra S ss k).2.2)) + 1)), (2, .int ((nI k) + 1))]) (st' := []) (w' := (W_S (sv4 (nI hh) (p_rms ((p_ra S ss k).2.1) k) p1 p2) (p_rmS ((p_ra S ss k).1) k) (gv tc wd cc kc) G)) rfl ?_
        rw [show ((nI ((p_ra S ss k).2.2)) + 1 : Int32) = nI (((p_ra S ss k).2.2) + 1) from nI_add ((p_ra S ss k).2.2) 1]
        rw [show ((nI k) + 1 : Int32) = nI (k + 1) from nI_add k 1]
        exact rr_cast (l' := [(0, .ref 0), (1, .int (nI ((p_ra S ss (k + 1)).2.2))), (2, .int (nI (k + 1)))]) (by simp [p_ra, *]) rfl (w' := (W_S (sv4 (nI hh) ((p_ra S ss (k + 1)).2.1) p1 p2) ((p_ra S ss (k + 1)).1) (gv tc wd cc kc) G)) (by simp [p_ra, *]) (ih (k + 1) (by omega) (by omega))
  exact rr_cast (l' := [(0, .ref 0), (1, .int (nI ((p_ra S ss 0).2.2))), (2, .int (nI 0))]) (by first | rfl | (rfl)) rfl (w' := (W_S (sv4 (nI hh) ((p_ra S ss 0).2.1) p1 p2) ((p_ra S ss 0).1) (gv tc wd cc kc) G)) (by rfl) (lp4 (kc - 0) 0 (by omega) (Nat.le_refl _))
theorem bk_X6_isDone_0_2 : rr_chk mX6_isDone [(.aload_n 0, 0, 0, 0), (.iload_n 1, 0, 1, 0)] 0 2 = true := by decide +kernel
theorem bk_X6_isDone_30_31 : rr_chk mX6_isDone [(.iconst 0, 0, 0, 0)] 30 31 = true := by decide +kernel
theorem bk_X6_isDone_8_13 : rr_chk mX6_isDone [(.aload_n 0, 0, 0, 0), (.getfield 15, 0, 6, 2), (.iload_n 1, 0, 1, 0)] 8 13 = true := by decide +kernel
theorem bk_X6_isDone_14_22 : rr_chk mX6_isDone [(.aload_n 0, 0, 0, 0), (.getfield 21, 0, 6, 0), (.getfield 77, 0, 8, 2), (.iload_n 1, 0, 1, 0)] 14 22 = true := by decide +kernel
theorem bk_X6_isDone_26_31 : rr_chk mX6_isDone [(.iconst 1, 1, 0, 0), (.goto 4, 0, 0, 0)] 26 31 = true := by decide +kernel
set_option maxRecDepth 100000 in
set_option maxHeartbeats 4000000 in
theorem c6_isDone (hh : Nat) (ss p1 p2 : Int32) (S : Nat → Nat → Int32) (tc wd cc kc : Nat) (G : Nat → Nat → Int32) (k : Nat) (hkc : kc ≤ 6) (hk : k < kc) : rr_C mX6_isDone 1 [.ref 0, .int (nI k)] (W_S (sv4 (nI hh) ss p1 p2) S (gv tc wd cc kc) G) 0 0 (some (rr_b (p_done S G k))) (W_S (sv4 (nI hh) ss p1 p2) S (gv tc wd cc kc) G) := by
  refine rr_C.of (n := 1) fX6_isDone.1 rfl rfl (fun Z hC => ?_)
  show rr_J Z 2 0 0 (rr_MQ Z 0 0 (some (rr_b (p_done S G k))) (W_S (sv4 (nI hh) ss p1 p2) S (gv tc wd cc kc) G)) 0 [(0, .ref 0), (1, .int (nI k))] [] (W_S (sv4 (nI hh) ss p1 p2) S (gv tc wd cc kc) G)
  refine rr_go hC bk_X6_isDone_0_2 (l' := [(0, .ref 0), (1, .int (nI k))]) (st' := [.int (nI k), .ref 0]) (w' := (W_S (sv4 (nI hh) ss p1 p2) S (gv tc wd cc kc) G)) rfl ?_
  refine rr_callV hC (by decide +kernel) kl_6_56 fX6_isNowhere (c6_isNowhere (nI hh) ss p1 p2 S 8 k (by omega)) rfl rfl [0, 1, 2, 3] rfl rfl (Eq.refl 4) rfl rfl rfl (rest := []) rfl rfl ⟨Nat.zero_le _, Nat.zero_le _⟩ (w2 := (W_S (sv4 (nI hh) ss p1 p2) S (gv tc wd cc kc) G)) rfl ?_
  show rr_J Z 2 0 0 _ 5 [(0, .ref 0), (1, .int (nI k))] [.int (rr_b (decide (S 0 k = -1)))] (W_S (sv4 (nI hh) ss p1 p2) S (gv tc wd cc kc) G)
  refine rr_neb hC (off := 25) (tgt := 30) (by decide +kernel) (fun h5 => ?_) (fun h5 => ?_)
  · replace h5 := of_decide_eq_true h5
    refine rr_go hC bk_X6_isDone_30_31 (l' := [(0, .ref 0), (1, .int (nI k))]) (st' := [.int 0]) (w' := (W_S (sv4 (nI hh) ss p1 p2) S (gv tc wd cc kc) G)) rfl ?_
    exact rr_retz hC (by decide +kernel) (Or.inl rfl) (by simp [p_done, rr_b, *]) (by rfl) ⟨Nat.zero_le _, Nat.zero_le _⟩
  · replace h5 := of_decide_eq_false h5
    refine rr_go hC bk_X6_isDone_8_13 (l' := [(0, .ref 0), (1, .int (nI k))]) (st' := [.int (nI k), .ref 2]) (w' := (W_S (sv4 (nI hh) ss p1 p2) S (gv tc wd cc kc) G)) rfl ?_
    refine rr_iald hC k (by decide +kernel) rfl rfl (by omega) rfl ?_
    show rr_J Z 2 0 0 _ 14 [(0, .ref 0), (1, .int (nI k))] [.int (S 1 k)] (W_S (sv4 (nI hh) ss p1 p2) S (gv tc wd cc kc) G)
    refine rr_go hC bk_X6_isDone_14_22 (l' := [(0, .ref 0), (1, .int (nI k))]) (st' := [.int (nI k), .ref 7, .int (S 1 k)]) (w' := (W_S (sv4 (nI hh) ss p1 p2) S (gv tc wd cc kc) G)) rfl ?_
    refine rr_iald hC k (by decide +kernel) rfl rfl (by omega) rfl ?_
    show rr_J Z 2 0 0 _ 23 [(0, .ref 0), (1, .int (nI k))] [.int (G 2 k), .int (S 1 k)] (W_S (sv4 (nI hh) ss p1 p2) S (gv tc wd cc kc) G)
    refine rr_icmp_lt hC (off := 7) (tgt := 30) (by decide +kernel) (fun h23 => ?_) (fun h23 => ?_)
    · refine rr_go hC bk_X6_isDone_30_31 (l' := [(0, .ref 0), (1, .int (nI k))]) (st' := [.int 0]) (w' := (W_S (sv4 (nI hh) ss p1 p2) S (gv tc wd cc kc) G)) rfl ?_
      exact rr_retz hC (by decide +kernel) (Or.inl rfl) (by simp [p_done, rr_b, *]) (by rfl) ⟨Nat.zero_le _, Nat.zero_le _⟩
    · refine rr_go hC bk_X6_isDone_26_31 (l' := [(0, .ref 0), (1, .int (nI k))]) (st' := [.int 1]) (w' := (W_S (sv4 (nI hh) ss p1 p2) S (gv tc wd cc kc) G)) rfl ?_
      exact rr_retz hC (by decide +kernel) (Or.inr rfl) (by simp [p_done, rr_b, *]) (by rfl) ⟨Nat.zero_le _, Nat.zero_le _⟩
theorem bk_X6_forceSet_0_4 : rr_chk mX6_forceSet [(.iconst 0, 0, 0, 0), (.istore_n 1, 0, 1, 0), (.iconst 0, 0, 0, 0), (.istore_n 2, 0, 2, 0)] 0 4 = true := by decide +kernel
theorem bk_X6_forceSet_4_12 : rr_chk mX6_forceSet [(.iload_n 2, 0, 2, 0), (.aload_n 0, 0, 0, 0), (.getfield 21, 0, 6, 0), (.getfield 51, 0, 8, 9)] 4 12 = true := by decide +kernel
theorem bk_X6_forceSet_58_59 : rr_chk mX6_forceSet [(.iload_n 1, 0, 1, 0)] 58 59 = true := by decide +kernel
theorem bk_X6_forceSet_15_23 : rr_chk mX6_forceSet [(.aload_n 0, 0, 0, 0), (.getfield 21, 0, 6, 0), (.getfield 80, 0, 8, 3), (.iload_n 2, 0, 2, 0)] 15 23 = true := by decide +kernel
theorem bk_X6_forceSet_24_27 : rr_chk mX6_forceSet [(.istore_n 3, 0, 3, 0), (.aload_n 0, 0, 0, 0), (.iload_n 2, 0, 2, 0)] 24 27 = true := by decide +kernel
theorem bk_X6_forceSet_52_4 : rr_chk mX6_forceSet [(.iinc 2 1, 1, 2, 0), (.goto (-51), 0, 0, 0)] 52 4 = true := by decide +kernel
theorem bk_X6_forceSet_33_35 : rr_chk mX6_forceSet [(.iload_n 3, 0, 3, 0), (.iconst (-1), (-1), 0, 0)] 33 35 = true := by decide +kernel
theorem bk_X6_forceSet_46_4 : rr_chk mX6_forceSet [(.iload_n 1, 0, 1, 0), (.iconst 1, 1, 0, 0), (.iload_n 2, 0, 2, 0), (.ishl, 0, 0, 0), (.ior, 0, 0, 0), (.istore_n 1, 0, 1, 0), (.iinc 2 1, 1, 2, 0), (.goto (-51), 0, 0, 0)] 46 4 = true := by decide +kernel
theorem bk_X6_forceSet_38_43 : rr_chk mX6_forceSet [(.iload_n 1, 0, 1, 0), (.iload_n 3, 0, 3, 0), (.ishr, 0, 0, 0), (.iconst 1, 1, 0, 0), (.iand, 0, 0, 0)] 38 43 = true := by decide +kernel
set_option maxRecDepth 100000 in
set_option maxHeartbeats 4000000 in
theorem c6_forceSet (hh : Nat) (ss p1 p2 : Int32) (S : Nat → Nat → Int32) (tc wd cc kc : Nat) (G : Nat → Nat → Int32) (hkc : kc ≤ 6) : rr_C mX6_forceSet 2 [.ref 0] (W_S (sv4 (nI hh) ss p1 p2) S (gv tc wd cc kc) G) 0 0 (some (p_fs S G kc)) (W_S (sv4 (nI hh) ss p1 p2) S (gv tc wd cc kc) G) := by
  refine rr_C.of (n := 0) fX6_forceSet.1 rfl rfl (fun Z hC => ?_)
  show rr_J Z 4 0 0 (rr_MQ Z 0 0 (some (p_fs S G kc)) (W_S (sv4 (nI hh) ss p1 p2) S (gv tc wd cc kc) G)) 0 [(0, .ref 0)] [] (W_S (sv4 (nI hh) ss p1 p2) S (gv tc wd cc kc) G)
  refine rr_go hC bk_X6_forceSet_0_4 (l' := [(0, .ref 0), (1, .int 0), (2, .int 0)]) (st' := []) (w' := (W_S (sv4 (nI hh) ss p1 p2) S (gv tc wd cc kc) G)) rfl ?_
  have lp4 : ∀ (j k : Nat), k + j = kc → 0 ≤ k → rr_J Z 4 0 0 (rr_MQ Z 0 0 (some (p_fs S G kc)) (W_S (sv4 (nI hh) ss p1 p2) S (gv tc wd cc kc) G)) 4 [(0, .ref 0), (1, .int (p_fs S G k)), (2, .int (nI k))] [] (W_S (sv4 (nI hh) ss p1 p2) S (gv tc wd cc kc) G) := by
    intro j
    induction j with
    | zero =>
      intro k hk4 hlo4
      refine rr_go hC bk_X6_forceSet_4_12 (l' := [(0, .ref 0), (1, .int (p_fs S G k)), (2, .int (nI k))]) (st' := [.int (nI kc), .int (nI k)]) (w' := (W_S (sv4 (nI hh) ss p1 p2) S (gv tc wd cc kc) G)) rfl ?_
      refine rr_icmp_ge hC (off := 46) (tgt := 58) (by decide +kernel) (fun h12 => ?_) (fun h12 => by rw [rr_nn_le (by omega) (by omega)] at h12; omega)
      rw [rr_nn_le (by omega) (by omega)] at h12
      refine rr_go hC bk_X6_forceSet_58_59 (l' := [(0, .ref 0), (1, .int (p_fs S G k)), (2, .int (nI k))]) (st' := [.int (p_fs S G k)]) (w' := (W_S (sv4 (nI hh) ss p1 p2) S (gv tc wd cc kc) G)) rfl ?_
      exact rr_reti hC (by decide +kernel) (by rw [show k = kc by omega]) (by rfl) ⟨Nat.zero_le _, Nat.zero_le _⟩
    | succ j ih =>
      intro k hk4 hlo4
      refine rr_go hC bk_X6_forceSet_4_12 (l' := [(0, .ref 0), (1, .int (p_fs S G k)), (2, .int (nI k))]) (st' := [.int (nI kc), .int (nI k)]) (w' := (W_S (sv4 (nI hh) ss p1 p2) S (gv tc wd cc kc) G)) rfl ?_
      refine rr_icmp_ge hC (off := 46) (tgt := 58) (by decide +kernel) (fun h12 => by rw [rr_nn_le (by omega) (by omega)] at h12; omega) (fun h12 => ?_)
      rw [rr_nn_le (by omega) (by omega)] at h12
      refine rr_go hC bk_X6_forceSet_15_23 (l' := [(0, .ref 0), (1, .int (p_fs S G k)), (2, .int (nI k))]) (st' := [.int (nI k), .ref 8]) (w' := (W_S (sv4 (nI hh) ss p1 p2) S (gv tc wd cc kc) G)) rfl ?_
      refine rr_iald hC k (by decide +kernel) rfl rfl (by omega) rfl ?_
      show rr_J Z 4 0 0 _ 24 [(0, .ref 0), (1, .int (p_fs S G k)), (2, .int (nI k))] [.int (G 3 k)] (W_S (sv4 (nI hh) ss p1 p2) S (gv tc wd cc kc) G)
      refine rr_go hC bk_X6_forceSet_24_27 (l' := [(0, .ref 0), (1, .int (p_fs S G k)), (2, .int (nI k)), (3, .int (G 3 k))]) (st' := [.int (nI k), .ref 0]) (w' := (W_S (sv4 (nI hh) ss p1 p2) S (gv tc wd cc kc) G)) rfl ?_
      refine rr_callV hC (by decide +kernel) kl_6_83 fX6_isDone (c6_isDone hh ss p1 p2 S tc wd cc kc G k (by omega) (by omega)) rfl rfl [0, 1, 2, 3, 4, 5, 6, 7, 8, 9, 10] rfl rfl (Eq.refl 11) rfl rfl rfl (rest := []) rfl rfl ⟨Nat.zero_le _, Nat.zero_le _⟩ (w2 := (W_S (sv4 (nI hh) ss p1 p2) S (gv tc wd cc kc) G)) rfl ?_
      show rr_J Z 4 0 0 _ 30 [(0, .ref 0), (1, .int (p_fs S G k)), (2, .int (nI k)), (3, .int (G 3 k))] [.int (rr_b (p_done S G k))] (W_S (sv4 (nI hh) ss p1 p2) S (gv tc wd cc kc) G)
      refine rr_eqb hC (off := 22) (tgt := 52) (by decide +kernel) (fun h30 => ?_) (fun h30 => ?_)
      · refine rr_go hC bk_X6_forceSet_52_4 (l' := [(0, .ref 0), (1, .int (p_fs S G k)), (2, .int ((nI k) + 1)), (3, .int (G 3 k))]) (st' := []) (w' := (W_S (sv4 (nI hh) ss p1 p2) S (gv tc wd cc kc) G)) rfl ?_
        rw [show ((nI k) + 1 : Int32) = nI (k + 1) from nI_add k 1]
        refine rr_dr 3 (l' := [(0, .ref 0), (1, .int (p_fs S G k)), (2, .int (nI (k + 1)))]) rfl ?_
        exact rr_cast (l' := [(0, .ref 0), (1, .int (p_fs S G (k + 1))), (2, .int (nI (k + 1)))]) (by simp [p_fs, p_bit, *]) rfl (w' := (W_S (sv4 (nI hh) ss p1 p2) S (gv tc wd cc kc) G)) (by rfl) (ih (k + 1) (by omega) (by omega))
      · refine rr_go hC bk_X6_forceSet_33_35 (l' := [(0, .ref 0), (1, .int (p_fs S G k)), (2, .int (nI k)), (3, .int (G 3 k))]) (st' := [.int (-1), .int (G 3 k)]) (w' := (W_S (sv4 (nI hh) ss p1 p2) S (gv tc wd cc kc) G)) rfl ?_
        refine rr_icmp_eq hC (off := 11) (tgt := 46) (by decide +kernel) (fun h35 => ?_) (fun h35 => ?_)
        · refine rr_go hC bk_X6_forceSet_46_4 (l' := [(0, .ref 0), (1, .int ((p_fs S G k) ||| (1 <<< (nI k &&& 31)))), (2, .int ((nI k) + 1)), (3, .int (G 3 k))]) (st' := []) (w' := (W_S (sv4 (nI hh) ss p1 p2) S (gv tc wd cc kc) G)) rfl ?_
          rw [show ((nI k) + 1 : Int32) = nI (k + 1) from nI_add k 1]
          refine rr_dr 3 (l' := [(0, .ref 0), (1, .int ((p_fs S G k) ||| (1 <<< (nI k &&& 31)))), (2, .int (nI (k + 1)))]) rfl ?_
          exact rr_cast (l' := [(0, .ref 0), (1, .int (p_fs S G (k + 1))), (2, .int (nI (k + 1)))]) (by simp [p_fs, p_bit, *]) rfl (w' := (W_S (sv4 (nI hh) ss p1 p2) S (gv tc wd cc kc) G)) (by rfl) (ih (k + 1) (by omega) (by omega))
        · refine rr_go hC bk_X6_forceSet_38_43 (l' := [(0, .ref 0), (1, .int (p_fs S G k)), (2, .int (nI k)), (3, .int (G 3 k))]) (st' := [.int (((p_fs S G k) >>> (G 3 k &&& 31)) &&& 1)]) (w' := (W_S (sv4 (nI hh) ss p1 p2) S (gv tc wd cc kc) G)) rfl ?_
          refine rr_if_eq hC (off := 9) (tgt := 52) (by decide +kernel) (fun h43 => ?_) (fun h43 => ?_)
          · refine rr_go hC bk_X6_forceSet_52_4 (l' := [(0, .ref 0), (1, .int (p_fs S G k)), (2, .int ((nI k) + 1)), (3, .int (G 3 k))]) (st' := []) (w' := (W_S (sv4 (nI hh) ss p1 p2) S (gv tc wd cc kc) G)) rfl ?_
            rw [show ((nI k) + 1 : Int32) = nI (k + 1) from nI_add k 1]
            refine rr_dr 3 (l' := [(0, .ref 0), (1, .int (p_fs S G k)), (2, .int (nI (k + 1)))]) rfl ?_
            exact rr_cast (l' := [(0, .ref 0), (1, .int (p_fs S G (k + 1))), (2, .int (nI (k + 1)))]) (by simp [p_fs, p_bit, *]) rfl (w' := (W_S (sv4 (nI hh) ss p1 p2) S (gv tc wd cc kc) G)) (by rfl) (ih (k + 1) (by omega) (by omega))
          · refine rr_go hC bk_X6_forceSet_46_4 (l' := [(0, .ref 0), (1, .int ((p_fs S G k) ||| (1 <<< (nI k &&& 31)))), (2, .int ((nI k) + 1)), (3, .int (G 3 k))]) (st' := []) (w' := (W_S (sv4 (nI hh) ss p1 p2) S (gv tc wd cc kc) G)) rfl ?_
            rw [show ((nI k) + 1 : Int32) = nI (k + 1) from nI_add k 1]
            refine rr_dr 3 (l' := [(0, .ref 0), (1, .int ((p_fs S G k) ||| (1 <<< (nI k &&& 31)))), (2, .int (nI (k + 1)))]) rfl ?_
            exact rr_cast (l' := [(0, .ref 0), (1, .int (p_fs S G (k + 1))), (2, .int (nI (k + 1)))]) (by simp [p_fs, p_bit, *]) rfl (w' := (W_S (sv4 (nI hh) ss p1 p2) S (gv tc wd cc kc) G)) (by rfl) (ih (k + 1) (by omega) (by omega))
  exact rr_cast (l' := [(0, .ref 0), (1, .int (p_fs S G 0)), (2, .int (nI 0))]) (by first | rfl | (rfl)) rfl (w' := (W_S (sv4 (nI hh) ss p1 p2) S (gv tc wd cc kc) G)) (by rfl) (lp4 (kc - 0) 0 (by omega) (Nat.le_refl _))
theorem bk_X6_isInForce_0_5 : rr_chk mX6_isInForce [(.aload_n 0, 0, 0, 0), (.getfield 21, 0, 6, 0), (.iload_n 1, 0, 1, 0)] 0 5 = true := by decide +kernel
theorem bk_X6_isInForce_11_12 : rr_chk mX6_isInForce [(.aload_n 0, 0, 0, 0)] 11 12 = true := by decide +kernel
theorem bk_X6_isInForce_15_19 : rr_chk mX6_isInForce [(.iload_n 1, 0, 1, 0), (.ishr, 0, 0, 0), (.iconst 1, 1, 0, 0), (.iand, 0, 0, 0)] 15 19 = true := by decide +kernel
theorem bk_X6_isInForce_26_27 : rr_chk mX6_isInForce [(.iconst 0, 0, 0, 0)] 26 27 = true := by decide +kernel
theorem bk_X6_isInForce_22_27 : rr_chk mX6_isInForce [(.iconst 1, 1, 0, 0), (.goto 4, 0, 0, 0)] 22 27 = true := by decide +kernel
set_option maxRecDepth 100000 in
set_option maxHeartbeats 4000000 in
theorem c6_isInForce (hh : Nat) (ss p1 p2 : Int32) (S : Nat → Nat → Int32) (tc wd cc kc : Nat) (G : Nat → Nat → Int32) (k : Nat) (hkc : kc ≤ 6) (hk : k < kc) : rr_C mX6_isInForce 3 [.ref 0, .int (nI k)] (W_S (sv4 (nI hh) ss p1 p2) S (gv tc wd cc kc) G) 0 0 (some (rr_b (!decide (p_bit (p_fs S G kc) (nI k) = 0)))) (W_S (sv4 (nI hh) ss p1 p2) S (gv tc wd cc kc) G) := by
  refine rr_C.of (n := 1) fX6_isInForce.1 rfl rfl (fun Z hC => ?_)
  show rr_J Z 2 0 0 (rr_MQ Z 0 0 (some (rr_b (!decide (p_bit (p_fs S G kc) (nI k) = 0)))) (W_S (sv4 (nI hh) ss p1 p2) S (gv tc wd cc kc) G)) 0 [(0, .ref 0), (1, .int (nI k))] [] (W_S (sv4 (nI hh) ss p1 p2) S (gv tc wd cc kc) G)
  refine rr_go hC bk_X6_isInForce_0_5 (l' := [(0, .ref 0), (1, .int (nI k))]) (st' := [.int (nI k), .ref 4]) (w' := (W_S (sv4 (nI hh) ss p1 p2) S (gv tc wd cc kc) G)) rfl ?_
  refine rr_callV hC (by decide +kernel) kl_6_68 fX8_hasClause (c8_hasClause tc wd cc kc G (nI k)) rfl rfl [4, 5, 6, 7, 8, 9, 10] rfl rfl (Eq.refl 7) rfl rfl rfl (rest := []) rfl rfl ⟨Nat.zero_le _, Nat.zero_le _⟩ (w2 := (W_S (sv4 (nI hh) ss p1 p2) S (gv tc wd cc kc) G)) rfl ?_
  show rr_J Z 2 0 0 _ 8 [(0, .ref 0), (1, .int (nI k))] [.int (rr_b (p_in (nI k) (nI kc)))] (W_S (sv4 (nI hh) ss p1 p2) S (gv tc wd cc kc) G)
  refine rr_eqb hC (off := 18) (tgt := 26) (by decide +kernel) (fun h8 => by  rw [p_in_n (by omega) (by omega)] at h8; simp at h8; omega) (fun h8 => ?_)
  refine rr_go hC bk_X6_isInForce_11_12 (l' := [(0, .ref 0), (1, .int (nI k))]) (st' := [.ref 0]) (w' := (W_S (sv4 (nI hh) ss p1 p2) S (gv tc wd cc kc) G)) rfl ?_
  refine rr_callV hC (by decide +kernel) kl_6_86 fX6_forceSet (c6_forceSet hh ss p1 p2 S tc wd cc kc G (by omega)) rfl rfl [0, 1, 2, 3, 4, 5, 6, 7, 8, 9, 10] rfl rfl (Eq.refl 11) rfl rfl rfl (rest := []) rfl rfl ⟨Nat.zero_le _, Nat.zero_le _⟩ (w2 := (W_S (sv4 (nI hh) ss p1 p2) S (gv tc wd cc kc) G)) rfl ?_
  show rr_J Z 2 0 0 _ 15 [(0, .ref 0), (1, .int (nI k))] [.int (p_fs S G kc)] (W_S (sv4 (nI hh) ss p1 p2) S (gv tc wd cc kc) G)
  refine rr_go hC bk_X6_isInForce_15_19 (l' := [(0, .ref 0), (1, .int (nI k))]) (st' := [.int (((p_fs S G kc) >>> (nI k &&& 31)) &&& 1)]) (w' := (W_S (sv4 (nI hh) ss p1 p2) S (gv tc wd cc kc) G)) rfl ?_
  refine rr_if_eq hC (off := 7) (tgt := 26) (by decide +kernel) (fun h19 => ?_) (fun h19 => ?_)
  · refine rr_go hC bk_X6_isInForce_26_27 (l' := [(0, .ref 0), (1, .int (nI k))]) (st' := [.int 0]) (w' := (W_S (sv4 (nI hh) ss p1 p2) S (gv tc wd cc kc) G)) rfl ?_
    exact rr_retz hC (by decide +kernel) (Or.inl rfl) (by simp [p_bit, rr_b, *]) (by rfl) ⟨Nat.zero_le _, Nat.zero_le _⟩
  · refine rr_go hC bk_X6_isInForce_22_27 (l' := [(0, .ref 0), (1, .int (nI k))]) (st' := [.int 1]) (w' := (W_S (sv4 (nI hh) ss p1 p2) S (gv tc wd cc kc) G)) rfl ?_
    exact rr_retz hC (by decide +kernel) (Or.inr rfl) (by simp [p_bit, rr_b, *]) (by rfl) ⟨Nat.zero_le _, Nat.zero_le _⟩
theorem bk_X6_layAll_0_1 : rr_chk mX6_layAll [(.aload_n 0, 0, 0, 0)] 0 1 = true := by decide +kernel
theorem bk_X6_layAll_4_11 : rr_chk mX6_layAll [(.aload_n 0, 0, 0, 0), (.iload_n 1, 0, 1, 0), (.putfield 28, 0, 6, 4), (.iconst 0, 0, 0, 0), (.istore_n 2, 0, 2, 0)] 4 11 = true := by decide +kernel
theorem bk_X6_layAll_11_19 : rr_chk mX6_layAll [(.iload_n 2, 0, 2, 0), (.aload_n 0, 0, 0, 0), (.getfield 21, 0, 6, 0), (.getfield 51, 0, 8, 9)] 11 19 = true := by decide +kernel
theorem bk_X6_layAll_22_30 : rr_chk mX6_layAll [(.iload_n 2, 0, 2, 0), (.aload_n 0, 0, 0, 0), (.getfield 21, 0, 6, 0), (.getfield 74, 0, 8, 8)] 22 30 = true := by decide +kernel
theorem bk_X6_layAll_33_39 : rr_chk mX6_layAll [(.aload_n 0, 0, 0, 0), (.getfield 9, 0, 6, 1), (.iload_n 2, 0, 2, 0), (.iload_n 2, 0, 2, 0)] 33 39 = true := by decide +kernel
theorem bk_X6_layAll_40_53 : rr_chk mX6_layAll [(.aload_n 0, 0, 0, 0), (.getfield 15, 0, 6, 2), (.iload_n 2, 0, 2, 0), (.aload_n 0, 0, 0, 0), (.getfield 21, 0, 6, 0), (.getfield 77, 0, 8, 2), (.iload_n 2, 0, 2, 0)] 40 53 = true := by decide +kernel
theorem bk_X6_layAll_55_11 : rr_chk mX6_layAll [(.iinc 2 1, 1, 2, 0), (.goto (-47), 0, 0, 0)] 55 11 = true := by decide +kernel
set_option maxRecDepth 100000 in
set_option maxHeartbeats 4000000 in
theorem c6_layAll (hh : Nat) (ss p1 p2 : Int32) (S : Nat → Nat → Int32) (tc wd cc kc : Nat) (G : Nat → Nat → Int32) (b : Nat) (hcc : cc ≤ 9) (hkc : kc ≤ 6) : rr_C mX6_layAll 2 [.ref 0, .int (nI b)] (W_S (sv4 (nI hh) ss p1 p2) S (gv tc wd cc kc) G) 0 0 none (W_S (sv4 (nI b) (-1) 0 0) (p_lay (p_rsS S 6) G (min kc cc)) (gv tc wd cc kc) G) := by
  refine rr_C.of (n := 1) fX6_layAll.1 rfl rfl (fun Z hC => ?_)
  show rr_J Z 3 0 0 (rr_MQ Z 0 0 none (W_S (sv4 (nI b) (-1) 0 0) (p_lay (p_rsS S 6) G (min kc cc)) (gv tc wd cc kc) G)) 0 [(0, .ref 0), (1, .int (nI b))] [] (W_S (sv4 (nI hh) ss p1 p2) S (gv tc wd cc kc) G)
  refine rr_go hC bk_X6_layAll_0_1 (l' := [(0, .ref 0), (1, .int (nI b))]) (st' := [.ref 0]) (w' := (W_S (sv4 (nI hh) ss p1 p2) S (gv tc wd cc kc) G)) rfl ?_
  refine rr_callV hC (by decide +kernel) kl_6_25 fX6_restart (c6_restart hh ss p1 p2 S tc wd cc kc G ) rfl rfl [0, 1, 2, 3, 4, 5, 6, 7, 8, 9, 10] rfl rfl (Eq.refl 11) rfl rfl rfl (rest := []) rfl rfl ⟨Nat.zero_le _, Nat.zero_le _⟩ (w2 := (W_S (sv4 (nI 0) (-1) 0 0) (p_rsS S 6) (gv tc wd cc kc) G)) rfl ?_
  show rr_J Z 3 0 0 _ 4 [(0, .ref 0), (1, .int (nI b))] [] (W_S (sv4 (nI 0) (-1) 0 0) (p_rsS S 6) (gv tc wd cc kc) G)
  refine rr_go hC bk_X6_layAll_4_11 (l' := [(0, .ref 0), (1, .int (nI b)), (2, .int 0)]) (st' := []) (w' := (W_S (upd (sv4 (nI 0) (-1) 0 0) 0 (nI b)) (p_rsS S 6) (gv tc wd cc kc) G)) rfl ?_
  have lp11 : ∀ (j k : Nat), k + j = min kc cc → 0 ≤ k → rr_J Z 3 0 0 (rr_MQ Z 0 0 none (W_S (sv4 (nI b) (-1) 0 0) (p_lay (p_rsS S 6) G (min kc cc)) (gv tc wd cc kc) G)) 11 [(0, .ref 0), (1, .int (nI b)), (2, .int (nI k))] [] (W_S (sv4 (nI b) (-1) 0 0) (p_lay (p_rsS S 6) G k) (gv tc wd cc kc) G) := by
    intro j
    induction j with
    | zero =>
      intro k hk11 hlo11
      refine rr_go hC bk_X6_layAll_11_19 (l' := [(0, .ref 0), (1, .int (nI b)), (2, .int (nI k))]) (st' := [.int (nI kc), .int (nI k)]) (w' := (W_S (sv4 (nI b) (-1) 0 0) (p_lay (p_rsS S 6) G k) (gv tc wd cc kc) G)) rfl ?_
      refine rr_icmp_ge hC (off := 42) (tgt := 61) (by decide +kernel) (fun h19 => ?_) (fun h19 => ?_)
      · rw [rr_nn_le (by omega) (by omega)] at h19
        exact rr_retv hC (by decide +kernel) (by rw [show k = min kc cc by omega]) ⟨Nat.zero_le _, Nat.zero_le _⟩
      · rw [rr_nn_le (by omega) (by omega)] at h19
        refine rr_go hC bk_X6_layAll_22_30 (l' := [(0, .ref 0), (1, .int (nI b)), (2, .int (nI k))]) (st' := [.int (nI cc), .int (nI k)]) (w' := (W_S (sv4 (nI b) (-1) 0 0) (p_lay (p_rsS S 6) G k) (gv tc wd cc kc) G)) rfl ?_
        refine rr_icmp_ge hC (off := 31) (tgt := 61) (by decide +kernel) (fun h30 => ?_) (fun h30 => by rw [rr_nn_le (by omega) (by omega)] at h30; omega)
        rw [rr_nn_le (by omega) (by omega)] at h30
        exact rr_retv hC (by decide +kernel) (by rw [show k = min kc cc by omega]) ⟨Nat.zero_le _, Nat.zero_le _⟩
    | succ j ih =>
      intro k hk11 hlo11
      refine rr_go hC bk_X6_layAll_11_19 (l' := [(0, .ref 0), (1, .int (nI b)), (2, .int (nI k))]) (st' := [.int (nI kc), .int (nI k)]) (w' := (W_S (sv4 (nI b) (-1) 0 0) (p_lay (p_rsS S 6) G k) (gv tc wd cc kc) G)) rfl ?_
      refine rr_icmp_ge hC (off := 42) (tgt := 61) (by decide +kernel) (fun h19 => by rw [rr_nn_le (by omega) (by omega)] at h19; omega) (fun h19 => ?_)
      rw [rr_nn_le (by omega) (by omega)] at h19
      refine rr_go hC bk_X6_layAll_22_30 (l' := [(0, .ref 0), (1, .int (nI b)), (2, .int (nI k))]) (st' := [.int (nI cc), .int (nI k)]) (w' := (W_S (sv4 (nI b) (-1) 0 0) (p_lay (p_rsS S 6) G k) (gv tc wd cc kc) G)) rfl ?_
      refine rr_icmp_ge hC (off := 31) (tgt := 61) (by decide +kernel) (fun h30 => by rw [rr_nn_le (by omega) (by omega)] at h30; omega) (fun h30 => ?_)
      rw [rr_nn_le (by omega) (by omega)] at h30
      refine rr_go hC bk_X6_layAll_33_39 (l' := [(0, .ref 0), (1, .int (nI b)), (2, .int (nI k))]) (st' := [.int (nI k), .int (nI k), .ref 1]) (w' := (W_S (sv4 (nI b) (-1) 0 0) (p_lay (p_rsS S 6) G k) (gv tc wd cc kc) G)) rfl ?_
      refine rr_iast hC k (by decide +kernel) rfl rfl (by omega) rfl (w' := (W_S (sv4 (nI b) (-1) 0 0) (va_up (p_lay (p_rsS S 6) G k) 0 (upd ((p_lay (p_rsS S 6) G k) 0) k (nI k))) (gv tc wd cc kc) G)) rfl ?_
      show rr_J Z 3 0 0 _ 40 [(0, .ref 0), (1, .int (nI b)), (2, .int (nI k))] [] (W_S (sv4 (nI b) (-1) 0 0) (va_up (p_lay (p_rsS S 6) G k) 0 (upd ((p_lay (p_rsS S 6) G k) 0) k (nI k))) (gv tc wd cc kc) G)
      refine rr_go hC bk_X6_layAll_40_53 (l' := [(0, .ref 0), (1, .int (nI b)), (2, .int (nI k))]) (st' := [.int (nI k), .ref 7, .int (nI k), .ref 2]) (w' := (W_S (sv4 (nI b) (-1) 0 0) (va_up (p_lay (p_rsS S 6) G k) 0 (upd ((p_lay (p_rsS S 6) G k) 0) k (nI k))) (gv tc wd cc kc) G)) rfl ?_
      refine rr_iald hC k (by decide +kernel) rfl rfl (by omega) rfl ?_
      show rr_J Z 3 0 0 _ 54 [(0, .ref 0), (1, .int (nI b)), (2, .int (nI k))] [.int (G 2 k), .int (nI k), .ref 2] (W_S (sv4 (nI b) (-1) 0 0) (va_up (p_lay (p_rsS S 6) G k) 0 (upd ((p_lay (p_rsS S 6) G k) 0) k (nI k))) (gv tc wd cc kc) G)
      refine rr_iast hC k (by decide +kernel) rfl rfl (by omega) rfl (w' := (W_S (sv4 (nI b) (-1) 0 0) (va_up (va_up (p_lay (p_rsS S 6) G k) 0 (upd ((p_lay (p_rsS S 6) G k) 0) k (nI k))) 1 (upd ((p_lay (p_rsS S 6) G k) 1) k (G 2 k))) (gv tc wd cc kc) G)) rfl ?_
      show rr_J Z 3 0 0 _ 55 [(0, .ref 0), (1, .int (nI b)), (2, .int (nI k))] [] (W_S (sv4 (nI b) (-1) 0 0) (va_up (va_up (p_lay (p_rsS S 6) G k) 0 (upd ((p_lay (p_rsS S 6) G k) 0) k (nI k))) 1 (upd ((p_lay (p_rsS S 6) G k) 1) k (G 2 k))) (gv tc wd cc kc) G)
      refine rr_go hC bk_X6_layAll_55_11 (l' := [(0, .ref 0), (1, .int (nI b)), (2, .int ((nI k) + 1))]) (st' := []) (w' := (W_S (sv4 (nI b) (-1) 0 0) (va_up (va_up (p_lay (p_rsS S 6) G k) 0 (upd ((p_lay (p_rsS S 6) G k) 0) k (nI k))) 1 (upd ((p_lay (p_rsS S 6) G k) 1) k (G 2 k))) (gv tc wd cc kc) G)) rfl ?_
      rw [show ((nI k) + 1 : Int32) = nI (k + 1) from nI_add k 1]
      exact rr_cast (l' := [(0, .ref 0), (1, .int (nI b)), (2, .int (nI (k + 1)))]) (by rfl) rfl (w' := (W_S (sv4 (nI b) (-1) 0 0) (p_lay (p_rsS S 6) G (k + 1)) (gv tc wd cc kc) G)) (by simp [p_lay]) (ih (k + 1) (by omega) (by omega))
  exact rr_cast (l' := [(0, .ref 0), (1, .int (nI b)), (2, .int (nI 0))]) (by first | rfl | (rfl)) rfl (w' := (W_S (sv4 (nI b) (-1) 0 0) (p_lay (p_rsS S 6) G 0) (gv tc wd cc kc) G)) (by rfl) (lp11 ((min kc cc) - 0) 0 (by omega) (Nat.le_refl _))
theorem bk_X6_age_0_9 : rr_chk mX6_age [(.aload_n 0, 0, 0, 0), (.getfield 21, 0, 6, 0), (.aload_n 0, 0, 0, 0), (.getfield 9, 0, 6, 1), (.iload_n 1, 0, 1, 0)] 0 9 = true := by decide +kernel
theorem bk_X6_age_10_14 : rr_chk mX6_age [(.aload_n 0, 0, 0, 0), (.getfield 28, 0, 6, 4)] 10 14 = true := by decide +kernel
theorem bk_X6_age_28_33 : rr_chk mX6_age [(.aload_n 0, 0, 0, 0), (.getfield 32, 0, 6, 5), (.iload_n 1, 0, 1, 0)] 28 33 = true := by decide +kernel
theorem bk_X6_age_62_64 : rr_chk mX6_age [(.aload_n 0, 0, 0, 0), (.iload_n 1, 0, 1, 0)] 62 64 = true := by decide +kernel
theorem bk_X6_age_70_76 : rr_chk mX6_age [(.aload_n 0, 0, 0, 0), (.getfield 18, 0, 6, 3), (.iload_n 1, 0, 1, 0), (.dup2, 0, 0, 0)] 70 76 = true := by decide +kernel
theorem bk_X6_age_77_79 : rr_chk mX6_age [(.iconst 1, 1, 0, 0), (.iadd, 0, 0, 0)] 77 79 = true := by decide +kernel
theorem bk_X6_age_80_85 : rr_chk mX6_age [(.aload_n 0, 0, 0, 0), (.getfield 18, 0, 6, 3), (.iload_n 1, 0, 1, 0)] 80 85 = true := by decide +kernel
theorem bk_X6_age_86_93 : rr_chk mX6_age [(.aload_n 0, 0, 0, 0), (.getfield 21, 0, 6, 0), (.getfield 97, 0, 8, 7)] 86 93 = true := by decide +kernel
theorem bk_X6_age_96_98 : rr_chk mX6_age [(.aload_n 0, 0, 0, 0), (.iload_n 1, 0, 1, 0)] 96 98 = true := by decide +kernel
theorem bk_X6_age_36_42 : rr_chk mX6_age [(.aload_n 0, 0, 0, 0), (.getfield 15, 0, 6, 2), (.iload_n 1, 0, 1, 0), (.dup2, 0, 0, 0)] 36 42 = true := by decide +kernel
theorem bk_X6_age_43_45 : rr_chk mX6_age [(.iconst 1, 1, 0, 0), (.iadd, 0, 0, 0)] 43 45 = true := by decide +kernel
theorem bk_X6_age_46_48 : rr_chk mX6_age [(.aload_n 0, 0, 0, 0), (.iload_n 1, 0, 1, 0)] 46 48 = true := by decide +kernel
theorem bk_X6_age_54_101 : rr_chk mX6_age [(.aload_n 0, 0, 0, 0), (.iconst (-1), (-1), 0, 0), (.putfield 32, 0, 6, 5), (.goto 42, 0, 0, 0)] 54 101 = true := by decide +kernel
theorem bk_X6_age_20_22 : rr_chk mX6_age [(.aload_n 0, 0, 0, 0), (.iload_n 1, 0, 1, 0)] 20 22 = true := by decide +kernel
theorem bk_X6_age_25_101 : rr_chk mX6_age [(.goto 76, 0, 0, 0)] 25 101 = true := by decide +kernel
set_option maxRecDepth 100000 in
set_option maxHeartbeats 4000000 in
theorem c6_age (hh : Nat) (ss p1 p2 : Int32) (S : Nat → Nat → Int32) (tc wd cc kc : Nat) (G : Nat → Nat → Int32) (k c : Nat) (htc : tc ≤ 12) (hcc : cc ≤ 9) (hkc : kc ≤ 6) (hh9 : hh < 100000) (hk : k < kc) (hc : c < cc) (hS0 : S 0 k = nI c) : rr_C mX6_age 2 [.ref 0, .int (nI k)] (W_S (sv4 (nI hh) ss p1 p2) S (gv tc wd cc kc) G) 0 0 none (W_S (sv4 (nI hh) ((p_age G tc wd hh k S ss).2) p1 p2) ((p_age G tc wd hh k S ss).1) (gv tc wd cc kc) G) := by
  refine rr_C.of (n := 1) fX6_age.1 rfl rfl (fun Z hC => ?_)
  show rr_J Z 2 0 0 (rr_MQ Z 0 0 none (W_S (sv4 (nI hh) ((p_age G tc wd hh k S ss).2) p1 p2) ((p_age G tc wd hh k S ss).1) (gv tc wd cc kc) G)) 0 [(0, .ref 0), (1, .int (nI k))] [] (W_S (sv4 (nI hh) ss p1 p2) S (gv tc wd cc kc) G)
  have hcl : (nI c).toNatClampNeg = c := nI_clamp (by omega)
  refine rr_go hC bk_X6_age_0_9 (l' := [(0, .ref 0), (1, .int (nI k))]) (st' := [.int (nI k), .ref 1, .ref 4]) (w' := (W_S (sv4 (nI hh) ss p1 p2) S (gv tc wd cc kc) G)) rfl ?_
  refine rr_iald hC k (by decide +kernel) rfl rfl (by omega) rfl ?_
  show rr_J Z 2 0 0 _ 10 [(0, .ref 0), (1, .int (nI k))] [.int (S 0 k), .ref 4] (W_S (sv4 (nI hh) ss p1 p2) S (gv tc wd cc kc) G)
  rw [hS0]
  refine rr_go hC bk_X6_age_10_14 (l' := [(0, .ref 0), (1, .int (nI k))]) (st' := [.int (nI hh), .int (nI c), .ref 4]) (w' := (W_S (sv4 (nI hh) ss p1 p2) S (gv tc wd cc kc) G)) rfl ?_
  refine rr_callV hC (by decide +kernel) kl_6_60 fX8_isWet (c8_isWet tc wd cc kc G c hh (by omega) (by omega) (by omega) (by omega)) rfl rfl [4, 5, 6, 7, 8, 9, 10] rfl rfl (Eq.refl 7) rfl rfl rfl (rest := []) rfl rfl ⟨Nat.zero_le _, Nat.zero_le _⟩ (w2 := (W_S (sv4 (nI hh) ss p1 p2) S (gv tc wd cc kc) G)) rfl ?_
  show rr_J Z 2 0 0 _ 17 [(0, .ref 0), (1, .int (nI k))] [.int (rr_b (p_wet G tc c hh))] (W_S (sv4 (nI hh) ss p1 p2) S (gv tc wd cc kc) G)
  refine rr_eqb hC (off := 11) (tgt := 28) (by decide +kernel) (fun h17 => ?_) (fun h17 => ?_)
  · refine rr_go hC bk_X6_age_28_33 (l' := [(0, .ref 0), (1, .int (nI k))]) (st' := [.int (nI k), .int ss]) (w' := (W_S (sv4 (nI hh) ss p1 p2) S (gv tc wd cc kc) G)) rfl ?_
    refine rr_icmp_ne hC (off := 29) (tgt := 62) (by decide +kernel) (fun h33 => ?_) (fun h33 => ?_)
    · refine rr_go hC bk_X6_age_62_64 (l' := [(0, .ref 0), (1, .int (nI k))]) (st' := [.int (nI k), .ref 0]) (w' := (W_S (sv4 (nI hh) ss p1 p2) S (gv tc wd cc kc) G)) rfl ?_
      refine rr_callV hC (by decide +kernel) kl_6_83 fX6_isDone (c6_isDone hh ss p1 p2 S tc wd cc kc G k (by omega) (by omega)) rfl rfl [0, 1, 2, 3, 4, 5, 6, 7, 8, 9, 10] rfl rfl (Eq.refl 11) rfl rfl rfl (rest := []) rfl rfl ⟨Nat.zero_le _, Nat.zero_le _⟩ (w2 := (W_S (sv4 (nI hh) ss p1 p2) S (gv tc wd cc kc) G)) rfl ?_
      show rr_J Z 2 0 0 _ 67 [(0, .ref 0), (1, .int (nI k))] [.int (rr_b (p_done S G k))] (W_S (sv4 (nI hh) ss p1 p2) S (gv tc wd cc kc) G)
      refine rr_eqb hC (off := 34) (tgt := 101) (by decide +kernel) (fun h67 => ?_) (fun h67 => ?_)
      · exact rr_retv hC (by decide +kernel) (by first | (simp [p_age, hS0, hcl, *]; done) | (simp [p_age, hS0, hcl, *]; rfl)) ⟨Nat.zero_le _, Nat.zero_le _⟩
      · refine rr_go hC bk_X6_age_70_76 (l' := [(0, .ref 0), (1, .int (nI k))]) (st' := [.int (nI k), .ref 3, .int (nI k), .ref 3]) (w' := (W_S (sv4 (nI hh) ss p1 p2) S (gv tc wd cc kc) G)) rfl ?_
        refine rr_iald hC k (by decide +kernel) rfl rfl (by omega) rfl ?_
        show rr_J Z 2 0 0 _ 77 [(0, .ref 0), (1, .int (nI k))] [.int (S 2 k), .int (nI k), .ref 3] (W_S (sv4 (nI hh) ss p1 p2) S (gv tc wd cc kc) G)
        refine rr_go hC bk_X6_age_77_79 (l' := [(0, .ref 0), (1, .int (nI k))]) (st' := [.int ((S 2 k) + 1), .int (nI k), .ref 3]) (w' := (W_S (sv4 (nI hh) ss p1 p2) S (gv tc wd cc kc) G)) rfl ?_
        refine rr_iast hC k (by decide +kernel) rfl rfl (by omega) rfl (w' := (W_S (sv4 (nI hh) ss p1 p2) (va_up S 2 (upd (S 2) k ((S 2 k) + 1))) (gv tc wd cc kc) G)) rfl ?_
        show rr_J Z 2 0 0 _ 80 [(0, .ref 0), (1, .int (nI k))] [] (W_S (sv4 (nI hh) ss p1 p2) (va_up S 2 (upd (S 2) k ((S 2 k) + 1))) (gv tc wd cc kc) G)
        refine rr_go hC bk_X6_age_80_85 (l' := [(0, .ref 0), (1, .int (nI k))]) (st' := [.int (nI k), .ref 3]) (w' := (W_S (sv4 (nI hh) ss p1 p2) (va_up S 2 (upd (S 2) k ((S 2 k) + 1))) (gv tc wd cc kc) G)) rfl ?_
        refine rr_iald hC k (by decide +kernel) rfl rfl (by omega) rfl ?_
        show rr_J Z 2 0 0 _ 86 [(0, .ref 0), (1, .int (nI k))] [.int ((upd (S 2) k ((S 2 k) + 1)) k)] (W_S (sv4 (nI hh) ss p1 p2) (va_up S 2 (upd (S 2) k ((S 2 k) + 1))) (gv tc wd cc kc) G)
        rw [pk_us]
        show rr_J Z 2 0 0 _ 86 [(0, .ref 0), (1, .int (nI k))] [.int ((S 2 k) + 1)] (W_S (sv4 (nI hh) ss p1 p2) (va_up S 2 (upd (S 2) k ((S 2 k) + 1))) (gv tc wd cc kc) G)
        refine rr_go hC bk_X6_age_86_93 (l' := [(0, .ref 0), (1, .int (nI k))]) (st' := [.int (nI wd), .int ((S 2 k) + 1)]) (w' := (W_S (sv4 (nI hh) ss p1 p2) (va_up S 2 (upd (S 2) k ((S 2 k) + 1))) (gv tc wd cc kc) G)) rfl ?_
        refine rr_icmp_le hC (off := 8) (tgt := 101) (by decide +kernel) (fun h93 => ?_) (fun h93 => ?_)
        · exact rr_retv hC (by decide +kernel) (by first | (simp [p_age, hS0, hcl, *]; done) | (simp [p_age, hS0, hcl, *]; rfl)) ⟨Nat.zero_le _, Nat.zero_le _⟩
        · refine rr_go hC bk_X6_age_96_98 (l' := [(0, .ref 0), (1, .int (nI k))]) (st' := [.int (nI k), .ref 0]) (w' := (W_S (sv4 (nI hh) ss p1 p2) (va_up S 2 (upd (S 2) k ((S 2 k) + 1))) (gv tc wd cc kc) G)) rfl ?_
          refine rr_callV hC (by decide +kernel) kl_6_41 fX6_remove (c6_remove (nI hh) ss p1 p2 (va_up S 2 (upd (S 2) k ((S 2 k) + 1))) 8 k (by omega)) rfl rfl [0, 1, 2, 3] rfl rfl (Eq.refl 4) rfl rfl rfl (rest := []) rfl rfl ⟨Nat.zero_le _, Nat.zero_le _⟩ (w2 := (W_S (sv4 (nI hh) (p_rms ss k) p1 p2) (p_rmS (va_up S 2 (upd (S 2) k ((S 2 k) + 1))) k) (gv tc wd cc kc) G)) rfl ?_
          show rr_J Z 2 0 0 _ 101 [(0, .ref 0), (1, .int (nI k))] [] (W_S (sv4 (nI hh) (p_rms ss k) p1 p2) (p_rmS (va_up S 2 (upd (S 2) k ((S 2 k) + 1))) k) (gv tc wd cc kc) G)
          exact rr_retv hC (by decide +kernel) (by first | (simp [p_age, hS0, hcl, *]; done) | (simp [p_age, hS0, hcl, *]; rfl)) ⟨Nat.zero_le _, Nat.zero_le _⟩
    · refine rr_go hC bk_X6_age_36_42 (l' := [(0, .ref 0), (1, .int (nI k))]) (st' := [.int (nI k), .ref 2, .int (nI k), .ref 2]) (w' := (W_S (sv4 (nI hh) ss p1 p2) S (gv tc wd cc kc) G)) rfl ?_
      refine rr_iald hC k (by decide +kernel) rfl rfl (by omega) rfl ?_
      show rr_J Z 2 0 0 _ 43 [(0, .ref 0), (1, .int (nI k))] [.int (S 1 k), .int (nI k), .ref 2] (W_S (sv4 (nI hh) ss p1 p2) S (gv tc wd cc kc) G)
      refine rr_go hC bk_X6_age_43_45 (l' := [(0, .ref 0), (1, .int (nI k))]) (st' := [.int ((S 1 k) + 1), .int (nI k), .ref 2]) (w' := (W_S (sv4 (nI hh) ss p1 p2) S (gv tc wd cc kc) G)) rfl ?_
      refine rr_iast hC k (by decide +kernel) rfl rfl (by omega) rfl (w' := (W_S (sv4 (nI hh) ss p1 p2) (va_up S 1 (upd (S 1) k ((S 1 k) + 1))) (gv tc wd cc kc) G)) rfl ?_
      show rr_J Z 2 0 0 _ 46 [(0, .ref 0), (1, .int (nI k))] [] (W_S (sv4 (nI hh) ss p1 p2) (va_up S 1 (upd (S 1) k ((S 1 k) + 1))) (gv tc wd cc kc) G)
      refine rr_go hC bk_X6_age_46_48 (l' := [(0, .ref 0), (1, .int (nI k))]) (st' := [.int (nI k), .ref 0]) (w' := (W_S (sv4 (nI hh) ss p1 p2) (va_up S 1 (upd (S 1) k ((S 1 k) + 1))) (gv tc wd cc kc) G)) rfl ?_
      refine rr_callV hC (by decide +kernel) kl_6_83 fX6_isDone (c6_isDone hh ss p1 p2 (va_up S 1 (upd (S 1) k ((S 1 k) + 1))) tc wd cc kc G k (by omega) (by omega)) rfl rfl [0, 1, 2, 3, 4, 5, 6, 7, 8, 9, 10] rfl rfl (Eq.refl 11) rfl rfl rfl (rest := []) rfl rfl ⟨Nat.zero_le _, Nat.zero_le _⟩ (w2 := (W_S (sv4 (nI hh) ss p1 p2) (va_up S 1 (upd (S 1) k ((S 1 k) + 1))) (gv tc wd cc kc) G)) rfl ?_
      show rr_J Z 2 0 0 _ 51 [(0, .ref 0), (1, .int (nI k))] [.int (rr_b (p_done (va_up S 1 (upd (S 1) k ((S 1 k) + 1))) G k))] (W_S (sv4 (nI hh) ss p1 p2) (va_up S 1 (upd (S 1) k ((S 1 k) + 1))) (gv tc wd cc kc) G)
      refine rr_eqb hC (off := 50) (tgt := 101) (by decide +kernel) (fun h51 => ?_) (fun h51 => ?_)
      · exact rr_retv hC (by decide +kernel) (by first | (simp [p_age, hS0, hcl, *]; done) | (simp [p_age, hS0, hcl, *]; rfl)) ⟨Nat.zero_le _, Nat.zero_le _⟩
      · refine rr_go hC bk_X6_age_54_101 (l' := [(0, .ref 0), (1, .int (nI k))]) (st' := []) (w' := (W_S (upd (sv4 (nI hh) ss p1 p2) 1 (-1)) (va_up S 1 (upd (S 1) k ((S 1 k) + 1))) (gv tc wd cc kc) G)) rfl ?_
        exact rr_retv hC (by decide +kernel) (by first | (simp [p_age, hS0, hcl, *]; done) | (simp [p_age, hS0, hcl, *]; rfl)) ⟨Nat.zero_le _, Nat.zero_le _⟩
  · refine rr_go hC bk_X6_age_20_22 (l' := [(0, .ref 0), (1, .int (nI k))]) (st' := [.int (nI k), .ref 0]) (w' := (W_S (sv4 (nI hh) ss p1 p2) S (gv tc wd cc kc) G)) rfl ?_
    refine rr_callV hC (by decide +kernel) kl_6_41 fX6_remove (c6_remove (nI hh) ss p1 p2 S 8 k (by omega)) rfl rfl [0, 1, 2, 3] rfl rfl (Eq.refl 4) rfl rfl rfl (rest := []) rfl rfl ⟨Nat.zero_le _, Nat.zero_le _⟩ (w2 := (W_S (sv4 (nI hh) (p_rms ss k) p1 p2) (p_rmS S k) (gv tc wd cc kc) G)) rfl ?_
    show rr_J Z 2 0 0 _ 25 [(0, .ref 0), (1, .int (nI k))] [] (W_S (sv4 (nI hh) (p_rms ss k) p1 p2) (p_rmS S k) (gv tc wd cc kc) G)
    refine rr_go hC bk_X6_age_25_101 (l' := [(0, .ref 0), (1, .int (nI k))]) (st' := []) (w' := (W_S (sv4 (nI hh) (p_rms ss k) p1 p2) (p_rmS S k) (gv tc wd cc kc) G)) rfl ?_
    exact rr_retv hC (by decide +kernel) (by first | (simp [p_age, hS0, hcl, *]; done) | (simp [p_age, hS0, hcl, *]; rfl)) ⟨Nat.zero_le _, Nat.zero_le _⟩
theorem bk_X6_passHour_0_2 : rr_chk mX6_passHour [(.iconst 0, 0, 0, 0), (.istore_n 1, 0, 1, 0)] 0 2 = true := by decide +kernel
theorem bk_X6_passHour_2_10 : rr_chk mX6_passHour [(.iload_n 1, 0, 1, 0), (.aload_n 0, 0, 0, 0), (.getfield 21, 0, 6, 0), (.getfield 51, 0, 8, 9)] 2 10 = true := by decide +kernel
theorem bk_X6_passHour_32_43 : rr_chk mX6_passHour [(.aload_n 0, 0, 0, 0), (.dup, 0, 0, 0), (.getfield 28, 0, 6, 4), (.iconst 1, 1, 0, 0), (.iadd, 0, 0, 0), (.putfield 28, 0, 6, 4), (.aload_n 0, 0, 0, 0)] 32 43 = true := by decide +kernel
theorem bk_X6_passHour_46_58 : rr_chk mX6_passHour [(.istore_n 1, 0, 1, 0), (.aload_n 0, 0, 0, 0), (.dup, 0, 0, 0), (.getfield 35, 0, 6, 6), (.aload_n 0, 0, 0, 0), (.getfield 21, 0, 6, 0), (.iload_n 1, 0, 1, 0), (.iconst 1, 1, 0, 0)] 46 58 = true := by decide +kernel
theorem bk_X6_passHour_61_76 : rr_chk mX6_passHour [(.iadd, 0, 0, 0), (.putfield 35, 0, 6, 6), (.aload_n 0, 0, 0, 0), (.dup, 0, 0, 0), (.getfield 38, 0, 6, 7), (.aload_n 0, 0, 0, 0), (.getfield 21, 0, 6, 0), (.iload_n 1, 0, 1, 0), (.iconst 0, 0, 0, 0)] 61 76 = true := by decide +kernel
theorem bk_X6_passHour_79_83 : rr_chk mX6_passHour [(.iadd, 0, 0, 0), (.putfield 38, 0, 6, 7)] 79 83 = true := by decide +kernel
theorem bk_X6_passHour_13_15 : rr_chk mX6_passHour [(.aload_n 0, 0, 0, 0), (.iload_n 1, 0, 1, 0)] 13 15 = true := by decide +kernel
theorem bk_X6_passHour_26_2 : rr_chk mX6_passHour [(.iinc 1 1, 1, 1, 0), (.goto (-27), 0, 0, 0)] 26 2 = true := by decide +kernel
theorem bk_X6_passHour_21_23 : rr_chk mX6_passHour [(.aload_n 0, 0, 0, 0), (.iload_n 1, 0, 1, 0)] 21 23 = true := by decide +kernel
set_option maxRecDepth 100000 in
set_option maxHeartbeats 4000000 in
theorem c6_passHour (hh : Nat) (ss p1 p2 : Int32) (S : Nat → Nat → Int32) (tc wd cc kc : Nat) (G : Nat → Nat → Int32) (htc : tc ≤ 12) (hcc : cc ≤ 9) (hkc : kc ≤ 6) (hh9 : hh < 99999) (hok : p_ok S cc kc) : rr_C mX6_passHour 3 [.ref 0] (W_S (sv4 (nI hh) ss p1 p2) S (gv tc wd cc kc) G) 0 0 none (W_S (sv4 (nI (hh + 1)) ((p_pl G tc wd hh S ss kc).2) (p1 + p_sum (p_fs (p_pl G tc wd hh S ss kc).1 G kc) (G 4) kc) (p2 + p_sum (p_fs (p_pl G tc wd hh S ss kc).1 G kc) (G 5) kc)) ((p_pl G tc wd hh S ss kc).1) (gv tc wd cc kc) G) := by
  refine rr_C.of (n := 0) fX6_passHour.1 rfl rfl (fun Z hC => ?_)
  show rr_J Z 2 0 0 (rr_MQ Z 0 0 none (W_S (sv4 (nI (hh + 1)) ((p_pl G tc wd hh S ss kc).2) (p1 + p_sum (p_fs (p_pl G tc wd hh S ss kc).1 G kc) (G 4) kc) (p2 + p_sum (p_fs (p_pl G tc wd hh S ss kc).1 G kc) (G 5) kc)) ((p_pl G tc wd hh S ss kc).1) (gv tc wd cc kc) G)) 0 [(0, .ref 0)] [] (W_S (sv4 (nI hh) ss p1 p2) S (gv tc wd cc kc) G)
  refine rr_go hC bk_X6_passHour_0_2 (l' := [(0, .ref 0), (1, .int 0)]) (st' := []) (w' := (W_S (sv4 (nI hh) ss p1 p2) S (gv tc wd cc kc) G)) rfl ?_
  have lp2 : ∀ (j k : Nat), k + j = kc → 0 ≤ k → rr_J Z 2 0 0 (rr_MQ Z 0 0 none (W_S (sv4 (nI (hh + 1)) ((p_pl G tc wd hh S ss kc).2) (p1 + p_sum (p_fs (p_pl G tc wd hh S ss kc).1 G kc) (G 4) kc) (p2 + p_sum (p_fs (p_pl G tc wd hh S ss kc).1 G kc) (G 5) kc)) ((p_pl G tc wd hh S ss kc).1) (gv tc wd cc kc) G)) 2 [(0, .ref 0), (1, .int (nI k))] [] (W_S (sv4 (nI hh) ((p_pl G tc wd hh S ss k).2) p1 p2) ((p_pl G tc wd hh S ss k).1) (gv tc wd cc kc) G) := by
    intro j
    induction j with
    | zero =>
      intro k hk2 hlo2
      refine rr_go hC bk_X6_passHour_2_10 (l' := [(0, .ref 0), (1, .int (nI k))]) (st' := [.int (nI kc), .int (nI k)]) (w' := (W_S (sv4 (nI hh) ((p_pl G tc wd hh S ss k).2) p1 p2) ((p_pl G tc wd hh S ss k).1) (gv tc wd cc kc) G)) rfl ?_
      refine rr_icmp_ge hC (off := 22) (tgt := 32) (by decide +kernel) (fun h10 => ?_) (fun h10 => by rw [rr_nn_le (by omega) (by omega)] at h10; omega)
      rw [rr_nn_le (by omega) (by omega)] at h10
      refine rr_go hC bk_X6_passHour_32_43 (l' := [(0, .ref 0), (1, .int (nI k))]) (st' := [.ref 0]) (w' := (W_S (upd (sv4 (nI hh) ((p_pl G tc wd hh S ss k).2) p1 p2) 0 ((nI hh) + 1)) ((p_pl G tc wd hh S ss k).1) (gv tc wd cc kc) G)) rfl ?_
      rw [show ((nI hh) + 1 : Int32) = nI (hh + 1) from nI_add hh 1]
      refine rr_callV hC (by decide +kernel) kl_6_86 fX6_forceSet (c6_forceSet (hh + 1) ((p_pl G tc wd hh S ss k).2) p1 p2 ((p_pl G tc wd hh S ss k).1) tc wd cc kc G (by omega)) rfl rfl [0, 1, 2, 3, 4, 5, 6, 7, 8, 9, 10] rfl rfl (Eq.refl 11) rfl rfl rfl (rest := []) rfl rfl ⟨Nat.zero_le _, Nat.zero_le _⟩ (w2 := (W_S (upd (sv4 (nI hh) ((p_pl G tc wd hh S ss k).2) p1 p2) 0 (nI (hh + 1))) ((p_pl G tc wd hh S ss k).1) (gv tc wd cc kc) G)) rfl ?_
      show rr_J Z 2 0 0 _ 46 [(0, .ref 0), (1, .int (nI k))] [.int (p_fs ((p_pl G tc wd hh S ss k).1) G kc)] (W_S (upd (sv4 (nI hh) ((p_pl G tc wd hh S ss k).2) p1 p2) 0 (nI (hh + 1))) ((p_pl G tc wd hh S ss k).1) (gv tc wd cc kc) G)
      refine rr_go hC bk_X6_passHour_46_58 (l' := [(0, .ref 0), (1, .int (p_fs ((p_pl G tc wd hh S ss k).1) G kc))]) (st' := [.int 1, .int (p_fs ((p_pl G tc wd hh S ss k).1) G kc), .ref 4, .int p1, .ref 0]) (w' := (W_S (upd (sv4 (nI hh) ((p_pl G tc wd hh S ss k).2) p1 p2) 0 (nI (hh + 1))) ((p_pl G tc wd hh S ss k).1) (gv tc wd cc kc) G)) rfl ?_
      refine rr_callV hC (by decide +kernel) kl_6_93 fX8_worthOf (c8_worthOf tc wd cc kc G (p_fs ((p_pl G tc wd hh S ss k).1) G kc) true (by omega)) rfl rfl [4, 5, 6, 7, 8, 9, 10] rfl rfl (Eq.refl 7) rfl rfl rfl (rest := [.int p1, .ref 0]) rfl rfl ⟨Nat.zero_le _, Nat.zero_le _⟩ (w2 := (W_S (upd (sv4 (nI hh) ((p_pl G tc wd hh S ss k).2) p1 p2) 0 (nI (hh + 1))) ((p_pl G tc wd hh S ss k).1) (gv tc wd cc kc) G)) rfl ?_
      show rr_J Z 2 0 0 _ 61 [(0, .ref 0), (1, .int (p_fs ((p_pl G tc wd hh S ss k).1) G kc))] [.int (p_sum (p_fs ((p_pl G tc wd hh S ss k).1) G kc) (G (cond true 4 5)) kc), .int p1, .ref 0] (W_S (upd (sv4 (nI hh) ((p_pl G tc wd hh S ss k).2) p1 p2) 0 (nI (hh + 1))) ((p_pl G tc wd hh S ss k).1) (gv tc wd cc kc) G)
      refine rr_go hC bk_X6_passHour_61_76 (l' := [(0, .ref 0), (1, .int (p_fs ((p_pl G tc wd hh S ss k).1) G kc))]) (st' := [.int 0, .int (p_fs ((p_pl G tc wd hh S ss k).1) G kc), .ref 4, .int p2, .ref 0]) (w' := (W_S (upd (upd (sv4 (nI hh) ((p_pl G tc wd hh S ss k).2) p1 p2) 0 (nI (hh + 1))) 2 (p1 + (p_sum (p_fs ((p_pl G tc wd hh S ss k).1) G kc) (G (cond true 4 5)) kc))) ((p_pl G tc wd hh S ss k).1) (gv tc wd cc kc) G)) rfl ?_
      refine rr_callV hC (by decide +kernel) kl_6_93 fX8_worthOf (c8_worthOf tc wd cc kc G (p_fs ((p_pl G tc wd hh S ss k).1) G kc) false (by omega)) rfl rfl [4, 5, 6, 7, 8, 9, 10] rfl rfl (Eq.refl 7) rfl rfl rfl (rest := [.int p2, .ref 0]) rfl rfl ⟨Nat.zero_le _, Nat.zero_le _⟩ (w2 := (W_S (upd (upd (sv4 (nI hh) ((p_pl G tc wd hh S ss k).2) p1 p2) 0 (nI (hh + 1))) 2 (p1 + (p_sum (p_fs ((p_pl G tc wd hh S ss k).1) G kc) (G (cond true 4 5)) kc))) ((p_pl G tc wd hh S ss k).1) (gv tc wd cc kc) G)) rfl ?_
      show rr_J Z 2 0 0 _ 79 [(0, .ref 0), (1, .int (p_fs ((p_pl G tc wd hh S ss k).1) G kc))] [.int (p_sum (p_fs ((p_pl G tc wd hh S ss k).1) G kc) (G (cond false 4 5)) kc), .int p2, .ref 0] (W_S (upd (upd (sv4 (nI hh) ((p_pl G tc wd hh S ss k).2) p1 p2) 0 (nI (hh + 1))) 2 (p1 + (p_sum (p_fs ((p_pl G tc wd hh S ss k).1) G kc) (G (cond true 4 5)) kc))) ((p_pl G tc wd hh S ss k).1) (gv tc wd cc kc) G)
      refine rr_go hC bk_X6_passHour_79_83 (l' := [(0, .ref 0), (1, .int (p_fs ((p_pl G tc wd hh S ss k).1) G kc))]) (st' := []) (w' := (W_S (upd (upd (upd (sv4 (nI hh) ((p_pl G tc wd hh S ss k).2) p1 p2) 0 (nI (hh + 1))) 2 (p1 + (p_sum (p_fs ((p_pl G tc wd hh S ss k).1) G kc) (G (cond true 4 5)) kc))) 3 (p2 + (p_sum (p_fs ((p_pl G tc wd hh S ss k).1) G kc) (G (cond false 4 5)) kc))) ((p_pl G tc wd hh S ss k).1) (gv tc wd cc kc) G)) rfl ?_
      exact rr_retv hC (by decide +kernel) (by rw [show k = kc by omega]; rfl) ⟨Nat.zero_le _, Nat.zero_le _⟩
    | succ j ih =>
      intro k hk2 hlo2
      refine rr_go hC bk_X6_passHour_2_10 (l' := [(0, .ref 0), (1, .int (nI k))]) (st' := [.int (nI kc), .int (nI k)]) (w' := (W_S (sv4 (nI hh) ((p_pl G tc wd hh S ss k).2) p1 p2) ((p_pl G tc wd hh S ss k).1) (gv tc wd cc kc) G)) rfl ?_
      refine rr_icmp_ge hC (off := 22) (tgt := 32) (by decide +kernel) (fun h10 => by rw [rr_nn_le (by omega) (by omega)] at h10; omega) (fun h10 => ?_)
      rw [rr_nn_le (by omega) (by omega)] at h10
      refine rr_go hC bk_X6_passHour_13_15 (l' := [(0, .ref 0), (1, .int (nI k))]) (st' := [.int (nI k), .ref 0]) (w' := (W_S (sv4 (nI hh) ((p_pl G tc wd hh S ss k).2) p1 p2) ((p_pl G tc wd hh S ss k).1) (gv tc wd cc kc) G)) rfl ?_
      refine rr_callV hC (by decide +kernel) kl_6_56 fX6_isNowhere (c6_isNowhere (nI hh) ((p_pl G tc wd hh S ss k).2) p1 p2 ((p_pl G tc wd hh S ss k).1) 8 k (by omega)) rfl rfl [0, 1, 2, 3] rfl rfl (Eq.refl 4) rfl rfl rfl (rest := []) rfl rfl ⟨Nat.zero_le _, Nat.zero_le _⟩ (w2 := (W_S (sv4 (nI hh) ((p_pl G tc wd hh S ss k).2) p1 p2) ((p_pl G tc wd hh S ss k).1) (gv tc wd cc kc) G)) rfl ?_
      show rr_J Z 2 0 0 _ 18 [(0, .ref 0), (1, .int (nI k))] [.int (rr_b (decide ((((p_pl G tc wd hh S ss k).1) 0) k = -1)))] (W_S (sv4 (nI hh) ((p_pl G tc wd hh S ss k).2) p1 p2) ((p_pl G tc wd hh S ss k).1) (gv tc wd cc kc) G)
      refine rr_neb hC (off := 8) (tgt := 26) (by decide +kernel) (fun h18 => ?_) (fun h18 => ?_)
      · replace h18 := of_decide_eq_true h18
        refine rr_go hC bk_X6_passHour_26_2 (l' := [(0, .ref 0), (1, .int ((nI k) + 1))]) (st' := []) (w' := (W_S (sv4 (nI hh) ((p_pl G tc wd hh S ss k).2) p1 p2) ((p_pl G tc wd hh S ss k).1) (gv tc wd cc kc) G)) rfl ?_
        rw [show ((nI k) + 1 : Int32) = nI (k + 1) from nI_add k 1]
        exact rr_cast (l' := [(0, .ref 0), (1, .int (nI (k + 1)))]) (by rfl) rfl (w' := (W_S (sv4 (nI hh) ((p_pl G tc wd hh S ss (k + 1)).2) p1 p2) ((p_pl G tc wd hh S ss (k + 1)).1) (gv tc wd cc kc) G)) (by first | (simp only [p_pl, if_neg h18]; done) | (simp only [p_pl, if_pos h18]; done)) (ih (k + 1) (by omega) (by omega))
      · replace h18 := of_decide_eq_false h18
        refine rr_go hC bk_X6_passHour_21_23 (l' := [(0, .ref 0), (1, .int (nI k))]) (st' := [.int (nI k), .ref 0]) (w' := (W_S (sv4 (nI hh) ((p_pl G tc wd hh S ss k).2) p1 p2) ((p_pl G tc wd hh S ss k).1) (gv tc wd cc kc) G)) rfl ?_
        obtain ⟨cq, hcq⟩ := (p_ok_pl hok tc wd hh ss k k (by omega)).resolve_left h18
        refine rr_callV hC (by decide +kernel) kl_6_90 fX6_age (c6_age hh ((p_pl G tc wd hh S ss k).2) p1 p2 ((p_pl G tc wd hh S ss k).1) tc wd cc kc G k cq (by omega) (by omega) (by omega) (by omega) (by omega) hcq.1 hcq.2) rfl rfl [0, 1, 2, 3, 4, 5, 6, 7, 8, 9, 10] rfl rfl (Eq.refl 11) rfl rfl rfl (rest := []) rfl rfl ⟨Nat.zero_le _, Nat.zero_le _⟩ (w2 := (W_S (sv4 (nI hh) ((p_age G tc wd hh k ((p_pl G tc wd hh S ss k).1) ((p_pl G tc wd hh S ss k).2)).2) p1 p2) ((p_age G tc wd hh k ((p_pl G tc wd hh S ss k).1) ((p_pl G tc wd hh S ss k).2)).1) (gv tc wd cc kc) G)) rfl ?_
        show rr_J Z 2 0 0 _ 26 [(0, .ref 0), (1, .int (nI k))] [] (W_S (sv4 (nI hh) ((p_age G tc wd hh k ((p_pl G tc wd hh S ss k).1) ((p_pl G tc wd hh S ss k).2)).2) p1 p2) ((p_age G tc wd hh k ((p_pl G tc wd hh S ss k).1) ((p_pl G tc wd hh S ss k).2)).1) (gv tc wd cc kc) G)
        refine rr_go hC bk_X6_passHour_26_2 (l' := [(0, .ref 0), (1, .int ((nI k) + 1))]) (st' := []) (w' := (W_S (sv4 (nI hh) ((p_age G tc wd hh k ((p_pl G tc wd hh S ss k).1) ((p_pl G tc wd hh S ss k).2)).2) p1 p2) ((p_age G tc wd hh k ((p_pl G tc wd hh S ss k).1) ((p_pl G tc wd hh S ss k).2)).1) (gv tc wd cc kc) G)) rfl ?_
        rw [show ((nI k) + 1 : Int32) = nI (k + 1) from nI_add k 1]
        exact rr_cast (l' := [(0, .ref 0), (1, .int (nI (k + 1)))]) (by rfl) rfl (w' := (W_S (sv4 (nI hh) ((p_pl G tc wd hh S ss (k + 1)).2) p1 p2) ((p_pl G tc wd hh S ss (k + 1)).1) (gv tc wd cc kc) G)) (by first | (simp only [p_pl, if_neg h18]; done) | (simp only [p_pl, if_pos h18]; done)) (ih (k + 1) (by omega) (by omega))
  exact rr_cast (l' := [(0, .ref 0), (1, .int (nI 0))]) (by first | rfl | (rfl)) rfl (w' := (W_S (sv4 (nI hh) ((p_pl G tc wd hh S ss 0).2) p1 p2) ((p_pl G tc wd hh S ss 0).1) (gv tc wd cc kc) G)) (by rfl) (lp2 (kc - 0) 0 (by omega) (Nat.le_refl _))
def p_pass (G : Nat → Nat → Int32) (tc wd kc : Nat) (q : Nat × Int32 × Int32 × Int32 × (Nat → Nat → Int32)) : Nat × Int32 × Int32 × Int32 × (Nat → Nat → Int32) :=
  (q.1 + 1, (p_pl G tc wd q.1 q.2.2.2.2 q.2.1 kc).2, q.2.2.1 + p_sum (p_fs (p_pl G tc wd q.1 q.2.2.2.2 q.2.1 kc).1 G kc) (G 4) kc, q.2.2.2.1 + p_sum (p_fs (p_pl G tc wd q.1 q.2.2.2.2 q.2.1 kc).1 G kc) (G 5) kc, (p_pl G tc wd q.1 q.2.2.2.2 q.2.1 kc).1)
