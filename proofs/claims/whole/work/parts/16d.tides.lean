/-! readTides, readPart, read -/
theorem p_tl_s (f : Nat → Int32) (len j n : Nat) (s : p_TS) (h : p_nl f len s.1 = 44) : p_tl f len (j + 1) n s = p_tl f len j (n + 1) (p_tn f len n s (p_sk f len s.1 + 1)) := if_pos h
theorem p_tl_e (f : Nat → Int32) (len j n : Nat) (s : p_TS) (h : ¬ p_nl f len s.1 = 44) : p_tl f len (j + 1) n s = (n, (p_sk f len s.1, s.2)) := if_neg h
theorem p_tl_le (f : Nat → Int32) (len j n : Nat) (s : p_TS) : (p_tl f len j n s).1 ≤ n + j ∧ n ≤ (p_tl f len j n s).1 ∧ (p_tl f len j n s).2.1 ≤ max s.1 len + j := by
  induction j generalizing n s with
  | zero => exact ⟨Nat.le_refl _, Nat.le_refl _, by show s.1 ≤ _; omega⟩
  | succ j ih =>
    by_cases h : p_nl f len s.1 = 44
    · rw [p_tl_s f len j n s h]
      obtain ⟨h1, h2, h3⟩ := ih (n + 1) (p_tn f len n s (p_sk f len s.1 + 1))
      have h4 : (p_tn f len n s (p_sk f len s.1 + 1)).1 ≤ max (p_sk f len s.1 + 1) len := p_rat_le _ _ _
      have h5 := p_sk_le f len s.1
      exact ⟨by omega, by omega, by omega⟩
    · rw [p_tl_e f len j n s h]
      have h5 := p_sk_le f len s.1
      exact ⟨by show n ≤ _; omega, Nat.le_refl _, by show p_sk f len s.1 ≤ _; omega⟩
theorem p_part_le (f : Nat → Int32) (len : Nat) (s : p_RS) : (p_part f len s).1 ≤ max s.1 len + 2 := by
  have h1 := p_sk_le f len s.1
  have e0 : (p_skS f len s).1 = p_sk f len s.1 := rfl
  unfold p_part
  split
  · unfold p_pw
    split
    · show (p_skS f len s).1 ≤ _; omega
    · have h2 := p_rat_le f len ((p_skS f len s).1 + 1)
      have h3 := p_sk_le f len (p_rat f len ((p_skS f len s).1 + 1))
      show p_sk f len (p_rat f len ((p_skS f len s).1 + 1)) + 1 ≤ _
      omega
  · split
    · unfold p_pc
      split
      · have h2 := p_rat_le f len ((p_skS f len s).1 + 1)
        have h3 := p_sk_le f len (p_rat f len ((p_skS f len s).1 + 1))
        show p_sk f len (p_rat f len ((p_skS f len s).1 + 1)) + 1 ≤ _
        omega
      · show (p_skS f len s).1 ≤ _; omega
    · split
      · unfold p_pk
        split
        · have h2 : p_k2 f len (p_skS f len s) ≤ _ := p_rat_le f len ((p_skS f len s).1 + 1)
          have h3 : p_k3 f len (p_skS f len s) ≤ _ := p_rat_le f len (p_k2 f len (p_skS f len s))
          have h4 : p_k4 f len (p_skS f len s) ≤ _ := p_rat_le f len (p_k3 f len (p_skS f len s))
          have h5 : p_k5 f len (p_skS f len s) ≤ _ := p_rat_le f len (p_k4 f len (p_skS f len s))
          have h6 := p_sk_le f len (p_k5 f len (p_skS f len s))
          show p_sk f len (p_k5 f len (p_skS f len s)) + 1 ≤ _
          omega
        · show (p_skS f len s).1 ≤ _; omega
      · split
        · show (p_skS f len s).1 ≤ _; omega
        · show (p_skS f len s).1 ≤ _; omega
theorem p_lsd {x : Int32} (hw : ¬ x = 119) (hc : ¬ x = 99) (hk : ¬ x = 107) (ht : ¬ x = 116) : Op.lookupswitch.offset (#[((99 : Int), (51 : Int)), (107, 58), (116, 65), (119, 44)]).toList 77 x.toInt = 77 := by
  show Op.lookupswitch.offset [((99 : Int), (51 : Int)), (107, 58), (116, 65), (119, 44)] 77 x.toInt = 77
  have z : ∀ (v : Int32) (n : Int), v.toInt = n → ¬ x = v → ¬ n = x.toInt := fun v n hn h e => h (Int32.toInt_inj.mp (e.symm.trans hn.symm))
  rw [Op.lookupswitch.offset_cons, if_neg (z 99 99 (by decide) hc), Op.lookupswitch.offset_cons, if_neg (z 107 107 (by decide) hk), Op.lookupswitch.offset_cons, if_neg (z 116 116 (by decide) ht), Op.lookupswitch.offset_cons, if_neg (z 119 119 (by decide) hw)]
  rfl
theorem p_pt_le (f : Nat → Int32) (len : Nat) (s : p_RS) : (p_pt f len s).1 ≤ max s.1 len + 20 := by
  unfold p_pt
  have h1 := p_sk_le f len s.1
  split
  · have h2 : (p_tn f len 0 (s.1, s.2.1, s.2.2.2.1, s.2.2.2.2.2.2.2.2 0) (p_sk f len s.1 + 1)).1 ≤ _ := p_rat_le f len (p_sk f len s.1 + 1)
    have h3 : (p_tX f len s).2.1 ≤ _ := (p_tl_le f len 11 1 (p_tn f len 0 (s.1, s.2.1, s.2.2.2.1, s.2.2.2.2.2.2.2.2 0) (p_sk f len s.1 + 1))).2.2
    have h4 := p_sk_le f len (p_tX f len s).2.1
    show p_sk f len (p_tX f len s).2.1 + 1 ≤ _
    omega
  · show p_sk f len s.1 ≤ _
    omega
theorem p_pt_cc (f : Nat → Int32) (len : Nat) (s : p_RS) : (p_pt f len s).2.2.2.2.2.2.1 = s.2.2.2.2.2.2.1 ∧ (p_pt f len s).2.2.2.2.2.2.2.1 = s.2.2.2.2.2.2.2.1 := by
  unfold p_pt
  split
  · exact ⟨Eq.refl _, Eq.refl _⟩
  · exact ⟨Eq.refl _, Eq.refl _⟩
theorem p_rl_0 (f : Nat → Int32) (len : Nat) (s : p_RS) : p_rl f len 0 s = s := rfl
theorem p_rl_1 (f : Nat → Int32) (len j : Nat) (s : p_RS) (h : ¬ s.2.2.2.1.1 = 0) : p_rl f len (j + 1) s = s := if_neg h
theorem p_rl_2 (f : Nat → Int32) (len j : Nat) (s : p_RS) (h : s.2.2.2.1.1 = 0) (h2 : p_nl f len s.1 = -1) : p_rl f len (j + 1) s = p_skS f len s := (if_pos h).trans (if_pos h2)
theorem p_rl_3 (f : Nat → Int32) (len j : Nat) (s : p_RS) (h : s.2.2.2.1.1 = 0) (h2 : ¬ p_nl f len s.1 = -1) : p_rl f len (j + 1) s = p_rl f len j (p_part f len (p_skS f len s)) := (if_pos h).trans (if_neg h2)
theorem p_part_cc (f : Nat → Int32) (len : Nat) (s : p_RS) (hc : s.2.2.2.2.2.2.1 ≤ 9) (hk : s.2.2.2.2.2.2.2.1 ≤ 6) : (p_part f len s).2.2.2.2.2.2.1 ≤ 9 ∧ (p_part f len s).2.2.2.2.2.2.2.1 ≤ 6 := by
  unfold p_part
  split
  · unfold p_pw
    split
    · exact ⟨hc, hk⟩
    · exact ⟨hc, hk⟩
  · split
    · unfold p_pc
      split
      · rename_i h
        exact ⟨h, hk⟩
      · exact ⟨hc, hk⟩
    · split
      · unfold p_pk
        split
        · rename_i h
          exact ⟨hc, h⟩
        · exact ⟨hc, hk⟩
      · split
        · exact ⟨hc, hk⟩
        · exact ⟨hc, hk⟩
theorem bk_X5_readTides_0_1 : rr_chk mX5_readTides [(.aload_n 0, 0, 0, 0)] 0 1 = true := by decide +kernel
theorem bk_X5_readTides_4_6 : rr_chk mX5_readTides [(.bipush 116, 116, 0, 0)] 4 6 = true := by decide +kernel
theorem bk_X5_readTides_19_38 : rr_chk mX5_readTides [(.aload_n 0, 0, 0, 0), (.dup, 0, 0, 0), (.getfield 29, 0, 5, 3), (.iconst 1, 1, 0, 0), (.iadd, 0, 0, 0), (.putfield 29, 0, 5, 3), (.aload_n 0, 0, 0, 0), (.getfield 18, 0, 5, 1), (.bipush 30, 30, 0, 0), (.putfield 63, 0, 8, 7)] 19 38 = true := by decide +kernel
theorem bk_X5_readTides_38_46 : rr_chk mX5_readTides [(.aload_n 0, 0, 0, 0), (.getfield 18, 0, 5, 1), (.aload_n 0, 0, 0, 0), (.iconst 0, 0, 0, 0), (.bipush 19, 19, 0, 0)] 38 46 = true := by decide +kernel
theorem bk_X5_readTides_52_54 : rr_chk mX5_readTides [(.iconst 1, 1, 0, 0), (.istore_n 1, 0, 1, 0)] 52 54 = true := by decide +kernel
theorem bk_X5_readTides_54_57 : rr_chk mX5_readTides [(.iload_n 1, 0, 1, 0), (.bipush 12, 12, 0, 0)] 54 57 = true := by decide +kernel
theorem bk_X5_readTides_99_100 : rr_chk mX5_readTides [(.aload_n 0, 0, 0, 0)] 99 100 = true := by decide +kernel
theorem bk_X5_readTides_60_61 : rr_chk mX5_readTides [(.aload_n 0, 0, 0, 0)] 60 61 = true := by decide +kernel
theorem bk_X5_readTides_64_66 : rr_chk mX5_readTides [(.bipush 44, 44, 0, 0)] 64 66 = true := by decide +kernel
theorem bk_X5_readTides_69_87 : rr_chk mX5_readTides [(.aload_n 0, 0, 0, 0), (.dup, 0, 0, 0), (.getfield 29, 0, 5, 3), (.iconst 1, 1, 0, 0), (.iadd, 0, 0, 0), (.putfield 29, 0, 5, 3), (.aload_n 0, 0, 0, 0), (.getfield 18, 0, 5, 1), (.aload_n 0, 0, 0, 0), (.iconst 0, 0, 0, 0), (.bipush 19, 19, 0, 0)] 69 87 = true := by decide +kernel
theorem bk_X5_readTides_93_54 : rr_chk mX5_readTides [(.iinc 1 1, 1, 1, 0), (.goto (-42), 0, 0, 0)] 93 54 = true := by decide +kernel
theorem bk_X5_readTides_9_15 : rr_chk mX5_readTides [(.aload_n 0, 0, 0, 0), (.iconst 1, 1, 0, 0), (.aload_n 0, 0, 0, 0), (.getfield 29, 0, 5, 3)] 9 15 = true := by decide +kernel
set_option maxRecDepth 100000 in
set_option maxHeartbeats 4000000 in
theorem c5_readTides (len : Nat) (T : Nat → Nat → Int32) (s : p_RS) (hlen : len ≤ 240) (hs : s.1 ≤ 9000) (htc : s.2.2.2.2.1 = 0) : rr_C mX5_readTides 3 [.ref 0] (W_R (rv len s.1 s.2.1 s.2.2.1 s.2.2.2.1) T (gv s.2.2.2.2.1 s.2.2.2.2.2.1 s.2.2.2.2.2.2.1 s.2.2.2.2.2.2.2.1) s.2.2.2.2.2.2.2.2) 0 0 none (W_R (rv len ((p_pt (T 0) len s).1) ((p_pt (T 0) len s).2.1) ((p_pt (T 0) len s).2.2.1) ((p_pt (T 0) len s).2.2.2.1)) T (gv ((p_pt (T 0) len s).2.2.2.2.1) ((p_pt (T 0) len s).2.2.2.2.2.1) ((p_pt (T 0) len s).2.2.2.2.2.2.1) ((p_pt (T 0) len s).2.2.2.2.2.2.2.1)) ((p_pt (T 0) len s).2.2.2.2.2.2.2.2)) := by
  refine rr_C.of (n := 0) fX5_readTides.1 rfl rfl (fun Z hC => ?_)
  show rr_J Z 2 0 0 (rr_MQ Z 0 0 none (W_R (rv len ((p_pt (T 0) len s).1) ((p_pt (T 0) len s).2.1) ((p_pt (T 0) len s).2.2.1) ((p_pt (T 0) len s).2.2.2.1)) T (gv ((p_pt (T 0) len s).2.2.2.2.1) ((p_pt (T 0) len s).2.2.2.2.2.1) ((p_pt (T 0) len s).2.2.2.2.2.2.1) ((p_pt (T 0) len s).2.2.2.2.2.2.2.1)) ((p_pt (T 0) len s).2.2.2.2.2.2.2.2))) 0 [(0, .ref 0)] [] (W_R (rv len s.1 s.2.1 s.2.2.1 s.2.2.2.1) T (gv s.2.2.2.2.1 s.2.2.2.2.2.1 s.2.2.2.2.2.2.1 s.2.2.2.2.2.2.2.1) s.2.2.2.2.2.2.2.2)
  refine rr_go hC bk_X5_readTides_0_1 (l' := [(0, .ref 0)]) (st' := [.ref 0]) (w' := (W_R (rv len s.1 s.2.1 s.2.2.1 s.2.2.2.1) T (gv s.2.2.2.2.1 s.2.2.2.2.2.1 s.2.2.2.2.2.2.1 s.2.2.2.2.2.2.2.1) s.2.2.2.2.2.2.2.2)) rfl ?_
  refine rr_callV hC (by decide +kernel) kl_5_42 fX5_nextLetter (c5_nextLetter len s.1 s.2.1 s.2.2.1 s.2.2.2.1 T 4 (by omega) (by omega)) rfl rfl [0, 1] rfl rfl (Eq.refl 2) rfl rfl rfl (rest := []) rfl rfl ⟨Nat.zero_le _, Nat.zero_le _⟩ (w2 := (W_R (rv len (p_sk (T 0) len s.1) s.2.1 s.2.2.1 s.2.2.2.1) T (gv s.2.2.2.2.1 s.2.2.2.2.2.1 s.2.2.2.2.2.2.1 s.2.2.2.2.2.2.2.1) s.2.2.2.2.2.2.2.2)) rfl ?_
  show rr_J Z 2 0 0 _ 4 [(0, .ref 0)] [.int (p_nl (T 0) len s.1)] (W_R (rv len (p_sk (T 0) len s.1) s.2.1 s.2.2.1 s.2.2.2.1) T (gv s.2.2.2.2.1 s.2.2.2.2.2.1 s.2.2.2.2.2.2.1 s.2.2.2.2.2.2.2.1) s.2.2.2.2.2.2.2.2)
  have hsk10 := p_sk_le (T 0) len s.1
  refine rr_go hC bk_X5_readTides_4_6 (l' := [(0, .ref 0)]) (st' := [.int 116, .int (p_nl (T 0) len s.1)]) (w' := (W_R (rv len (p_sk (T 0) len s.1) s.2.1 s.2.2.1 s.2.2.2.1) T (gv s.2.2.2.2.1 s.2.2.2.2.2.1 s.2.2.2.2.2.2.1 s.2.2.2.2.2.2.2.1) s.2.2.2.2.2.2.2.2)) rfl ?_
  refine rr_icmp_eq hC (off := 13) (tgt := 19) (by decide +kernel) (fun h6 => ?_) (fun h6 => ?_)
  · refine rr_go hC bk_X5_readTides_19_38 (l' := [(0, .ref 0)]) (st' := []) (w' := (W_R (upd (rv len (p_sk (T 0) len s.1) s.2.1 s.2.2.1 s.2.2.2.1) 1 ((nI (p_sk (T 0) len s.1)) + 1)) T (upd (gv s.2.2.2.2.1 s.2.2.2.2.2.1 s.2.2.2.2.2.2.1 s.2.2.2.2.2.2.2.1) 1 30) s.2.2.2.2.2.2.2.2)) rfl ?_
    rw [show ((nI (p_sk (T 0) len s.1)) + 1 : Int32) = nI ((p_sk (T 0) len s.1) + 1) from nI_add (p_sk (T 0) len s.1) 1]
    rw [htc]
    refine rr_cast (l' := [(0, .ref 0)]) rfl (st' := []) rfl (w' := (W_R (upd (rv len (p_sk (T 0) len s.1) s.2.1 s.2.2.1 s.2.2.2.1) 1 (nI ((p_sk (T 0) len s.1) + 1))) T (gv 0 30 s.2.2.2.2.2.2.1 s.2.2.2.2.2.2.2.1) s.2.2.2.2.2.2.2.2)) rfl ?_
    refine rr_go hC bk_X5_readTides_38_46 (l' := [(0, .ref 0)]) (st' := [.int 19, .int 0, .ref 0, .ref 2]) (w' := (W_R (upd (rv len (p_sk (T 0) len s.1) s.2.1 s.2.2.1 s.2.2.2.1) 1 (nI ((p_sk (T 0) len s.1) + 1))) T (gv 0 30 s.2.2.2.2.2.2.1 s.2.2.2.2.2.2.2.1) s.2.2.2.2.2.2.2.2)) rfl ?_
    refine rr_callV hC (by decide +kernel) kl_5_66 fX5_readNumber (c5_readNumber len ((p_sk (T 0) len s.1) + 1) s.2.1 s.2.2.1 s.2.2.2.1 T 4 0 19 (by omega) (by omega)) rfl rfl [0, 1] rfl rfl (Eq.refl 2) rfl rfl rfl (rest := [.ref 2]) rfl rfl ⟨Nat.zero_le _, Nat.zero_le _⟩ (w2 := (W_R (rv len (p_rat (T 0) len ((p_sk (T 0) len s.1) + 1)) (p_rna (T 0) len ((p_sk (T 0) len s.1) + 1) s.2.1) s.2.2.1 (p_rq (T 0) len ((p_sk (T 0) len s.1) + 1) 0 19 s.2.2.2.1)) T (gv 0 30 s.2.2.2.2.2.2.1 s.2.2.2.2.2.2.2.1) s.2.2.2.2.2.2.2.2)) rfl ?_
    show rr_J Z 2 0 0 _ 49 [(0, .ref 0)] [.int (p_rv (T 0) len ((p_sk (T 0) len s.1) + 1) 0 19), .ref 2] (W_R (rv len (p_rat (T 0) len ((p_sk (T 0) len s.1) + 1)) (p_rna (T 0) len ((p_sk (T 0) len s.1) + 1) s.2.1) s.2.2.1 (p_rq (T 0) len ((p_sk (T 0) len s.1) + 1) 0 19 s.2.2.2.1)) T (gv 0 30 s.2.2.2.2.2.2.1 s.2.2.2.2.2.2.2.1) s.2.2.2.2.2.2.2.2)
    have hrn11 := p_rat_le (T 0) len ((p_sk (T 0) len s.1) + 1)
    refine rr_callV hC (by decide +kernel) kl_5_70 fX8_addTide (c8_addTide 0 30 s.2.2.2.2.2.2.1 s.2.2.2.2.2.2.2.1 s.2.2.2.2.2.2.2.2 (p_rv (T 0) len ((p_sk (T 0) len s.1) + 1) 0 19) (by omega)) rfl rfl [2, 3, 4, 5, 6, 7, 8] rfl rfl (Eq.refl 7) rfl rfl rfl (rest := []) rfl rfl ⟨Nat.zero_le _, Nat.zero_le _⟩ (w2 := (W_R (rv len (p_rat (T 0) len ((p_sk (T 0) len s.1) + 1)) (p_rna (T 0) len ((p_sk (T 0) len s.1) + 1) s.2.1) s.2.2.1 (p_rq (T 0) len ((p_sk (T 0) len s.1) + 1) 0 19 s.2.2.2.1)) T (gv (0 + 1) 30 s.2.2.2.2.2.2.1 s.2.2.2.2.2.2.2.1) (va_up s.2.2.2.2.2.2.2.2 0 (upd (s.2.2.2.2.2.2.2.2 0) 0 (p_rv (T 0) len ((p_sk (T 0) len s.1) + 1) 0 19))))) rfl ?_
    show rr_J Z 2 0 0 _ 52 [(0, .ref 0)] [] (W_R (rv len (p_rat (T 0) len ((p_sk (T 0) len s.1) + 1)) (p_rna (T 0) len ((p_sk (T 0) len s.1) + 1) s.2.1) s.2.2.1 (p_rq (T 0) len ((p_sk (T 0) len s.1) + 1) 0 19 s.2.2.2.1)) T (gv (0 + 1) 30 s.2.2.2.2.2.2.1 s.2.2.2.2.2.2.2.1) (va_up s.2.2.2.2.2.2.2.2 0 (upd (s.2.2.2.2.2.2.2.2 0) 0 (p_rv (T 0) len ((p_sk (T 0) len s.1) + 1) 0 19))))
    refine rr_cast (l' := [(0, .ref 0)]) rfl (st' := []) rfl (w' := (W_R (rv len ((p_tn (T 0) len 0 (s.1, s.2.1, s.2.2.2.1, s.2.2.2.2.2.2.2.2 0) (p_sk (T 0) len s.1 + 1)).1) ((p_tn (T 0) len 0 (s.1, s.2.1, s.2.2.2.1, s.2.2.2.2.2.2.2.2 0) (p_sk (T 0) len s.1 + 1)).2.1) s.2.2.1 ((p_tn (T 0) len 0 (s.1, s.2.1, s.2.2.2.1, s.2.2.2.2.2.2.2.2 0) (p_sk (T 0) len s.1 + 1)).2.2.1)) T (gv 1 30 s.2.2.2.2.2.2.1 s.2.2.2.2.2.2.2.1) (va_up s.2.2.2.2.2.2.2.2 0 ((p_tn (T 0) len 0 (s.1, s.2.1, s.2.2.2.1, s.2.2.2.2.2.2.2.2 0) (p_sk (T 0) len s.1 + 1)).2.2.2)))) rfl ?_
    have hs1 : (p_tn (T 0) len 0 (s.1, s.2.1, s.2.2.2.1, s.2.2.2.2.2.2.2.2 0) (p_sk (T 0) len s.1 + 1)).1 ≤ max (p_sk (T 0) len s.1 + 1) len := p_rat_le _ _ _
    refine rr_go hC bk_X5_readTides_52_54 (l' := [(0, .ref 0), (1, .int 1)]) (st' := []) (w' := (W_R (rv len ((p_tn (T 0) len 0 (s.1, s.2.1, s.2.2.2.1, s.2.2.2.2.2.2.2.2 0) (p_sk (T 0) len s.1 + 1)).1) ((p_tn (T 0) len 0 (s.1, s.2.1, s.2.2.2.1, s.2.2.2.2.2.2.2.2 0) (p_sk (T 0) len s.1 + 1)).2.1) s.2.2.1 ((p_tn (T 0) len 0 (s.1, s.2.1, s.2.2.2.1, s.2.2.2.2.2.2.2.2 0) (p_sk (T 0) len s.1 + 1)).2.2.1)) T (gv 1 30 s.2.2.2.2.2.2.1 s.2.2.2.2.2.2.2.1) (va_up s.2.2.2.2.2.2.2.2 0 ((p_tn (T 0) len 0 (s.1, s.2.1, s.2.2.2.1, s.2.2.2.2.2.2.2.2 0) (p_sk (T 0) len s.1 + 1)).2.2.2)))) rfl ?_
    have lp54 : ∀ (j n : Nat), n + j = 12 → 1 ≤ n → ∀ (u : p_TS), u.1 ≤ 9300 + n → p_tX (T 0) len s = p_tl (T 0) len (12 - n) n u → rr_J Z 2 0 0 (rr_MQ Z 0 0 none (W_R (rv len ((p_pt (T 0) len s).1) ((p_pt (T 0) len s).2.1) ((p_pt (T 0) len s).2.2.1) ((p_pt (T 0) len s).2.2.2.1)) T (gv ((p_pt (T 0) len s).2.2.2.2.1) ((p_pt (T 0) len s).2.2.2.2.2.1) ((p_pt (T 0) len s).2.2.2.2.2.2.1) ((p_pt (T 0) len s).2.2.2.2.2.2.2.1)) ((p_pt (T 0) len s).2.2.2.2.2.2.2.2))) 54 [(0, .ref 0), (1, .int (nI n))] [] (W_R (rv len u.1 u.2.1 s.2.2.1 u.2.2.1) T (gv n 30 s.2.2.2.2.2.2.1 s.2.2.2.2.2.2.2.1) (va_up s.2.2.2.2.2.2.2.2 0 u.2.2.2)) := by
      intro j
      induction j with
      | zero =>
        intro n hk54 hlo54 u hu hX
        refine rr_go hC bk_X5_readTides_54_57 (l' := [(0, .ref 0), (1, .int (nI n))]) (st' := [.int 12, .int (nI n)]) (w' := (W_R (rv len u.1 u.2.1 s.2.2.1 u.2.2.1) T (gv n 30 s.2.2.2.2.2.2.1 s.2.2.2.2.2.2.2.1) (va_up s.2.2.2.2.2.2.2.2 0 u.2.2.2))) rfl ?_
        refine rr_icmp_ge hC (off := 42) (tgt := 99) (by decide +kernel) (fun h57 => ?_) (fun h57 => by rw [rr_ln_le (a := 12) (by omega) (by omega)] at h57; omega)
        rw [rr_ln_le (a := 12) (by omega) (by omega)] at h57
        have hX2 : p_tX (T 0) len s = (n, u) := by rw [hX, show 12 - n = 0 by omega]; rfl
        refine rr_go hC bk_X5_readTides_99_100 (l' := [(0, .ref 0), (1, .int (nI n))]) (st' := [.ref 0]) (w' := (W_R (rv len u.1 u.2.1 s.2.2.1 u.2.2.1) T (gv n 30 s.2.2.2.2.2.2.1 s.2.2.2.2.2.2.2.1) (va_up s.2.2.2.2.2.2.2.2 0 u.2.2.2))) rfl ?_
        refine rr_callV hC (by decide +kernel) kl_5_74 fX5_readEnd (c5_readEnd len u.1 u.2.1 s.2.2.1 u.2.2.1 T 4 (by omega) (by omega)) rfl rfl [0, 1] rfl rfl (Eq.refl 2) rfl rfl rfl (rest := []) rfl rfl ⟨Nat.zero_le _, Nat.zero_le _⟩ (w2 := (W_R (rv len (p_sk (T 0) len u.1 + 1) u.2.1 s.2.2.1 (p_eq' (T 0) len u.1 u.2.2.1)) T (gv n 30 s.2.2.2.2.2.2.1 s.2.2.2.2.2.2.2.1) (va_up s.2.2.2.2.2.2.2.2 0 u.2.2.2))) rfl ?_
        show rr_J Z 2 0 0 _ 103 [(0, .ref 0), (1, .int (nI n))] [] (W_R (rv len (p_sk (T 0) len u.1 + 1) u.2.1 s.2.2.1 (p_eq' (T 0) len u.1 u.2.2.1)) T (gv n 30 s.2.2.2.2.2.2.1 s.2.2.2.2.2.2.2.1) (va_up s.2.2.2.2.2.2.2.2 0 u.2.2.2))
        exact rr_retv hC (by decide +kernel) (by unfold p_pt; rw [if_pos h6, hX2]) ⟨Nat.zero_le _, Nat.zero_le _⟩
      | succ j ih =>
        intro n hk54 hlo54 u hu hX
        refine rr_go hC bk_X5_readTides_54_57 (l' := [(0, .ref 0), (1, .int (nI n))]) (st' := [.int 12, .int (nI n)]) (w' := (W_R (rv len u.1 u.2.1 s.2.2.1 u.2.2.1) T (gv n 30 s.2.2.2.2.2.2.1 s.2.2.2.2.2.2.2.1) (va_up s.2.2.2.2.2.2.2.2 0 u.2.2.2))) rfl ?_
        refine rr_icmp_ge hC (off := 42) (tgt := 99) (by decide +kernel) (fun h57 => by rw [rr_ln_le (a := 12) (by omega) (by omega)] at h57; omega) (fun h57 => ?_)
        rw [rr_ln_le (a := 12) (by omega) (by omega)] at h57
        refine rr_go hC bk_X5_readTides_60_61 (l' := [(0, .ref 0), (1, .int (nI n))]) (st' := [.ref 0]) (w' := (W_R (rv len u.1 u.2.1 s.2.2.1 u.2.2.1) T (gv n 30 s.2.2.2.2.2.2.1 s.2.2.2.2.2.2.2.1) (va_up s.2.2.2.2.2.2.2.2 0 u.2.2.2))) rfl ?_
        refine rr_callV hC (by decide +kernel) kl_5_42 fX5_nextLetter (c5_nextLetter len u.1 u.2.1 s.2.2.1 u.2.2.1 T 4 (by omega) (by omega)) rfl rfl [0, 1] rfl rfl (Eq.refl 2) rfl rfl rfl (rest := []) rfl rfl ⟨Nat.zero_le _, Nat.zero_le _⟩ (w2 := (W_R (rv len (p_sk (T 0) len u.1) u.2.1 s.2.2.1 u.2.2.1) T (gv n 30 s.2.2.2.2.2.2.1 s.2.2.2.2.2.2.2.1) (va_up s.2.2.2.2.2.2.2.2 0 u.2.2.2))) rfl ?_
        show rr_J Z 2 0 0 _ 64 [(0, .ref 0), (1, .int (nI n))] [.int (p_nl (T 0) len u.1)] (W_R (rv len (p_sk (T 0) len u.1) u.2.1 s.2.2.1 u.2.2.1) T (gv n 30 s.2.2.2.2.2.2.1 s.2.2.2.2.2.2.2.1) (va_up s.2.2.2.2.2.2.2.2 0 u.2.2.2))
        have hsk12 := p_sk_le (T 0) len u.1
        refine rr_go hC bk_X5_readTides_64_66 (l' := [(0, .ref 0), (1, .int (nI n))]) (st' := [.int 44, .int (p_nl (T 0) len u.1)]) (w' := (W_R (rv len (p_sk (T 0) len u.1) u.2.1 s.2.2.1 u.2.2.1) T (gv n 30 s.2.2.2.2.2.2.1 s.2.2.2.2.2.2.2.1) (va_up s.2.2.2.2.2.2.2.2 0 u.2.2.2))) rfl ?_
        refine rr_icmp_ne hC (off := 33) (tgt := 99) (by decide +kernel) (fun h66 => ?_) (fun h66 => ?_)
        · have hX2 : p_tX (T 0) len s = (n, (p_sk (T 0) len u.1, u.2)) := by rw [hX, show 12 - n = (12 - (n + 1)) + 1 by omega, p_tl_e _ _ _ _ _ h66]
          refine rr_go hC bk_X5_readTides_99_100 (l' := [(0, .ref 0), (1, .int (nI n))]) (st' := [.ref 0]) (w' := (W_R (rv len (p_sk (T 0) len u.1) u.2.1 s.2.2.1 u.2.2.1) T (gv n 30 s.2.2.2.2.2.2.1 s.2.2.2.2.2.2.2.1) (va_up s.2.2.2.2.2.2.2.2 0 u.2.2.2))) rfl ?_
          refine rr_callV hC (by decide +kernel) kl_5_74 fX5_readEnd (c5_readEnd len (p_sk (T 0) len u.1) u.2.1 s.2.2.1 u.2.2.1 T 4 (by omega) (by omega)) rfl rfl [0, 1] rfl rfl (Eq.refl 2) rfl rfl rfl (rest := []) rfl rfl ⟨Nat.zero_le _, Nat.zero_le _⟩ (w2 := (W_R (rv len (p_sk (T 0) len (p_sk (T 0) len u.1) + 1) u.2.1 s.2.2.1 (p_eq' (T 0) len (p_sk (T 0) len u.1) u.2.2.1)) T (gv n 30 s.2.2.2.2.2.2.1 s.2.2.2.2.2.2.2.1) (va_up s.2.2.2.2.2.2.2.2 0 u.2.2.2))) rfl ?_
          show rr_J Z 2 0 0 _ 103 [(0, .ref 0), (1, .int (nI n))] [] (W_R (rv len (p_sk (T 0) len (p_sk (T 0) len u.1) + 1) u.2.1 s.2.2.1 (p_eq' (T 0) len (p_sk (T 0) len u.1) u.2.2.1)) T (gv n 30 s.2.2.2.2.2.2.1 s.2.2.2.2.2.2.2.1) (va_up s.2.2.2.2.2.2.2.2 0 u.2.2.2))
          exact rr_retv hC (by decide +kernel) (by unfold p_pt; rw [if_pos h6, hX2]) ⟨Nat.zero_le _, Nat.zero_le _⟩
        · refine rr_go hC bk_X5_readTides_69_87 (l' := [(0, .ref 0), (1, .int (nI n))]) (st' := [.int 19, .int 0, .ref 0, .ref 2]) (w' := (W_R (upd (rv len (p_sk (T 0) len u.1) u.2.1 s.2.2.1 u.2.2.1) 1 ((nI (p_sk (T 0) len u.1)) + 1)) T (gv n 30 s.2.2.2.2.2.2.1 s.2.2.2.2.2.2.2.1) (va_up s.2.2.2.2.2.2.2.2 0 u.2.2.2))) rfl ?_
          rw [show ((nI (p_sk (T 0) len u.1)) + 1 : Int32) = nI ((p_sk (T 0) len u.1) + 1) from nI_add (p_sk (T 0) len u.1) 1]
          refine rr_callV hC (by decide +kernel) kl_5_66 fX5_readNumber (c5_readNumber len ((p_sk (T 0) len u.1) + 1) u.2.1 s.2.2.1 u.2.2.1 T 4 0 19 (by omega) (by omega)) rfl rfl [0, 1] rfl rfl (Eq.refl 2) rfl rfl rfl (rest := [.ref 2]) rfl rfl ⟨Nat.zero_le _, Nat.zero_le _⟩ (w2 := (W_R (rv len (p_rat (T 0) len ((p_sk (T 0) len u.1) + 1)) (p_rna (T 0) len ((p_sk (T 0) len u.1) + 1) u.2.1) s.2.2.1 (p_rq (T 0) len ((p_sk (T 0) len u.1) + 1) 0 19 u.2.2.1)) T (gv n 30 s.2.2.2.2.2.2.1 s.2.2.2.2.2.2.2.1) (va_up s.2.2.2.2.2.2.2.2 0 u.2.2.2))) rfl ?_
          show rr_J Z 2 0 0 _ 90 [(0, .ref 0), (1, .int (nI n))] [.int (p_rv (T 0) len ((p_sk (T 0) len u.1) + 1) 0 19), .ref 2] (W_R (rv len (p_rat (T 0) len ((p_sk (T 0) len u.1) + 1)) (p_rna (T 0) len ((p_sk (T 0) len u.1) + 1) u.2.1) s.2.2.1 (p_rq (T 0) len ((p_sk (T 0) len u.1) + 1) 0 19 u.2.2.1)) T (gv n 30 s.2.2.2.2.2.2.1 s.2.2.2.2.2.2.2.1) (va_up s.2.2.2.2.2.2.2.2 0 u.2.2.2))
          have hrn13 := p_rat_le (T 0) len ((p_sk (T 0) len u.1) + 1)
          refine rr_callV hC (by decide +kernel) kl_5_70 fX8_addTide (c8_addTide n 30 s.2.2.2.2.2.2.1 s.2.2.2.2.2.2.2.1 (va_up s.2.2.2.2.2.2.2.2 0 u.2.2.2) (p_rv (T 0) len ((p_sk (T 0) len u.1) + 1) 0 19) (by omega)) rfl rfl [2, 3, 4, 5, 6, 7, 8] rfl rfl (Eq.refl 7) rfl rfl rfl (rest := []) rfl rfl ⟨Nat.zero_le _, Nat.zero_le _⟩ (w2 := (W_R (rv len (p_rat (T 0) len ((p_sk (T 0) len u.1) + 1)) (p_rna (T 0) len ((p_sk (T 0) len u.1) + 1) u.2.1) s.2.2.1 (p_rq (T 0) len ((p_sk (T 0) len u.1) + 1) 0 19 u.2.2.1)) T (gv (n + 1) 30 s.2.2.2.2.2.2.1 s.2.2.2.2.2.2.2.1) (va_up s.2.2.2.2.2.2.2.2 0 (upd u.2.2.2 n (p_rv (T 0) len ((p_sk (T 0) len u.1) + 1) 0 19))))) rfl ?_
          show rr_J Z 2 0 0 _ 93 [(0, .ref 0), (1, .int (nI n))] [] (W_R (rv len (p_rat (T 0) len ((p_sk (T 0) len u.1) + 1)) (p_rna (T 0) len ((p_sk (T 0) len u.1) + 1) u.2.1) s.2.2.1 (p_rq (T 0) len ((p_sk (T 0) len u.1) + 1) 0 19 u.2.2.1)) T (gv (n + 1) 30 s.2.2.2.2.2.2.1 s.2.2.2.2.2.2.2.1) (va_up s.2.2.2.2.2.2.2.2 0 (upd u.2.2.2 n (p_rv (T 0) len ((p_sk (T 0) len u.1) + 1) 0 19))))
          refine rr_cast (l' := [(0, .ref 0), (1, .int (nI n))]) rfl (st' := []) rfl (w' := (W_R (rv len ((p_tn (T 0) len n u (p_sk (T 0) len u.1 + 1)).1) ((p_tn (T 0) len n u (p_sk (T 0) len u.1 + 1)).2.1) s.2.2.1 ((p_tn (T 0) len n u (p_sk (T 0) len u.1 + 1)).2.2.1)) T (gv (n + 1) 30 s.2.2.2.2.2.2.1 s.2.2.2.2.2.2.2.1) (va_up s.2.2.2.2.2.2.2.2 0 ((p_tn (T 0) len n u (p_sk (T 0) len u.1 + 1)).2.2.2)))) rfl ?_
          have hs2 : (p_tn (T 0) len n u (p_sk (T 0) len u.1 + 1)).1 ≤ max (p_sk (T 0) len u.1 + 1) len := p_rat_le _ _ _
          refine rr_go hC bk_X5_readTides_93_54 (l' := [(0, .ref 0), (1, .int ((nI n) + 1))]) (st' := []) (w' := (W_R (rv len ((p_tn (T 0) len n u (p_sk (T 0) len u.1 + 1)).1) ((p_tn (T 0) len n u (p_sk (T 0) len u.1 + 1)).2.1) s.2.2.1 ((p_tn (T 0) len n u (p_sk (T 0) len u.1 + 1)).2.2.1)) T (gv (n + 1) 30 s.2.2.2.2.2.2.1 s.2.2.2.2.2.2.2.1) (va_up s.2.2.2.2.2.2.2.2 0 ((p_tn (T 0) len n u (p_sk (T 0) len u.1 + 1)).2.2.2)))) rfl ?_
          rw [show ((nI n) + 1 : Int32) = nI (n + 1) from nI_add n 1]
          exact rr_cast (l' := [(0, .ref 0), (1, .int (nI (n + 1)))]) (by rfl) rfl (w' := (W_R (rv len ((p_tn (T 0) len n u (p_sk (T 0) len u.1 + 1)).1) ((p_tn (T 0) len n u (p_sk (T 0) len u.1 + 1)).2.1) s.2.2.1 ((p_tn (T 0) len n u (p_sk (T 0) len u.1 + 1)).2.2.1)) T (gv (n + 1) 30 s.2.2.2.2.2.2.1 s.2.2.2.2.2.2.2.1) (va_up s.2.2.2.2.2.2.2.2 0 ((p_tn (T 0) len n u (p_sk (T 0) len u.1 + 1)).2.2.2)))) (by rfl) (ih (n + 1) (by omega) (by omega) (p_tn (T 0) len n u (p_sk (T 0) len u.1 + 1)) (by omega) (by rw [hX, show 12 - n = (12 - (n + 1)) + 1 by omega, p_tl_s _ _ _ _ _ h66]))
    exact rr_cast (l' := [(0, .ref 0), (1, .int (nI 1))]) (by first | rfl | (rfl)) rfl (w' := (W_R (rv len ((p_tn (T 0) len 0 (s.1, s.2.1, s.2.2.2.1, s.2.2.2.2.2.2.2.2 0) (p_sk (T 0) len s.1 + 1)).1) ((p_tn (T 0) len 0 (s.1, s.2.1, s.2.2.2.1, s.2.2.2.2.2.2.2.2 0) (p_sk (T 0) len s.1 + 1)).2.1) s.2.2.1 ((p_tn (T 0) len 0 (s.1, s.2.1, s.2.2.2.1, s.2.2.2.2.2.2.2.2 0) (p_sk (T 0) len s.1 + 1)).2.2.1)) T (gv 1 30 s.2.2.2.2.2.2.1 s.2.2.2.2.2.2.2.1) (va_up s.2.2.2.2.2.2.2.2 0 ((p_tn (T 0) len 0 (s.1, s.2.1, s.2.2.2.1, s.2.2.2.2.2.2.2.2 0) (p_sk (T 0) len s.1 + 1)).2.2.2)))) (by rfl) (lp54 (12 - 1) 1 (by omega) (Nat.le_refl _) (p_tn (T 0) len 0 (s.1, s.2.1, s.2.2.2.1, s.2.2.2.2.2.2.2.2 0) (p_sk (T 0) len s.1 + 1)) (by omega) rfl)
  · refine rr_go hC bk_X5_readTides_9_15 (l' := [(0, .ref 0)]) (st' := [.int (nI (p_sk (T 0) len s.1)), .int 1, .ref 0]) (w' := (W_R (rv len (p_sk (T 0) len s.1) s.2.1 s.2.2.1 s.2.2.2.1) T (gv s.2.2.2.2.1 s.2.2.2.2.2.1 s.2.2.2.2.2.2.1 s.2.2.2.2.2.2.2.1) s.2.2.2.2.2.2.2.2)) rfl ?_
    refine rr_callV hC (by decide +kernel) kl_5_56 fX5_fail (c5_fail len (p_sk (T 0) len s.1) s.2.1 s.2.2.1 s.2.2.2.1 T 4 1 (nI (p_sk (T 0) len s.1))) rfl rfl [0, 1] rfl rfl (Eq.refl 2) rfl rfl rfl (rest := []) rfl rfl ⟨Nat.zero_le _, Nat.zero_le _⟩ (w2 := (W_R (rv len (p_sk (T 0) len s.1) s.2.1 s.2.2.1 (p_fl 1 (nI (p_sk (T 0) len s.1)) s.2.2.2.1)) T (gv s.2.2.2.2.1 s.2.2.2.2.2.1 s.2.2.2.2.2.2.1 s.2.2.2.2.2.2.2.1) s.2.2.2.2.2.2.2.2)) rfl ?_
    show rr_J Z 2 0 0 _ 18 [(0, .ref 0)] [] (W_R (rv len (p_sk (T 0) len s.1) s.2.1 s.2.2.1 (p_fl 1 (nI (p_sk (T 0) len s.1)) s.2.2.2.1)) T (gv s.2.2.2.2.1 s.2.2.2.2.2.1 s.2.2.2.2.2.2.1 s.2.2.2.2.2.2.2.1) s.2.2.2.2.2.2.2.2)
    exact rr_retv hC (by decide +kernel) (by unfold p_pt; rw [if_neg h6]; rfl) ⟨Nat.zero_le _, Nat.zero_le _⟩
theorem bk_X5_readPart_0_1 : rr_chk mX5_readPart [(.aload_n 0, 0, 0, 0)] 0 1 = true := by decide +kernel
theorem bk_X5_readPart_48_49 : rr_chk mX5_readPart [(.aload_n 0, 0, 0, 0)] 48 49 = true := by decide +kernel
theorem bk_X5_readPart_52_90 : rr_chk mX5_readPart [(.goto 38, 0, 0, 0)] 52 90 = true := by decide +kernel
theorem bk_X5_readPart_55_56 : rr_chk mX5_readPart [(.aload_n 0, 0, 0, 0)] 55 56 = true := by decide +kernel
theorem bk_X5_readPart_59_90 : rr_chk mX5_readPart [(.goto 31, 0, 0, 0)] 59 90 = true := by decide +kernel
theorem bk_X5_readPart_62_63 : rr_chk mX5_readPart [(.aload_n 0, 0, 0, 0)] 62 63 = true := by decide +kernel
theorem bk_X5_readPart_66_90 : rr_chk mX5_readPart [(.goto 24, 0, 0, 0)] 66 90 = true := by decide +kernel
theorem bk_X5_readPart_69_75 : rr_chk mX5_readPart [(.aload_n 0, 0, 0, 0), (.iconst 3, 3, 0, 0), (.aload_n 0, 0, 0, 0), (.getfield 29, 0, 5, 3)] 69 75 = true := by decide +kernel
theorem bk_X5_readPart_78_90 : rr_chk mX5_readPart [(.goto 12, 0, 0, 0)] 78 90 = true := by decide +kernel
theorem bk_X5_readPart_81_87 : rr_chk mX5_readPart [(.aload_n 0, 0, 0, 0), (.iconst 1, 1, 0, 0), (.aload_n 0, 0, 0, 0), (.getfield 29, 0, 5, 3)] 81 87 = true := by decide +kernel
set_option maxRecDepth 100000 in
set_option maxHeartbeats 4000000 in
theorem c5_readPart (len : Nat) (T : Nat → Nat → Int32) (s : p_RS) (hlen : len ≤ 240) (hs : s.1 ≤ 9000) (hcc : s.2.2.2.2.2.2.1 ≤ 9) (hkc : s.2.2.2.2.2.2.2.1 ≤ 6) : rr_C mX5_readPart 4 [.ref 0] (W_R (rv len s.1 s.2.1 s.2.2.1 s.2.2.2.1) T (gv s.2.2.2.2.1 s.2.2.2.2.2.1 s.2.2.2.2.2.2.1 s.2.2.2.2.2.2.2.1) s.2.2.2.2.2.2.2.2) 0 0 none (W_R (rv len ((p_part (T 0) len s).1) ((p_part (T 0) len s).2.1) ((p_part (T 0) len s).2.2.1) ((p_part (T 0) len s).2.2.2.1)) T (gv ((p_part (T 0) len s).2.2.2.2.1) ((p_part (T 0) len s).2.2.2.2.2.1) ((p_part (T 0) len s).2.2.2.2.2.2.1) ((p_part (T 0) len s).2.2.2.2.2.2.2.1)) ((p_part (T 0) len s).2.2.2.2.2.2.2.2)) := by
  refine rr_C.of (n := 0) fX5_readPart.1 rfl rfl (fun Z hC => ?_)
  show rr_J Z 1 0 0 (rr_MQ Z 0 0 none (W_R (rv len ((p_part (T 0) len s).1) ((p_part (T 0) len s).2.1) ((p_part (T 0) len s).2.2.1) ((p_part (T 0) len s).2.2.2.1)) T (gv ((p_part (T 0) len s).2.2.2.2.1) ((p_part (T 0) len s).2.2.2.2.2.1) ((p_part (T 0) len s).2.2.2.2.2.2.1) ((p_part (T 0) len s).2.2.2.2.2.2.2.1)) ((p_part (T 0) len s).2.2.2.2.2.2.2.2))) 0 [(0, .ref 0)] [] (W_R (rv len s.1 s.2.1 s.2.2.1 s.2.2.2.1) T (gv s.2.2.2.2.1 s.2.2.2.2.2.1 s.2.2.2.2.2.2.1 s.2.2.2.2.2.2.2.1) s.2.2.2.2.2.2.2.2)
  refine rr_go hC bk_X5_readPart_0_1 (l' := [(0, .ref 0)]) (st' := [.ref 0]) (w' := (W_R (rv len s.1 s.2.1 s.2.2.1 s.2.2.2.1) T (gv s.2.2.2.2.1 s.2.2.2.2.2.1 s.2.2.2.2.2.2.1 s.2.2.2.2.2.2.2.1) s.2.2.2.2.2.2.2.2)) rfl ?_
  refine rr_callV hC (by decide +kernel) kl_5_42 fX5_nextLetter (c5_nextLetter len s.1 s.2.1 s.2.2.1 s.2.2.2.1 T 4 (by omega) (by omega)) rfl rfl [0, 1] rfl rfl (Eq.refl 2) rfl rfl rfl (rest := []) rfl rfl ⟨Nat.zero_le _, Nat.zero_le _⟩ (w2 := (W_R (rv len (p_sk (T 0) len s.1) s.2.1 s.2.2.1 s.2.2.2.1) T (gv s.2.2.2.2.1 s.2.2.2.2.2.1 s.2.2.2.2.2.2.1 s.2.2.2.2.2.2.2.1) s.2.2.2.2.2.2.2.2)) rfl ?_
  show rr_J Z 1 0 0 _ 4 [(0, .ref 0)] [.int (p_nl (T 0) len s.1)] (W_R (rv len (p_sk (T 0) len s.1) s.2.1 s.2.2.1 s.2.2.2.1) T (gv s.2.2.2.2.1 s.2.2.2.2.2.1 s.2.2.2.2.2.2.1 s.2.2.2.2.2.2.2.1) s.2.2.2.2.2.2.2.2)
  have hsk14 := p_sk_le (T 0) len s.1
  have hsk : (p_skS (T 0) len s).1 ≤ max s.1 len := p_sk_le _ _ _
  by_cases hw : p_nl (T 0) len s.1 = 119
  · refine rr_lsw hC (dflt := 77) (ps := #[((99 : Int), (51 : Int)), (107, 58), (116, 65), (119, 44)]) (n := 44) (off := 44) (tgt := 48) (by decide +kernel) (by decide +kernel) (by rw [hw]; decide +kernel) ?_
    refine rr_cast (l' := [(0, .ref 0)]) rfl (st' := []) rfl (w' := (W_R (rv len ((p_skS (T 0) len s).1) ((p_skS (T 0) len s).2.1) ((p_skS (T 0) len s).2.2.1) ((p_skS (T 0) len s).2.2.2.1)) T (gv ((p_skS (T 0) len s).2.2.2.2.1) ((p_skS (T 0) len s).2.2.2.2.2.1) ((p_skS (T 0) len s).2.2.2.2.2.2.1) ((p_skS (T 0) len s).2.2.2.2.2.2.2.1)) ((p_skS (T 0) len s).2.2.2.2.2.2.2.2))) rfl ?_
    refine rr_go hC bk_X5_readPart_48_49 (l' := [(0, .ref 0)]) (st' := [.ref 0]) (w' := (W_R (rv len ((p_skS (T 0) len s).1) ((p_skS (T 0) len s).2.1) ((p_skS (T 0) len s).2.2.1) ((p_skS (T 0) len s).2.2.2.1)) T (gv ((p_skS (T 0) len s).2.2.2.2.1) ((p_skS (T 0) len s).2.2.2.2.2.1) ((p_skS (T 0) len s).2.2.2.2.2.2.1) ((p_skS (T 0) len s).2.2.2.2.2.2.2.1)) ((p_skS (T 0) len s).2.2.2.2.2.2.2.2))) rfl ?_
    refine rr_callV hC (by decide +kernel) kl_5_77 fX5_readWind (c5_readWind len T (p_skS (T 0) len s) (by omega) (by omega)) rfl rfl [0, 1, 2, 3, 4, 5, 6, 7, 8] rfl rfl (Eq.refl 9) rfl rfl rfl (rest := []) rfl rfl ⟨Nat.zero_le _, Nat.zero_le _⟩ (w2 := (W_R (rv len ((p_pw (T 0) len (p_skS (T 0) len s)).1) ((p_pw (T 0) len (p_skS (T 0) len s)).2.1) ((p_pw (T 0) len (p_skS (T 0) len s)).2.2.1) ((p_pw (T 0) len (p_skS (T 0) len s)).2.2.2.1)) T (gv ((p_pw (T 0) len (p_skS (T 0) len s)).2.2.2.2.1) ((p_pw (T 0) len (p_skS (T 0) len s)).2.2.2.2.2.1) ((p_pw (T 0) len (p_skS (T 0) len s)).2.2.2.2.2.2.1) ((p_pw (T 0) len (p_skS (T 0) len s)).2.2.2.2.2.2.2.1)) ((p_pw (T 0) len (p_skS (T 0) len s)).2.2.2.2.2.2.2.2))) rfl ?_
    show rr_J Z 1 0 0 _ 52 [(0, .ref 0)] [] (W_R (rv len ((p_pw (T 0) len (p_skS (T 0) len s)).1) ((p_pw (T 0) len (p_skS (T 0) len s)).2.1) ((p_pw (T 0) len (p_skS (T 0) len s)).2.2.1) ((p_pw (T 0) len (p_skS (T 0) len s)).2.2.2.1)) T (gv ((p_pw (T 0) len (p_skS (T 0) len s)).2.2.2.2.1) ((p_pw (T 0) len (p_skS (T 0) len s)).2.2.2.2.2.1) ((p_pw (T 0) len (p_skS (T 0) len s)).2.2.2.2.2.2.1) ((p_pw (T 0) len (p_skS (T 0) len s)).2.2.2.2.2.2.2.1)) ((p_pw (T 0) len (p_skS (T 0) len s)).2.2.2.2.2.2.2.2))
    refine rr_go hC bk_X5_readPart_52_90 (l' := [(0, .ref 0)]) (st' := []) (w' := (W_R (rv len ((p_pw (T 0) len (p_skS (T 0) len s)).1) ((p_pw (T 0) len (p_skS (T 0) len s)).2.1) ((p_pw (T 0) len (p_skS (T 0) len s)).2.2.1) ((p_pw (T 0) len (p_skS (T 0) len s)).2.2.2.1)) T (gv ((p_pw (T 0) len (p_skS (T 0) len s)).2.2.2.2.1) ((p_pw (T 0) len (p_skS (T 0) len s)).2.2.2.2.2.1) ((p_pw (T 0) len (p_skS (T 0) len s)).2.2.2.2.2.2.1) ((p_pw (T 0) len (p_skS (T 0) len s)).2.2.2.2.2.2.2.1)) ((p_pw (T 0) len (p_skS (T 0) len s)).2.2.2.2.2.2.2.2))) rfl ?_
    exact rr_retv hC (by decide +kernel) (by unfold p_part; rw [if_pos hw]) ⟨Nat.zero_le _, Nat.zero_le _⟩
  by_cases hc : p_nl (T 0) len s.1 = 99
  · refine rr_lsw hC (dflt := 77) (ps := #[((99 : Int), (51 : Int)), (107, 58), (116, 65), (119, 44)]) (n := 44) (off := 51) (tgt := 55) (by decide +kernel) (by decide +kernel) (by rw [hc]; decide +kernel) ?_
    refine rr_cast (l' := [(0, .ref 0)]) rfl (st' := []) rfl (w' := (W_R (rv len ((p_skS (T 0) len s).1) ((p_skS (T 0) len s).2.1) ((p_skS (T 0) len s).2.2.1) ((p_skS (T 0) len s).2.2.2.1)) T (gv ((p_skS (T 0) len s).2.2.2.2.1) ((p_skS (T 0) len s).2.2.2.2.2.1) ((p_skS (T 0) len s).2.2.2.2.2.2.1) ((p_skS (T 0) len s).2.2.2.2.2.2.2.1)) ((p_skS (T 0) len s).2.2.2.2.2.2.2.2))) rfl ?_
    refine rr_go hC bk_X5_readPart_55_56 (l' := [(0, .ref 0)]) (st' := [.ref 0]) (w' := (W_R (rv len ((p_skS (T 0) len s).1) ((p_skS (T 0) len s).2.1) ((p_skS (T 0) len s).2.2.1) ((p_skS (T 0) len s).2.2.2.1)) T (gv ((p_skS (T 0) len s).2.2.2.2.1) ((p_skS (T 0) len s).2.2.2.2.2.1) ((p_skS (T 0) len s).2.2.2.2.2.2.1) ((p_skS (T 0) len s).2.2.2.2.2.2.2.1)) ((p_skS (T 0) len s).2.2.2.2.2.2.2.2))) rfl ?_
    refine rr_callV hC (by decide +kernel) kl_5_80 fX5_readCell (c5_readCell len T (p_skS (T 0) len s) (by omega) (by omega) hcc) rfl rfl [0, 1, 2, 3, 4, 5, 6, 7, 8] rfl rfl (Eq.refl 9) rfl rfl rfl (rest := []) rfl rfl ⟨Nat.zero_le _, Nat.zero_le _⟩ (w2 := (W_R (rv len ((p_pc (T 0) len (p_skS (T 0) len s)).1) ((p_pc (T 0) len (p_skS (T 0) len s)).2.1) ((p_pc (T 0) len (p_skS (T 0) len s)).2.2.1) ((p_pc (T 0) len (p_skS (T 0) len s)).2.2.2.1)) T (gv ((p_pc (T 0) len (p_skS (T 0) len s)).2.2.2.2.1) ((p_pc (T 0) len (p_skS (T 0) len s)).2.2.2.2.2.1) ((p_pc (T 0) len (p_skS (T 0) len s)).2.2.2.2.2.2.1) ((p_pc (T 0) len (p_skS (T 0) len s)).2.2.2.2.2.2.2.1)) ((p_pc (T 0) len (p_skS (T 0) len s)).2.2.2.2.2.2.2.2))) rfl ?_
    show rr_J Z 1 0 0 _ 59 [(0, .ref 0)] [] (W_R (rv len ((p_pc (T 0) len (p_skS (T 0) len s)).1) ((p_pc (T 0) len (p_skS (T 0) len s)).2.1) ((p_pc (T 0) len (p_skS (T 0) len s)).2.2.1) ((p_pc (T 0) len (p_skS (T 0) len s)).2.2.2.1)) T (gv ((p_pc (T 0) len (p_skS (T 0) len s)).2.2.2.2.1) ((p_pc (T 0) len (p_skS (T 0) len s)).2.2.2.2.2.1) ((p_pc (T 0) len (p_skS (T 0) len s)).2.2.2.2.2.2.1) ((p_pc (T 0) len (p_skS (T 0) len s)).2.2.2.2.2.2.2.1)) ((p_pc (T 0) len (p_skS (T 0) len s)).2.2.2.2.2.2.2.2))
    refine rr_go hC bk_X5_readPart_59_90 (l' := [(0, .ref 0)]) (st' := []) (w' := (W_R (rv len ((p_pc (T 0) len (p_skS (T 0) len s)).1) ((p_pc (T 0) len (p_skS (T 0) len s)).2.1) ((p_pc (T 0) len (p_skS (T 0) len s)).2.2.1) ((p_pc (T 0) len (p_skS (T 0) len s)).2.2.2.1)) T (gv ((p_pc (T 0) len (p_skS (T 0) len s)).2.2.2.2.1) ((p_pc (T 0) len (p_skS (T 0) len s)).2.2.2.2.2.1) ((p_pc (T 0) len (p_skS (T 0) len s)).2.2.2.2.2.2.1) ((p_pc (T 0) len (p_skS (T 0) len s)).2.2.2.2.2.2.2.1)) ((p_pc (T 0) len (p_skS (T 0) len s)).2.2.2.2.2.2.2.2))) rfl ?_
    exact rr_retv hC (by decide +kernel) (by unfold p_part; rw [if_neg hw, if_pos hc]) ⟨Nat.zero_le _, Nat.zero_le _⟩
  by_cases hk : p_nl (T 0) len s.1 = 107
  · refine rr_lsw hC (dflt := 77) (ps := #[((99 : Int), (51 : Int)), (107, 58), (116, 65), (119, 44)]) (n := 44) (off := 58) (tgt := 62) (by decide +kernel) (by decide +kernel) (by rw [hk]; decide +kernel) ?_
    refine rr_cast (l' := [(0, .ref 0)]) rfl (st' := []) rfl (w' := (W_R (rv len ((p_skS (T 0) len s).1) ((p_skS (T 0) len s).2.1) ((p_skS (T 0) len s).2.2.1) ((p_skS (T 0) len s).2.2.2.1)) T (gv ((p_skS (T 0) len s).2.2.2.2.1) ((p_skS (T 0) len s).2.2.2.2.2.1) ((p_skS (T 0) len s).2.2.2.2.2.2.1) ((p_skS (T 0) len s).2.2.2.2.2.2.2.1)) ((p_skS (T 0) len s).2.2.2.2.2.2.2.2))) rfl ?_
    refine rr_go hC bk_X5_readPart_62_63 (l' := [(0, .ref 0)]) (st' := [.ref 0]) (w' := (W_R (rv len ((p_skS (T 0) len s).1) ((p_skS (T 0) len s).2.1) ((p_skS (T 0) len s).2.2.1) ((p_skS (T 0) len s).2.2.2.1)) T (gv ((p_skS (T 0) len s).2.2.2.2.1) ((p_skS (T 0) len s).2.2.2.2.2.1) ((p_skS (T 0) len s).2.2.2.2.2.2.1) ((p_skS (T 0) len s).2.2.2.2.2.2.2.1)) ((p_skS (T 0) len s).2.2.2.2.2.2.2.2))) rfl ?_
    refine rr_callV hC (by decide +kernel) kl_5_83 fX5_readClause (c5_readClause len T (p_skS (T 0) len s) (by omega) (by omega) hkc) rfl rfl [0, 1, 2, 3, 4, 5, 6, 7, 8] rfl rfl (Eq.refl 9) rfl rfl rfl (rest := []) rfl rfl ⟨Nat.zero_le _, Nat.zero_le _⟩ (w2 := (W_R (rv len ((p_pk (T 0) len (p_skS (T 0) len s)).1) ((p_pk (T 0) len (p_skS (T 0) len s)).2.1) ((p_pk (T 0) len (p_skS (T 0) len s)).2.2.1) ((p_pk (T 0) len (p_skS (T 0) len s)).2.2.2.1)) T (gv ((p_pk (T 0) len (p_skS (T 0) len s)).2.2.2.2.1) ((p_pk (T 0) len (p_skS (T 0) len s)).2.2.2.2.2.1) ((p_pk (T 0) len (p_skS (T 0) len s)).2.2.2.2.2.2.1) ((p_pk (T 0) len (p_skS (T 0) len s)).2.2.2.2.2.2.2.1)) ((p_pk (T 0) len (p_skS (T 0) len s)).2.2.2.2.2.2.2.2))) rfl ?_
    show rr_J Z 1 0 0 _ 66 [(0, .ref 0)] [] (W_R (rv len ((p_pk (T 0) len (p_skS (T 0) len s)).1) ((p_pk (T 0) len (p_skS (T 0) len s)).2.1) ((p_pk (T 0) len (p_skS (T 0) len s)).2.2.1) ((p_pk (T 0) len (p_skS (T 0) len s)).2.2.2.1)) T (gv ((p_pk (T 0) len (p_skS (T 0) len s)).2.2.2.2.1) ((p_pk (T 0) len (p_skS (T 0) len s)).2.2.2.2.2.1) ((p_pk (T 0) len (p_skS (T 0) len s)).2.2.2.2.2.2.1) ((p_pk (T 0) len (p_skS (T 0) len s)).2.2.2.2.2.2.2.1)) ((p_pk (T 0) len (p_skS (T 0) len s)).2.2.2.2.2.2.2.2))
    refine rr_go hC bk_X5_readPart_66_90 (l' := [(0, .ref 0)]) (st' := []) (w' := (W_R (rv len ((p_pk (T 0) len (p_skS (T 0) len s)).1) ((p_pk (T 0) len (p_skS (T 0) len s)).2.1) ((p_pk (T 0) len (p_skS (T 0) len s)).2.2.1) ((p_pk (T 0) len (p_skS (T 0) len s)).2.2.2.1)) T (gv ((p_pk (T 0) len (p_skS (T 0) len s)).2.2.2.2.1) ((p_pk (T 0) len (p_skS (T 0) len s)).2.2.2.2.2.1) ((p_pk (T 0) len (p_skS (T 0) len s)).2.2.2.2.2.2.1) ((p_pk (T 0) len (p_skS (T 0) len s)).2.2.2.2.2.2.2.1)) ((p_pk (T 0) len (p_skS (T 0) len s)).2.2.2.2.2.2.2.2))) rfl ?_
    exact rr_retv hC (by decide +kernel) (by unfold p_part; rw [if_neg hw, if_neg hc, if_pos hk]) ⟨Nat.zero_le _, Nat.zero_le _⟩
  by_cases ht : p_nl (T 0) len s.1 = 116
  · refine rr_lsw hC (dflt := 77) (ps := #[((99 : Int), (51 : Int)), (107, 58), (116, 65), (119, 44)]) (n := 44) (off := 65) (tgt := 69) (by decide +kernel) (by decide +kernel) (by rw [ht]; decide +kernel) ?_
    refine rr_cast (l' := [(0, .ref 0)]) rfl (st' := []) rfl (w' := (W_R (rv len ((p_skS (T 0) len s).1) ((p_skS (T 0) len s).2.1) ((p_skS (T 0) len s).2.2.1) ((p_skS (T 0) len s).2.2.2.1)) T (gv ((p_skS (T 0) len s).2.2.2.2.1) ((p_skS (T 0) len s).2.2.2.2.2.1) ((p_skS (T 0) len s).2.2.2.2.2.2.1) ((p_skS (T 0) len s).2.2.2.2.2.2.2.1)) ((p_skS (T 0) len s).2.2.2.2.2.2.2.2))) rfl ?_
    refine rr_go hC bk_X5_readPart_69_75 (l' := [(0, .ref 0)]) (st' := [.int (nI ((p_skS (T 0) len s).1)), .int 3, .ref 0]) (w' := (W_R (rv len ((p_skS (T 0) len s).1) ((p_skS (T 0) len s).2.1) ((p_skS (T 0) len s).2.2.1) ((p_skS (T 0) len s).2.2.2.1)) T (gv ((p_skS (T 0) len s).2.2.2.2.1) ((p_skS (T 0) len s).2.2.2.2.2.1) ((p_skS (T 0) len s).2.2.2.2.2.2.1) ((p_skS (T 0) len s).2.2.2.2.2.2.2.1)) ((p_skS (T 0) len s).2.2.2.2.2.2.2.2))) rfl ?_
    refine rr_callV hC (by decide +kernel) kl_5_56 fX5_fail (c5_fail len ((p_skS (T 0) len s).1) ((p_skS (T 0) len s).2.1) ((p_skS (T 0) len s).2.2.1) ((p_skS (T 0) len s).2.2.2.1) T 4 3 (nI ((p_skS (T 0) len s).1))) rfl rfl [0, 1] rfl rfl (Eq.refl 2) rfl rfl rfl (rest := []) rfl rfl ⟨Nat.zero_le _, Nat.zero_le _⟩ (w2 := (W_R (rv len ((p_skS (T 0) len s).1) ((p_skS (T 0) len s).2.1) ((p_skS (T 0) len s).2.2.1) (p_fl 3 (nI ((p_skS (T 0) len s).1)) ((p_skS (T 0) len s).2.2.2.1))) T (gv ((p_skS (T 0) len s).2.2.2.2.1) ((p_skS (T 0) len s).2.2.2.2.2.1) ((p_skS (T 0) len s).2.2.2.2.2.2.1) ((p_skS (T 0) len s).2.2.2.2.2.2.2.1)) ((p_skS (T 0) len s).2.2.2.2.2.2.2.2))) rfl ?_
    show rr_J Z 1 0 0 _ 78 [(0, .ref 0)] [] (W_R (rv len ((p_skS (T 0) len s).1) ((p_skS (T 0) len s).2.1) ((p_skS (T 0) len s).2.2.1) (p_fl 3 (nI ((p_skS (T 0) len s).1)) ((p_skS (T 0) len s).2.2.2.1))) T (gv ((p_skS (T 0) len s).2.2.2.2.1) ((p_skS (T 0) len s).2.2.2.2.2.1) ((p_skS (T 0) len s).2.2.2.2.2.2.1) ((p_skS (T 0) len s).2.2.2.2.2.2.2.1)) ((p_skS (T 0) len s).2.2.2.2.2.2.2.2))
    refine rr_go hC bk_X5_readPart_78_90 (l' := [(0, .ref 0)]) (st' := []) (w' := (W_R (rv len ((p_skS (T 0) len s).1) ((p_skS (T 0) len s).2.1) ((p_skS (T 0) len s).2.2.1) (p_fl 3 (nI ((p_skS (T 0) len s).1)) ((p_skS (T 0) len s).2.2.2.1))) T (gv ((p_skS (T 0) len s).2.2.2.2.1) ((p_skS (T 0) len s).2.2.2.2.2.1) ((p_skS (T 0) len s).2.2.2.2.2.2.1) ((p_skS (T 0) len s).2.2.2.2.2.2.2.1)) ((p_skS (T 0) len s).2.2.2.2.2.2.2.2))) rfl ?_
    exact rr_retv hC (by decide +kernel) (by unfold p_part; rw [if_neg hw, if_neg hc, if_neg hk, if_pos ht]; rfl) ⟨Nat.zero_le _, Nat.zero_le _⟩
  have hdf := p_lsd hw hc hk ht
  refine rr_lsw hC (dflt := 77) (ps := #[((99 : Int), (51 : Int)), (107, 58), (116, 65), (119, 44)]) (n := 44) (off := 77) (tgt := 81) (by decide +kernel) (by decide +kernel) (by exact hdf) ?_
  refine rr_cast (l' := [(0, .ref 0)]) rfl (st' := []) rfl (w' := (W_R (rv len ((p_skS (T 0) len s).1) ((p_skS (T 0) len s).2.1) ((p_skS (T 0) len s).2.2.1) ((p_skS (T 0) len s).2.2.2.1)) T (gv ((p_skS (T 0) len s).2.2.2.2.1) ((p_skS (T 0) len s).2.2.2.2.2.1) ((p_skS (T 0) len s).2.2.2.2.2.2.1) ((p_skS (T 0) len s).2.2.2.2.2.2.2.1)) ((p_skS (T 0) len s).2.2.2.2.2.2.2.2))) rfl ?_
  refine rr_go hC bk_X5_readPart_81_87 (l' := [(0, .ref 0)]) (st' := [.int (nI ((p_skS (T 0) len s).1)), .int 1, .ref 0]) (w' := (W_R (rv len ((p_skS (T 0) len s).1) ((p_skS (T 0) len s).2.1) ((p_skS (T 0) len s).2.2.1) ((p_skS (T 0) len s).2.2.2.1)) T (gv ((p_skS (T 0) len s).2.2.2.2.1) ((p_skS (T 0) len s).2.2.2.2.2.1) ((p_skS (T 0) len s).2.2.2.2.2.2.1) ((p_skS (T 0) len s).2.2.2.2.2.2.2.1)) ((p_skS (T 0) len s).2.2.2.2.2.2.2.2))) rfl ?_
  refine rr_callV hC (by decide +kernel) kl_5_56 fX5_fail (c5_fail len ((p_skS (T 0) len s).1) ((p_skS (T 0) len s).2.1) ((p_skS (T 0) len s).2.2.1) ((p_skS (T 0) len s).2.2.2.1) T 4 1 (nI ((p_skS (T 0) len s).1))) rfl rfl [0, 1] rfl rfl (Eq.refl 2) rfl rfl rfl (rest := []) rfl rfl ⟨Nat.zero_le _, Nat.zero_le _⟩ (w2 := (W_R (rv len ((p_skS (T 0) len s).1) ((p_skS (T 0) len s).2.1) ((p_skS (T 0) len s).2.2.1) (p_fl 1 (nI ((p_skS (T 0) len s).1)) ((p_skS (T 0) len s).2.2.2.1))) T (gv ((p_skS (T 0) len s).2.2.2.2.1) ((p_skS (T 0) len s).2.2.2.2.2.1) ((p_skS (T 0) len s).2.2.2.2.2.2.1) ((p_skS (T 0) len s).2.2.2.2.2.2.2.1)) ((p_skS (T 0) len s).2.2.2.2.2.2.2.2))) rfl ?_
  show rr_J Z 1 0 0 _ 90 [(0, .ref 0)] [] (W_R (rv len ((p_skS (T 0) len s).1) ((p_skS (T 0) len s).2.1) ((p_skS (T 0) len s).2.2.1) (p_fl 1 (nI ((p_skS (T 0) len s).1)) ((p_skS (T 0) len s).2.2.2.1))) T (gv ((p_skS (T 0) len s).2.2.2.2.1) ((p_skS (T 0) len s).2.2.2.2.2.1) ((p_skS (T 0) len s).2.2.2.2.2.2.1) ((p_skS (T 0) len s).2.2.2.2.2.2.2.1)) ((p_skS (T 0) len s).2.2.2.2.2.2.2.2))
  exact rr_retv hC (by decide +kernel) (by unfold p_part; rw [if_neg hw, if_neg hc, if_neg hk, if_neg ht]; rfl) ⟨Nat.zero_le _, Nat.zero_le _⟩
theorem bk_X5_read_0_20 : rr_chk mX5_read [(.aload_n 0, 0, 0, 0), (.iconst 0, 0, 0, 0), (.putfield 29, 0, 5, 3), (.aload_n 0, 0, 0, 0), (.iconst 0, 0, 0, 0), (.putfield 32, 1, 5, 5), (.aload_n 0, 0, 0, 0), (.iconst 0, 0, 0, 0), (.putfield 36, 0, 5, 6), (.aload_n 0, 0, 0, 0), (.iconst (-1), (-1), 0, 0), (.putfield 22, 0, 5, 7)] 0 20 = true := by decide +kernel
theorem bk_X5_read_20_24 : rr_chk mX5_read [(.aload_n 0, 0, 0, 0), (.getfield 18, 0, 5, 1)] 20 24 = true := by decide +kernel
theorem bk_X5_read_27_28 : rr_chk mX5_read [(.aload_n 0, 0, 0, 0)] 27 28 = true := by decide +kernel
theorem bk_X5_read_31_32 : rr_chk mX5_read [(.iconst (-1), (-1), 0, 0)] 31 32 = true := by decide +kernel
theorem bk_X5_read_73_78 : rr_chk mX5_read [(.aload_n 0, 0, 0, 0), (.iconst 0, 0, 0, 0), (.putfield 26, 0, 5, 2)] 73 78 = true := by decide +kernel
theorem bk_X5_read_35_36 : rr_chk mX5_read [(.aload_n 0, 0, 0, 0)] 35 36 = true := by decide +kernel
theorem bk_X5_read_39_41 : rr_chk mX5_read [(.iconst 0, 0, 0, 0), (.istore_n 1, 0, 1, 0)] 39 41 = true := by decide +kernel
theorem bk_X5_read_41_45 : rr_chk mX5_read [(.iload_n 1, 0, 1, 0), (.sipush 240, 240, 0, 0)] 41 45 = true := by decide +kernel
theorem bk_X5_read_48_52 : rr_chk mX5_read [(.aload_n 0, 0, 0, 0), (.getfield 36, 0, 5, 6)] 48 52 = true := by decide +kernel
theorem bk_X5_read_55_56 : rr_chk mX5_read [(.aload_n 0, 0, 0, 0)] 55 56 = true := by decide +kernel
theorem bk_X5_read_59_60 : rr_chk mX5_read [(.iconst (-1), (-1), 0, 0)] 59 60 = true := by decide +kernel
theorem bk_X5_read_63_64 : rr_chk mX5_read [(.aload_n 0, 0, 0, 0)] 63 64 = true := by decide +kernel
theorem bk_X5_read_67_41 : rr_chk mX5_read [(.iinc 1 1, 1, 1, 0), (.goto (-29), 0, 0, 0)] 67 41 = true := by decide +kernel
set_option maxRecDepth 100000 in
set_option maxHeartbeats 4000000 in
theorem c5_read (len a na : Nat) (wt : Bool) (q : Int32 × Int32) (T : Nat → Nat → Int32) (tc wd cc kc : Nat) (H : Nat → Nat → Int32) (hlen : len ≤ 240) : rr_C mX5_read 5 [.ref 0] (W_R (rv len a na wt q) T (gv tc wd cc kc) H) 0 0 none (W_R (rv 0 ((p_read (T 0) len na H).1) ((p_read (T 0) len na H).2.1) ((p_read (T 0) len na H).2.2.1) ((p_read (T 0) len na H).2.2.2.1)) T (gv ((p_read (T 0) len na H).2.2.2.2.1) ((p_read (T 0) len na H).2.2.2.2.2.1) ((p_read (T 0) len na H).2.2.2.2.2.2.1) ((p_read (T 0) len na H).2.2.2.2.2.2.2.1)) ((p_read (T 0) len na H).2.2.2.2.2.2.2.2)) := by
  refine rr_C.of (n := 0) fX5_read.1 rfl rfl (fun Z hC => ?_)
  show rr_J Z 2 0 0 (rr_MQ Z 0 0 none (W_R (rv 0 ((p_read (T 0) len na H).1) ((p_read (T 0) len na H).2.1) ((p_read (T 0) len na H).2.2.1) ((p_read (T 0) len na H).2.2.2.1)) T (gv ((p_read (T 0) len na H).2.2.2.2.1) ((p_read (T 0) len na H).2.2.2.2.2.1) ((p_read (T 0) len na H).2.2.2.2.2.2.1) ((p_read (T 0) len na H).2.2.2.2.2.2.2.1)) ((p_read (T 0) len na H).2.2.2.2.2.2.2.2))) 0 [(0, .ref 0)] [] (W_R (rv len a na wt q) T (gv tc wd cc kc) H)
  refine rr_go hC bk_X5_read_0_20 (l' := [(0, .ref 0)]) (st' := []) (w' := (W_R (upd (upd (upd (upd (rv len a na wt q) 1 0) 3 0) 4 0) 5 (-1)) T (gv tc wd cc kc) H)) rfl ?_
  refine rr_cast (l' := [(0, .ref 0)]) rfl (st' := []) rfl (w' := (W_R (rv len 0 na false ((0, -1) : Int32 × Int32)) T (gv tc wd cc kc) H)) rfl ?_
  refine rr_go hC bk_X5_read_20_24 (l' := [(0, .ref 0)]) (st' := [.ref 2]) (w' := (W_R (rv len 0 na false ((0, -1) : Int32 × Int32)) T (gv tc wd cc kc) H)) rfl ?_
  refine rr_callV hC (by decide +kernel) kl_5_39 fX8_empty (c8_empty tc wd cc kc H ) rfl rfl [2, 3, 4, 5, 6, 7, 8] rfl rfl (Eq.refl 7) rfl rfl rfl (rest := []) rfl rfl ⟨Nat.zero_le _, Nat.zero_le _⟩ (w2 := (W_R (rv len 0 na false ((0, -1) : Int32 × Int32)) T (gv 0 0 0 0) H)) rfl ?_
  show rr_J Z 2 0 0 _ 27 [(0, .ref 0)] [] (W_R (rv len 0 na false ((0, -1) : Int32 × Int32)) T (gv 0 0 0 0) H)
  refine rr_go hC bk_X5_read_27_28 (l' := [(0, .ref 0)]) (st' := [.ref 0]) (w' := (W_R (rv len 0 na false ((0, -1) : Int32 × Int32)) T (gv 0 0 0 0) H)) rfl ?_
  refine rr_callV hC (by decide +kernel) kl_5_42 fX5_nextLetter (c5_nextLetter len 0 na false ((0, -1) : Int32 × Int32) T 4 (by omega) (by omega)) rfl rfl [0, 1] rfl rfl (Eq.refl 2) rfl rfl rfl (rest := []) rfl rfl ⟨Nat.zero_le _, Nat.zero_le _⟩ (w2 := (W_R (rv len (p_sk (T 0) len 0) na false ((0, -1) : Int32 × Int32)) T (gv 0 0 0 0) H)) rfl ?_
  show rr_J Z 2 0 0 _ 31 [(0, .ref 0)] [.int (p_nl (T 0) len 0)] (W_R (rv len (p_sk (T 0) len 0) na false ((0, -1) : Int32 × Int32)) T (gv 0 0 0 0) H)
  have hsk15 := p_sk_le (T 0) len 0
  refine rr_cast (l' := [(0, .ref 0)]) rfl (st' := [.int (p_nl (T 0) len 0)]) rfl (w' := (W_R (rv len ((p_skS (T 0) len (p_s0 na H)).1) ((p_skS (T 0) len (p_s0 na H)).2.1) ((p_skS (T 0) len (p_s0 na H)).2.2.1) ((p_skS (T 0) len (p_s0 na H)).2.2.2.1)) T (gv ((p_skS (T 0) len (p_s0 na H)).2.2.2.2.1) ((p_skS (T 0) len (p_s0 na H)).2.2.2.2.2.1) ((p_skS (T 0) len (p_s0 na H)).2.2.2.2.2.2.1) ((p_skS (T 0) len (p_s0 na H)).2.2.2.2.2.2.2.1)) ((p_skS (T 0) len (p_s0 na H)).2.2.2.2.2.2.2.2))) rfl ?_
  have hk0 : (p_skS (T 0) len (p_s0 na H)).1 ≤ max 0 len := p_sk_le _ _ _
  refine rr_go hC bk_X5_read_31_32 (l' := [(0, .ref 0)]) (st' := [.int (-1), .int (p_nl (T 0) len 0)]) (w' := (W_R (rv len ((p_skS (T 0) len (p_s0 na H)).1) ((p_skS (T 0) len (p_s0 na H)).2.1) ((p_skS (T 0) len (p_s0 na H)).2.2.1) ((p_skS (T 0) len (p_s0 na H)).2.2.2.1)) T (gv ((p_skS (T 0) len (p_s0 na H)).2.2.2.2.1) ((p_skS (T 0) len (p_s0 na H)).2.2.2.2.2.1) ((p_skS (T 0) len (p_s0 na H)).2.2.2.2.2.2.1) ((p_skS (T 0) len (p_s0 na H)).2.2.2.2.2.2.2.1)) ((p_skS (T 0) len (p_s0 na H)).2.2.2.2.2.2.2.2))) rfl ?_
  refine rr_icmp_eq hC (off := 41) (tgt := 73) (by decide +kernel) (fun h32 => ?_) (fun h32 => ?_)
  · refine rr_go hC bk_X5_read_73_78 (l' := [(0, .ref 0)]) (st' := []) (w' := (W_R (upd (rv len ((p_skS (T 0) len (p_s0 na H)).1) ((p_skS (T 0) len (p_s0 na H)).2.1) ((p_skS (T 0) len (p_s0 na H)).2.2.1) ((p_skS (T 0) len (p_s0 na H)).2.2.2.1)) 0 0) T (gv ((p_skS (T 0) len (p_s0 na H)).2.2.2.2.1) ((p_skS (T 0) len (p_s0 na H)).2.2.2.2.2.1) ((p_skS (T 0) len (p_s0 na H)).2.2.2.2.2.2.1) ((p_skS (T 0) len (p_s0 na H)).2.2.2.2.2.2.2.1)) ((p_skS (T 0) len (p_s0 na H)).2.2.2.2.2.2.2.2))) rfl ?_
    exact rr_retv hC (by decide +kernel) (by rw [show (p_read (T 0) len na H) = (p_skS (T 0) len (p_s0 na H)) from if_pos h32]; rfl) ⟨Nat.zero_le _, Nat.zero_le _⟩
  · refine rr_go hC bk_X5_read_35_36 (l' := [(0, .ref 0)]) (st' := [.ref 0]) (w' := (W_R (rv len ((p_skS (T 0) len (p_s0 na H)).1) ((p_skS (T 0) len (p_s0 na H)).2.1) ((p_skS (T 0) len (p_s0 na H)).2.2.1) ((p_skS (T 0) len (p_s0 na H)).2.2.2.1)) T (gv ((p_skS (T 0) len (p_s0 na H)).2.2.2.2.1) ((p_skS (T 0) len (p_s0 na H)).2.2.2.2.2.1) ((p_skS (T 0) len (p_s0 na H)).2.2.2.2.2.2.1) ((p_skS (T 0) len (p_s0 na H)).2.2.2.2.2.2.2.1)) ((p_skS (T 0) len (p_s0 na H)).2.2.2.2.2.2.2.2))) rfl ?_
    refine rr_callV hC (by decide +kernel) kl_5_46 fX5_readTides (c5_readTides len T (p_skS (T 0) len (p_s0 na H)) (by omega) (by omega) rfl) rfl rfl [0, 1, 2, 3, 4, 5, 6, 7, 8] rfl rfl (Eq.refl 9) rfl rfl rfl (rest := []) rfl rfl ⟨Nat.zero_le _, Nat.zero_le _⟩ (w2 := (W_R (rv len ((p_pt (T 0) len (p_skS (T 0) len (p_s0 na H))).1) ((p_pt (T 0) len (p_skS (T 0) len (p_s0 na H))).2.1) ((p_pt (T 0) len (p_skS (T 0) len (p_s0 na H))).2.2.1) ((p_pt (T 0) len (p_skS (T 0) len (p_s0 na H))).2.2.2.1)) T (gv ((p_pt (T 0) len (p_skS (T 0) len (p_s0 na H))).2.2.2.2.1) ((p_pt (T 0) len (p_skS (T 0) len (p_s0 na H))).2.2.2.2.2.1) ((p_pt (T 0) len (p_skS (T 0) len (p_s0 na H))).2.2.2.2.2.2.1) ((p_pt (T 0) len (p_skS (T 0) len (p_s0 na H))).2.2.2.2.2.2.2.1)) ((p_pt (T 0) len (p_skS (T 0) len (p_s0 na H))).2.2.2.2.2.2.2.2))) rfl ?_
    show rr_J Z 2 0 0 _ 39 [(0, .ref 0)] [] (W_R (rv len ((p_pt (T 0) len (p_skS (T 0) len (p_s0 na H))).1) ((p_pt (T 0) len (p_skS (T 0) len (p_s0 na H))).2.1) ((p_pt (T 0) len (p_skS (T 0) len (p_s0 na H))).2.2.1) ((p_pt (T 0) len (p_skS (T 0) len (p_s0 na H))).2.2.2.1)) T (gv ((p_pt (T 0) len (p_skS (T 0) len (p_s0 na H))).2.2.2.2.1) ((p_pt (T 0) len (p_skS (T 0) len (p_s0 na H))).2.2.2.2.2.1) ((p_pt (T 0) len (p_skS (T 0) len (p_s0 na H))).2.2.2.2.2.2.1) ((p_pt (T 0) len (p_skS (T 0) len (p_s0 na H))).2.2.2.2.2.2.2.1)) ((p_pt (T 0) len (p_skS (T 0) len (p_s0 na H))).2.2.2.2.2.2.2.2))
    have hp1 := p_pt_le (T 0) len (p_skS (T 0) len (p_s0 na H))
    have hp2 : (p_pt (T 0) len (p_skS (T 0) len (p_s0 na H))).2.2.2.2.2.2.1 = 0 := (p_pt_cc (T 0) len (p_skS (T 0) len (p_s0 na H))).1
    have hp3 : (p_pt (T 0) len (p_skS (T 0) len (p_s0 na H))).2.2.2.2.2.2.2.1 = 0 := (p_pt_cc (T 0) len (p_skS (T 0) len (p_s0 na H))).2
    refine rr_go hC bk_X5_read_39_41 (l' := [(0, .ref 0), (1, .int 0)]) (st' := []) (w' := (W_R (rv len ((p_pt (T 0) len (p_skS (T 0) len (p_s0 na H))).1) ((p_pt (T 0) len (p_skS (T 0) len (p_s0 na H))).2.1) ((p_pt (T 0) len (p_skS (T 0) len (p_s0 na H))).2.2.1) ((p_pt (T 0) len (p_skS (T 0) len (p_s0 na H))).2.2.2.1)) T (gv ((p_pt (T 0) len (p_skS (T 0) len (p_s0 na H))).2.2.2.2.1) ((p_pt (T 0) len (p_skS (T 0) len (p_s0 na H))).2.2.2.2.2.1) ((p_pt (T 0) len (p_skS (T 0) len (p_s0 na H))).2.2.2.2.2.2.1) ((p_pt (T 0) len (p_skS (T 0) len (p_s0 na H))).2.2.2.2.2.2.2.1)) ((p_pt (T 0) len (p_skS (T 0) len (p_s0 na H))).2.2.2.2.2.2.2.2))) rfl ?_
    have lp41 : ∀ (j n : Nat), n + j = 240 → 0 ≤ n → ∀ (u : p_RS), u.1 ≤ 1000 + 2 * n → u.2.2.2.2.2.2.1 ≤ 9 → u.2.2.2.2.2.2.2.1 ≤ 6 → (p_read (T 0) len na H) = p_rl (T 0) len (240 - n) u → rr_J Z 2 0 0 (rr_MQ Z 0 0 none (W_R (rv 0 ((p_read (T 0) len na H).1) ((p_read (T 0) len na H).2.1) ((p_read (T 0) len na H).2.2.1) ((p_read (T 0) len na H).2.2.2.1)) T (gv ((p_read (T 0) len na H).2.2.2.2.1) ((p_read (T 0) len na H).2.2.2.2.2.1) ((p_read (T 0) len na H).2.2.2.2.2.2.1) ((p_read (T 0) len na H).2.2.2.2.2.2.2.1)) ((p_read (T 0) len na H).2.2.2.2.2.2.2.2))) 41 [(0, .ref 0), (1, .int (nI n))] [] (W_R (rv len u.1 u.2.1 u.2.2.1 u.2.2.2.1) T (gv u.2.2.2.2.1 u.2.2.2.2.2.1 u.2.2.2.2.2.2.1 u.2.2.2.2.2.2.2.1) u.2.2.2.2.2.2.2.2) := by
      intro j
      induction j with
      | zero =>
        intro n hk41 hlo41 u hu hc9 hk6 hX
        refine rr_go hC bk_X5_read_41_45 (l' := [(0, .ref 0), (1, .int (nI n))]) (st' := [.int 240, .int (nI n)]) (w' := (W_R (rv len u.1 u.2.1 u.2.2.1 u.2.2.2.1) T (gv u.2.2.2.2.1 u.2.2.2.2.2.1 u.2.2.2.2.2.2.1 u.2.2.2.2.2.2.2.1) u.2.2.2.2.2.2.2.2)) rfl ?_
        refine rr_icmp_ge hC (off := 28) (tgt := 73) (by decide +kernel) (fun h45 => ?_) (fun h45 => by rw [rr_ln_le (a := 240) (by omega) (by omega)] at h45; omega)
        rw [rr_ln_le (a := 240) (by omega) (by omega)] at h45
        refine rr_go hC bk_X5_read_73_78 (l' := [(0, .ref 0), (1, .int (nI n))]) (st' := []) (w' := (W_R (upd (rv len u.1 u.2.1 u.2.2.1 u.2.2.2.1) 0 0) T (gv u.2.2.2.2.1 u.2.2.2.2.2.1 u.2.2.2.2.2.2.1 u.2.2.2.2.2.2.2.1) u.2.2.2.2.2.2.2.2)) rfl ?_
        exact rr_retv hC (by decide +kernel) (by rw [show (p_read (T 0) len na H) = u from hX.trans (by rw [show 240 - n = 0 by omega]; exact p_rl_0 _ _ _)]; rfl) ⟨Nat.zero_le _, Nat.zero_le _⟩
      | succ j ih =>
        intro n hk41 hlo41 u hu hc9 hk6 hX
        refine rr_go hC bk_X5_read_41_45 (l' := [(0, .ref 0), (1, .int (nI n))]) (st' := [.int 240, .int (nI n)]) (w' := (W_R (rv len u.1 u.2.1 u.2.2.1 u.2.2.2.1) T (gv u.2.2.2.2.1 u.2.2.2.2.2.1 u.2.2.2.2.2.2.1 u.2.2.2.2.2.2.2.1) u.2.2.2.2.2.2.2.2)) rfl ?_
        refine rr_icmp_ge hC (off := 28) (tgt := 73) (by decide +kernel) (fun h45 => by rw [rr_ln_le (a := 240) (by omega) (by omega)] at h45; omega) (fun h45 => ?_)
        rw [rr_ln_le (a := 240) (by omega) (by omega)] at h45
        refine rr_go hC bk_X5_read_48_52 (l' := [(0, .ref 0), (1, .int (nI n))]) (st' := [.int u.2.2.2.1.1]) (w' := (W_R (rv len u.1 u.2.1 u.2.2.1 u.2.2.2.1) T (gv u.2.2.2.2.1 u.2.2.2.2.2.1 u.2.2.2.2.2.2.1 u.2.2.2.2.2.2.2.1) u.2.2.2.2.2.2.2.2)) rfl ?_
        refine rr_if_ne hC (off := 21) (tgt := 73) (by decide +kernel) (fun h52 => ?_) (fun h52 => ?_)
        · refine rr_go hC bk_X5_read_73_78 (l' := [(0, .ref 0), (1, .int (nI n))]) (st' := []) (w' := (W_R (upd (rv len u.1 u.2.1 u.2.2.1 u.2.2.2.1) 0 0) T (gv u.2.2.2.2.1 u.2.2.2.2.2.1 u.2.2.2.2.2.2.1 u.2.2.2.2.2.2.2.1) u.2.2.2.2.2.2.2.2)) rfl ?_
          exact rr_retv hC (by decide +kernel) (by rw [show (p_read (T 0) len na H) = u from hX.trans (by rw [show 240 - n = (240 - (n + 1)) + 1 by omega]; exact p_rl_1 _ _ _ _ h52)]; rfl) ⟨Nat.zero_le _, Nat.zero_le _⟩
        · refine rr_go hC bk_X5_read_55_56 (l' := [(0, .ref 0), (1, .int (nI n))]) (st' := [.ref 0]) (w' := (W_R (rv len u.1 u.2.1 u.2.2.1 u.2.2.2.1) T (gv u.2.2.2.2.1 u.2.2.2.2.2.1 u.2.2.2.2.2.2.1 u.2.2.2.2.2.2.2.1) u.2.2.2.2.2.2.2.2)) rfl ?_
          refine rr_callV hC (by decide +kernel) kl_5_42 fX5_nextLetter (c5_nextLetter len u.1 u.2.1 u.2.2.1 u.2.2.2.1 T 4 (by omega) (by omega)) rfl rfl [0, 1] rfl rfl (Eq.refl 2) rfl rfl rfl (rest := []) rfl rfl ⟨Nat.zero_le _, Nat.zero_le _⟩ (w2 := (W_R (rv len (p_sk (T 0) len u.1) u.2.1 u.2.2.1 u.2.2.2.1) T (gv u.2.2.2.2.1 u.2.2.2.2.2.1 u.2.2.2.2.2.2.1 u.2.2.2.2.2.2.2.1) u.2.2.2.2.2.2.2.2)) rfl ?_
          show rr_J Z 2 0 0 _ 59 [(0, .ref 0), (1, .int (nI n))] [.int (p_nl (T 0) len u.1)] (W_R (rv len (p_sk (T 0) len u.1) u.2.1 u.2.2.1 u.2.2.2.1) T (gv u.2.2.2.2.1 u.2.2.2.2.2.1 u.2.2.2.2.2.2.1 u.2.2.2.2.2.2.2.1) u.2.2.2.2.2.2.2.2)
          have hsk16 := p_sk_le (T 0) len u.1
          refine rr_cast (l' := [(0, .ref 0), (1, .int (nI n))]) rfl (st' := [.int (p_nl (T 0) len u.1)]) rfl (w' := (W_R (rv len ((p_skS (T 0) len u).1) ((p_skS (T 0) len u).2.1) ((p_skS (T 0) len u).2.2.1) ((p_skS (T 0) len u).2.2.2.1)) T (gv ((p_skS (T 0) len u).2.2.2.2.1) ((p_skS (T 0) len u).2.2.2.2.2.1) ((p_skS (T 0) len u).2.2.2.2.2.2.1) ((p_skS (T 0) len u).2.2.2.2.2.2.2.1)) ((p_skS (T 0) len u).2.2.2.2.2.2.2.2))) rfl ?_
          have hsk : (p_skS (T 0) len u).1 ≤ max u.1 len := p_sk_le _ _ _
          have hcc2 : (p_skS (T 0) len u).2.2.2.2.2.2.1 ≤ 9 := hc9
          have hkc2 : (p_skS (T 0) len u).2.2.2.2.2.2.2.1 ≤ 6 := hk6
          refine rr_go hC bk_X5_read_59_60 (l' := [(0, .ref 0), (1, .int (nI n))]) (st' := [.int (-1), .int (p_nl (T 0) len u.1)]) (w' := (W_R (rv len ((p_skS (T 0) len u).1) ((p_skS (T 0) len u).2.1) ((p_skS (T 0) len u).2.2.1) ((p_skS (T 0) len u).2.2.2.1)) T (gv ((p_skS (T 0) len u).2.2.2.2.1) ((p_skS (T 0) len u).2.2.2.2.2.1) ((p_skS (T 0) len u).2.2.2.2.2.2.1) ((p_skS (T 0) len u).2.2.2.2.2.2.2.1)) ((p_skS (T 0) len u).2.2.2.2.2.2.2.2))) rfl ?_
          refine rr_icmp_eq hC (off := 13) (tgt := 73) (by decide +kernel) (fun h60 => ?_) (fun h60 => ?_)
          · refine rr_go hC bk_X5_read_73_78 (l' := [(0, .ref 0), (1, .int (nI n))]) (st' := []) (w' := (W_R (upd (rv len ((p_skS (T 0) len u).1) ((p_skS (T 0) len u).2.1) ((p_skS (T 0) len u).2.2.1) ((p_skS (T 0) len u).2.2.2.1)) 0 0) T (gv ((p_skS (T 0) len u).2.2.2.2.1) ((p_skS (T 0) len u).2.2.2.2.2.1) ((p_skS (T 0) len u).2.2.2.2.2.2.1) ((p_skS (T 0) len u).2.2.2.2.2.2.2.1)) ((p_skS (T 0) len u).2.2.2.2.2.2.2.2))) rfl ?_
            exact rr_retv hC (by decide +kernel) (by rw [show (p_read (T 0) len na H) = p_skS (T 0) len u from hX.trans (by rw [show 240 - n = (240 - (n + 1)) + 1 by omega]; exact p_rl_2 _ _ _ _ h52 h60)]; rfl) ⟨Nat.zero_le _, Nat.zero_le _⟩
          · refine rr_go hC bk_X5_read_63_64 (l' := [(0, .ref 0), (1, .int (nI n))]) (st' := [.ref 0]) (w' := (W_R (rv len ((p_skS (T 0) len u).1) ((p_skS (T 0) len u).2.1) ((p_skS (T 0) len u).2.2.1) ((p_skS (T 0) len u).2.2.2.1)) T (gv ((p_skS (T 0) len u).2.2.2.2.1) ((p_skS (T 0) len u).2.2.2.2.2.1) ((p_skS (T 0) len u).2.2.2.2.2.2.1) ((p_skS (T 0) len u).2.2.2.2.2.2.2.1)) ((p_skS (T 0) len u).2.2.2.2.2.2.2.2))) rfl ?_
            refine rr_callV hC (by decide +kernel) kl_5_49 fX5_readPart (c5_readPart len T (p_skS (T 0) len u) (by omega) (by omega) hcc2 hkc2) rfl rfl [0, 1, 2, 3, 4, 5, 6, 7, 8] rfl rfl (Eq.refl 9) rfl rfl rfl (rest := []) rfl rfl ⟨Nat.zero_le _, Nat.zero_le _⟩ (w2 := (W_R (rv len ((p_part (T 0) len (p_skS (T 0) len u)).1) ((p_part (T 0) len (p_skS (T 0) len u)).2.1) ((p_part (T 0) len (p_skS (T 0) len u)).2.2.1) ((p_part (T 0) len (p_skS (T 0) len u)).2.2.2.1)) T (gv ((p_part (T 0) len (p_skS (T 0) len u)).2.2.2.2.1) ((p_part (T 0) len (p_skS (T 0) len u)).2.2.2.2.2.1) ((p_part (T 0) len (p_skS (T 0) len u)).2.2.2.2.2.2.1) ((p_part (T 0) len (p_skS (T 0) len u)).2.2.2.2.2.2.2.1)) ((p_part (T 0) len (p_skS (T 0) len u)).2.2.2.2.2.2.2.2))) rfl ?_
            show rr_J Z 2 0 0 _ 67 [(0, .ref 0), (1, .int (nI n))] [] (W_R (rv len ((p_part (T 0) len (p_skS (T 0) len u)).1) ((p_part (T 0) len (p_skS (T 0) len u)).2.1) ((p_part (T 0) len (p_skS (T 0) len u)).2.2.1) ((p_part (T 0) len (p_skS (T 0) len u)).2.2.2.1)) T (gv ((p_part (T 0) len (p_skS (T 0) len u)).2.2.2.2.1) ((p_part (T 0) len (p_skS (T 0) len u)).2.2.2.2.2.1) ((p_part (T 0) len (p_skS (T 0) len u)).2.2.2.2.2.2.1) ((p_part (T 0) len (p_skS (T 0) len u)).2.2.2.2.2.2.2.1)) ((p_part (T 0) len (p_skS (T 0) len u)).2.2.2.2.2.2.2.2))
            have hpl := p_part_le (T 0) len (p_skS (T 0) len u)
            have hpc := p_part_cc (T 0) len (p_skS (T 0) len u) hc9 hk6
            refine rr_go hC bk_X5_read_67_41 (l' := [(0, .ref 0), (1, .int ((nI n) + 1))]) (st' := []) (w' := (W_R (rv len ((p_part (T 0) len (p_skS (T 0) len u)).1) ((p_part (T 0) len (p_skS (T 0) len u)).2.1) ((p_part (T 0) len (p_skS (T 0) len u)).2.2.1) ((p_part (T 0) len (p_skS (T 0) len u)).2.2.2.1)) T (gv ((p_part (T 0) len (p_skS (T 0) len u)).2.2.2.2.1) ((p_part (T 0) len (p_skS (T 0) len u)).2.2.2.2.2.1) ((p_part (T 0) len (p_skS (T 0) len u)).2.2.2.2.2.2.1) ((p_part (T 0) len (p_skS (T 0) len u)).2.2.2.2.2.2.2.1)) ((p_part (T 0) len (p_skS (T 0) len u)).2.2.2.2.2.2.2.2))) rfl ?_
            rw [show ((nI n) + 1 : Int32) = nI (n + 1) from nI_add n 1]
            exact rr_cast (l' := [(0, .ref 0), (1, .int (nI (n + 1)))]) (by rfl) rfl (w' := (W_R (rv len ((p_part (T 0) len (p_skS (T 0) len u)).1) ((p_part (T 0) len (p_skS (T 0) len u)).2.1) ((p_part (T 0) len (p_skS (T 0) len u)).2.2.1) ((p_part (T 0) len (p_skS (T 0) len u)).2.2.2.1)) T (gv ((p_part (T 0) len (p_skS (T 0) len u)).2.2.2.2.1) ((p_part (T 0) len (p_skS (T 0) len u)).2.2.2.2.2.1) ((p_part (T 0) len (p_skS (T 0) len u)).2.2.2.2.2.2.1) ((p_part (T 0) len (p_skS (T 0) len u)).2.2.2.2.2.2.2.1)) ((p_part (T 0) len (p_skS (T 0) len u)).2.2.2.2.2.2.2.2))) (by rfl) (ih (n + 1) (by omega) (by omega) (p_part (T 0) len (p_skS (T 0) len u)) (by omega) hpc.1 hpc.2 (hX.trans (by rw [show 240 - n = (240 - (n + 1)) + 1 by omega]; exact p_rl_3 _ _ _ _ h52 h60)))
    exact rr_cast (l' := [(0, .ref 0), (1, .int (nI 0))]) (by first | rfl | (rfl)) rfl (w' := (W_R (rv len ((p_pt (T 0) len (p_skS (T 0) len (p_s0 na H))).1) ((p_pt (T 0) len (p_skS (T 0) len (p_s0 na H))).2.1) ((p_pt (T 0) len (p_skS (T 0) len (p_s0 na H))).2.2.1) ((p_pt (T 0) len (p_skS (T 0) len (p_s0 na H))).2.2.2.1)) T (gv ((p_pt (T 0) len (p_skS (T 0) len (p_s0 na H))).2.2.2.2.1) ((p_pt (T 0) len (p_skS (T 0) len (p_s0 na H))).2.2.2.2.2.1) ((p_pt (T 0) len (p_skS (T 0) len (p_s0 na H))).2.2.2.2.2.2.1) ((p_pt (T 0) len (p_skS (T 0) len (p_s0 na H))).2.2.2.2.2.2.2.1)) ((p_pt (T 0) len (p_skS (T 0) len (p_s0 na H))).2.2.2.2.2.2.2.2))) (by rfl) (lp41 (240 - 0) 0 (by omega) (Nat.le_refl _) (p_pt (T 0) len (p_skS (T 0) len (p_s0 na H))) (by omega) (by omega) (by omega) (if_neg h32))
