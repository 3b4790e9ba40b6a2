/-! Planner: order 0, bestOrder 1; set, size, stands, start, best -/
def nv (set : Int32) (sz m st bs : Nat) (i : Nat) : Int32 := match i with
  | 0 => set
  | 1 => nI sz
  | 2 => nI m
  | 3 => nI st
  | _ => nI bs
abbrev p_S : Type := Nat × (Nat → Int32)
def p_isp (O : Nat → Int32) (dp k : Nat) : Bool := !p_all (fun i => !decide (O i - O i / 10 * 10 = nI k)) dp
def p_ist (O : Nat → Int32) (dp c : Nat) : Bool := !p_all (fun i => !decide (O i / 10 = nI c)) dp
def p_bet (m st dn un bs : Nat) : Bool := !decide (un < (dn + m) - 1) && decide (((dn + m) - 1) - st < bs)
def p_off (m st : Nat) (O : Nat → Int32) (fr un : Nat) (s : p_S) : p_S := if p_bet m st fr un s.1 = true then (((fr + m) - 1) - st, O) else s
def p_lp (f : Nat → p_S → p_S) : Nat → p_S → p_S
  | 0, s => s
  | n + 1, s => f n (p_lp f n s)
def p_bg (G : Nat → Nat → Int32) (tc c fr un : Nat) : Nat := p_fst (fun x => p_wet G tc c x == false) fr (un - fr)
def p_tk (G : Nat → Nat → Int32) (k : Nat) : Nat := (G 2 k).toNatClampNeg
def p_dn (G : Nat → Nat → Int32) (tc c fr un k : Nat) : Nat := p_bg G tc c fr un + p_tk G k
def p_en (G : Nat → Nat → Int32) (tc wd c fr un k : Nat) : Nat := min un (p_fst (fun x => p_wet G tc c x == true) (p_bg G tc c fr un) ((p_dn G tc c fr un k + wd) - p_bg G tc c fr un))
def p_Fc (G : Nat → Nat → Int32) (tc wd m st : Nat) (rec : (Nat → Int32) → Nat → Nat → p_S → p_S) (dp : Nat) (O : Nat → Int32) (fr un k c : Nat) (s : p_S) : p_S := if p_ist O dp c = true then s else if p_bet m st (p_dn G tc c fr un k) (p_en G tc wd c fr un k) s.1 = true then rec (upd O dp (nI (k + 10 * c))) (p_dn G tc c fr un k) (p_en G tc wd c fr un k) s else s
def p_Fk (G : Nat → Nat → Int32) (tc wd cc : Nat) (set : Int32) (m st : Nat) (rec : (Nat → Int32) → Nat → Nat → p_S → p_S) (dp : Nat) (O : Nat → Int32) (fr un k : Nat) (s : p_S) : p_S := if p_bit set (nI k) = 0 then s else if p_isp O dp k = true then s else p_lp (p_Fc G tc wd m st rec dp O fr un k) cc s
def p_plc (G : Nat → Nat → Int32) (tc wd cc kc : Nat) (set : Int32) (m st : Nat) : Nat → Nat → (Nat → Int32) → Nat → Nat → p_S → p_S
  | 0, _, O, fr, un, s => p_off m st O fr un s
  | f + 1, dp, O, fr, un, s => p_lp (p_Fk G tc wd cc set m st (p_plc G tc wd cc kc set m st f (dp + 1)) dp O fr un) kc s
theorem p_fst_ge (P : Nat → Bool) (a n : Nat) : a ≤ p_fst P a n := by
  induction n generalizing a with
  | zero => exact Nat.le_refl _
  | succ n ih =>
    simp only [p_fst]
    split
    · exact Nat.le_refl _
    · have := ih (a + 1); omega
theorem p_fst_le (P : Nat → Bool) (a n : Nat) : p_fst P a n ≤ a + n := by
  induction n generalizing a with
  | zero => exact Nat.le_refl _
  | succ n ih =>
    simp only [p_fst]
    split
    · omega
    · have := ih (a + 1); omega
def p_sq (sz : Nat) (s t : p_S) : Prop := s.1 = t.1 ∧ ∀ i, i < sz → s.2 i = t.2 i
theorem p_lp_cg {sz n : Nat} {f g : Nat → p_S → p_S} (h : ∀ k s t, k < n → p_sq sz s t → p_sq sz (f k s) (g k t)) {s t : p_S} (hs : p_sq sz s t) : p_sq sz (p_lp f n s) (p_lp g n t) := by
  induction n with
  | zero => exact hs
  | succ n ih => exact h n _ _ (by omega) (ih (fun k s t hk => h k s t (by omega)))
theorem p_lp_le {n : Nat} {f : Nat → p_S → p_S} (h : ∀ k s, (f k s).1 ≤ s.1) (s : p_S) : (p_lp f n s).1 ≤ s.1 := by
  induction n with
  | zero => exact Nat.le_refl _
  | succ n ih => exact Nat.le_trans (h n _) ih
theorem p_off_le (m st : Nat) (O : Nat → Int32) (fr un : Nat) (s : p_S) : (p_off m st O fr un s).1 ≤ s.1 := by
  unfold p_off
  split
  · rename_i h
    simp only [p_bet, Bool.and_eq_true, decide_eq_true_eq] at h
    exact Nat.le_of_lt h.2
  · exact Nat.le_refl _
theorem p_plc_le (G : Nat → Nat → Int32) (tc wd cc kc : Nat) (set : Int32) (m st f dp : Nat) (O : Nat → Int32) (fr un : Nat) (s : p_S) : (p_plc G tc wd cc kc set m st f dp O fr un s).1 ≤ s.1 := by
  induction f generalizing dp O fr un s with
  | zero => exact p_off_le _ _ _ _ _ _
  | succ f ih =>
    refine p_lp_le (fun k s => ?_) s
    unfold p_Fk
    split
    · exact Nat.le_refl _
    · split
      · exact Nat.le_refl _
      · refine p_lp_le (fun c s => ?_) s
        unfold p_Fc
        split
        · exact Nat.le_refl _
        · split
          · exact ih _ _ _ _ _
          · exact Nat.le_refl _
theorem p_all_cg {P Q : Nat → Bool} {n : Nat} (h : ∀ i, i < n → P i = Q i) : p_all P n = p_all Q n := by
  induction n with
  | zero => rfl
  | succ n ih => simp only [p_all]; rw [ih (fun i hi => h i (by omega)), h n (by omega)]
theorem p_isp_cg {O O' : Nat → Int32} {dp : Nat} (h : ∀ i, i < dp → O i = O' i) (k : Nat) : p_isp O dp k = p_isp O' dp k := by
  unfold p_isp; rw [p_all_cg (fun i hi => by rw [h i hi])]
theorem p_ist_cg {O O' : Nat → Int32} {dp : Nat} (h : ∀ i, i < dp → O i = O' i) (k : Nat) : p_ist O dp k = p_ist O' dp k := by
  unfold p_ist; rw [p_all_cg (fun i hi => by rw [h i hi])]
theorem p_upd_cg {O O' : Nat → Int32} {dp : Nat} (h : ∀ i, i < dp → O i = O' i) (x : Int32) : ∀ i, i < dp + 1 → upd O dp x i = upd O' dp x i := by
  intro i hi
  by_cases e : i = dp
  · subst e; rw [pk_us, pk_us]
  · rw [pk_un e, pk_un e]; exact h i (by omega)
theorem p_plc_cg (G : Nat → Nat → Int32) (tc wd cc kc : Nat) (set : Int32) (m st sz : Nat) (f : Nat) : ∀ (dp : Nat) (O O' : Nat → Int32) (fr un : Nat) (s t : p_S), dp + f = sz → (∀ i, i < dp → O i = O' i) → p_sq sz s t → p_sq sz (p_plc G tc wd cc kc set m st f dp O fr un s) (p_plc G tc wd cc kc set m st f dp O' fr un t) := by
  induction f with
  | zero =>
    intro dp O O' fr un s t hd hO hs
    show p_sq sz (p_off m st O fr un s) (p_off m st O' fr un t)
    unfold p_off
    rw [hs.1]
    split
    · exact ⟨Eq.refl _, fun i hi => hO i (by omega)⟩
    · exact hs
  | succ f ih =>
    intro dp O O' fr un s t hd hO hs
    refine p_lp_cg (fun k s t hk hs => ?_) hs
    unfold p_Fk
    split
    · exact hs
    · rw [p_isp_cg hO]
      split
      · exact hs
      · refine p_lp_cg (fun c s t hc hs => ?_) hs
        unfold p_Fc
        rw [p_ist_cg hO, hs.1]
        split
        · exact hs
        · split
          · exact ih (dp + 1) _ _ _ _ s t (by omega) (p_upd_cg hO _) hs
          · exact hs
theorem p_mmin (a b : Nat) (ha : a < 2 ^ 31) (hb : b < 2 ^ 31) : (if nI b < nI a then nI b else nI a) = nI (min a b) := by
  by_cases h : b < a
  · rw [if_pos (nI_lt h (by omega)), show min a b = b by omega]
  · rw [if_neg (nI_nlt (by omega) (by omega)), show min a b = a by omega]
theorem bk_X4_isBetter_0_11 : rr_chk mX4_isBetter [(.iload_n 1, 0, 1, 0), (.aload_n 0, 0, 0, 0), (.getfield 41, 0, 4, 5), (.iadd, 0, 0, 0), (.iconst 1, 1, 0, 0), (.isub, 0, 0, 0), (.istore_n 3, 0, 3, 0), (.iload_n 3, 0, 3, 0), (.iload_n 2, 0, 2, 0)] 0 11 = true := by decide +kernel
theorem bk_X4_isBetter_31_32 : rr_chk mX4_isBetter [(.iconst 0, 0, 0, 0)] 31 32 = true := by decide +kernel
theorem bk_X4_isBetter_14_24 : rr_chk mX4_isBetter [(.iload_n 3, 0, 3, 0), (.aload_n 0, 0, 0, 0), (.getfield 44, 0, 4, 6), (.isub, 0, 0, 0), (.aload_n 0, 0, 0, 0), (.getfield 47, 0, 4, 7)] 14 24 = true := by decide +kernel
theorem bk_X4_isBetter_27_32 : rr_chk mX4_isBetter [(.iconst 1, 1, 0, 0), (.goto 4, 0, 0, 0)] 27 32 = true := by decide +kernel
set_option maxRecDepth 100000 in
set_option maxHeartbeats 4000000 in
theorem c4_isBetter (set : Int32) (sz m st bs : Nat) (N : Nat → Nat → Int32) (q0 : Nat) (dn un : Nat) (hm : 1 ≤ m) (hm2 : m ≤ 12) (hdn : st ≤ dn) (hdn2 : dn < 100000) (hun : un < 100000) (hbs : bs ≤ 41) : rr_C mX4_isBetter 0 [.ref 0, .int (nI dn), .int (nI un)] (W_N0 (nv set sz m st bs) N q0) 0 0 (some (rr_b (p_bet m st dn un bs))) (W_N0 (nv set sz m st bs) N q0) := by
  refine rr_C.of (n := 2) fX4_isBetter.1 rfl rfl (fun Z hC => ?_)
  show rr_J Z 4 0 0 (rr_MQ Z 0 0 (some (rr_b (p_bet m st dn un bs))) (W_N0 (nv set sz m st bs) N q0)) 0 [(0, .ref 0), (1, .int (nI dn)), (2, .int (nI un))] [] (W_N0 (nv set sz m st bs) N q0)
  refine rr_go hC bk_X4_isBetter_0_11 (l' := [(0, .ref 0), (1, .int (nI dn)), (2, .int (nI un)), (3, .int (((nI dn) + (nI m)) - 1))]) (st' := [.int (nI un), .int (((nI dn) + (nI m)) - 1)]) (w' := (W_N0 (nv set sz m st bs) N q0)) rfl ?_
  rw [show ((nI dn) + (nI m) : Int32) = nI (dn + m) from nI_add dn m]
  rw [show ((nI (dn + m)) - 1 : Int32) = nI ((dn + m) - 1) from pk_sub (a := dn + m) (b := 1) (by omega)]
  refine rr_icmp_gt hC (off := 20) (tgt := 31) (by decide +kernel) (fun h11 => ?_) (fun h11 => ?_)
  · rw [rr_nn_lt (by omega) (by omega)] at h11
    refine rr_go hC bk_X4_isBetter_31_32 (l' := [(0, .ref 0), (1, .int (nI dn)), (2, .int (nI un)), (3, .int (nI ((dn + m) - 1)))]) (st' := [.int 0]) (w' := (W_N0 (nv set sz m st bs) N q0)) rfl ?_
    exact rr_retz hC (by decide +kernel) (Or.inl rfl) (by unfold p_bet; first | (rw [decide_eq_true h11]; rfl) | (rw [decide_eq_false h11, decide_eq_true (show ((dn + m) - 1) - st < bs by omega)]; rfl) | (rw [decide_eq_false h11, decide_eq_false (show ¬ ((dn + m) - 1) - st < bs by omega)]; rfl)) (by rfl) ⟨Nat.zero_le _, Nat.zero_le _⟩
  · rw [rr_nn_lt (by omega) (by omega)] at h11
    refine rr_go hC bk_X4_isBetter_14_24 (l' := [(0, .ref 0), (1, .int (nI dn)), (2, .int (nI un)), (3, .int (nI ((dn + m) - 1)))]) (st' := [.int (nI bs), .int ((nI ((dn + m) - 1)) - (nI st))]) (w' := (W_N0 (nv set sz m st bs) N q0)) rfl ?_
    rw [show ((nI ((dn + m) - 1)) - (nI st) : Int32) = nI (((dn + m) - 1) - st) from pk_sub (a := (dn + m) - 1) (b := st) (by omega)]
    refine rr_icmp_ge hC (off := 7) (tgt := 31) (by decide +kernel) (fun h24 => ?_) (fun h24 => ?_)
    · rw [rr_nn_le (by omega) (by omega)] at h24
      refine rr_go hC bk_X4_isBetter_31_32 (l' := [(0, .ref 0), (1, .int (nI dn)), (2, .int (nI un)), (3, .int (nI ((dn + m) - 1)))]) (st' := [.int 0]) (w' := (W_N0 (nv set sz m st bs) N q0)) rfl ?_
      exact rr_retz hC (by decide +kernel) (Or.inl rfl) (by unfold p_bet; first | (rw [decide_eq_true h11]; rfl) | (rw [decide_eq_false h11, decide_eq_true (show ((dn + m) - 1) - st < bs by omega)]; rfl) | (rw [decide_eq_false h11, decide_eq_false (show ¬ ((dn + m) - 1) - st < bs by omega)]; rfl)) (by rfl) ⟨Nat.zero_le _, Nat.zero_le _⟩
    · rw [rr_nn_le (by omega) (by omega)] at h24
      refine rr_go hC bk_X4_isBetter_27_32 (l' := [(0, .ref 0), (1, .int (nI dn)), (2, .int (nI un)), (3, .int (nI ((dn + m) - 1)))]) (st' := [.int 1]) (w' := (W_N0 (nv set sz m st bs) N q0)) rfl ?_
      exact rr_retz hC (by decide +kernel) (Or.inr rfl) (by unfold p_bet; first | (rw [decide_eq_true h11]; rfl) | (rw [decide_eq_false h11, decide_eq_true (show ((dn + m) - 1) - st < bs by omega)]; rfl) | (rw [decide_eq_false h11, decide_eq_false (show ¬ ((dn + m) - 1) - st < bs by omega)]; rfl)) (by rfl) ⟨Nat.zero_le _, Nat.zero_le _⟩
theorem bk_X4_isPlaced_0_2 : rr_chk mX4_isPlaced [(.iconst 0, 0, 0, 0), (.istore_n 3, 0, 3, 0)] 0 2 = true := by decide +kernel
theorem bk_X4_isPlaced_2_4 : rr_chk mX4_isPlaced [(.iload_n 3, 0, 3, 0), (.iload_n 2, 0, 2, 0)] 2 4 = true := by decide +kernel
theorem bk_X4_isPlaced_33_34 : rr_chk mX4_isPlaced [(.iconst 0, 0, 0, 0)] 33 34 = true := by decide +kernel
theorem bk_X4_isPlaced_7_9 : rr_chk mX4_isPlaced [(.iload_n 3, 0, 3, 0), (.iconst 3, 3, 0, 0)] 7 9 = true := by decide +kernel
theorem bk_X4_isPlaced_12_17 : rr_chk mX4_isPlaced [(.aload_n 0, 0, 0, 0), (.getfield 9, 0, 4, 1), (.iload_n 3, 0, 3, 0)] 12 17 = true := by decide +kernel
theorem bk_X4_isPlaced_18_22 : rr_chk mX4_isPlaced [(.bipush 10, 10, 0, 0), (.irem, 0, 0, 0), (.iload_n 1, 0, 1, 0)] 18 22 = true := by decide +kernel
theorem bk_X4_isPlaced_27_2 : rr_chk mX4_isPlaced [(.iinc 3 1, 1, 3, 0), (.goto (-28), 0, 0, 0)] 27 2 = true := by decide +kernel
theorem bk_X4_isPlaced_25_26 : rr_chk mX4_isPlaced [(.iconst 1, 1, 0, 0)] 25 26 = true := by decide +kernel
set_option maxRecDepth 100000 in
set_option maxHeartbeats 4000000 in
theorem c4_isPlaced (set : Int32) (sz m st bs : Nat) (N : Nat → Nat → Int32) (q0 : Nat) (k dp : Nat) (hdp : dp ≤ 3) : rr_C mX4_isPlaced 0 [.ref 0, .int (nI k), .int (nI dp)] (W_N0 (nv set sz m st bs) N q0) 0 0 (some (rr_b (p_isp (N 0) dp k))) (W_N0 (nv set sz m st bs) N q0) := by
  refine rr_C.of (n := 2) fX4_isPlaced.1 rfl rfl (fun Z hC => ?_)
  show rr_J Z 4 0 0 (rr_MQ Z 0 0 (some (rr_b (p_isp (N 0) dp k))) (W_N0 (nv set sz m st bs) N q0)) 0 [(0, .ref 0), (1, .int (nI k)), (2, .int (nI dp))] [] (W_N0 (nv set sz m st bs) N q0)
  refine rr_go hC bk_X4_isPlaced_0_2 (l' := [(0, .ref 0), (1, .int (nI k)), (2, .int (nI dp)), (3, .int 0)]) (st' := []) (w' := (W_N0 (nv set sz m st bs) N q0)) rfl ?_
  have lp2 : ∀ (j i : Nat), i + j = dp → 0 ≤ i → p_all (fun i => !decide (N 0 i - N 0 i / 10 * 10 = nI k)) i = true → rr_J Z 4 0 0 (rr_MQ Z 0 0 (some (rr_b (p_isp (N 0) dp k))) (W_N0 (nv set sz m st bs) N q0)) 2 [(0, .ref 0), (1, .int (nI k)), (2, .int (nI dp)), (3, .int (nI i))] [] (W_N0 (nv set sz m st bs) N q0) := by
    intro j
    induction j with
    | zero =>
      intro i hk2 hlo2 hq
      refine rr_go hC bk_X4_isPlaced_2_4 (l' := [(0, .ref 0), (1, .int (nI k)), (2, .int (nI dp)), (3, .int (nI i))]) (st' := [.int (nI dp), .int (nI i)]) (w' := (W_N0 (nv set sz m st bs) N q0)) rfl ?_
      refine rr_icmp_ge hC (off := 29) (tgt := 33) (by decide +kernel) (fun h4 => ?_) (fun h4 => by rw [rr_nn_le (by omega) (by omega)] at h4; omega)
      rw [rr_nn_le (by omega) (by omega)] at h4
      refine rr_go hC bk_X4_isPlaced_33_34 (l' := [(0, .ref 0), (1, .int (nI k)), (2, .int (nI dp)), (3, .int (nI i))]) (st' := [.int 0]) (w' := (W_N0 (nv set sz m st bs) N q0)) rfl ?_
      exact rr_retz hC (by decide +kernel) (Or.inl rfl) (by unfold p_isp; rw [show i = dp by omega] at hq; rw [hq]; rfl) (by rfl) ⟨Nat.zero_le _, Nat.zero_le _⟩
    | succ j ih =>
      intro i hk2 hlo2 hq
      refine rr_go hC bk_X4_isPlaced_2_4 (l' := [(0, .ref 0), (1, .int (nI k)), (2, .int (nI dp)), (3, .int (nI i))]) (st' := [.int (nI dp), .int (nI i)]) (w' := (W_N0 (nv set sz m st bs) N q0)) rfl ?_
      refine rr_icmp_ge hC (off := 29) (tgt := 33) (by decide +kernel) (fun h4 => by rw [rr_nn_le (by omega) (by omega)] at h4; omega) (fun h4 => ?_)
      rw [rr_nn_le (by omega) (by omega)] at h4
      refine rr_go hC bk_X4_isPlaced_7_9 (l' := [(0, .ref 0), (1, .int (nI k)), (2, .int (nI dp)), (3, .int (nI i))]) (st' := [.int 3, .int (nI i)]) (w' := (W_N0 (nv set sz m st bs) N q0)) rfl ?_
      refine rr_icmp_ge hC (off := 24) (tgt := 33) (by decide +kernel) (fun h9 => by rw [rr_ln_le (a := 3) (by omega) (by omega)] at h9; omega) (fun h9 => ?_)
      rw [rr_ln_le (a := 3) (by omega) (by omega)] at h9
      refine rr_go hC bk_X4_isPlaced_12_17 (l' := [(0, .ref 0), (1, .int (nI k)), (2, .int (nI dp)), (3, .int (nI i))]) (st' := [.int (nI i), .ref 1]) (w' := (W_N0 (nv set sz m st bs) N q0)) rfl ?_
      refine rr_iald hC i (by decide +kernel) rfl rfl (by omega) rfl ?_
      show rr_J Z 4 0 0 _ 18 [(0, .ref 0), (1, .int (nI k)), (2, .int (nI dp)), (3, .int (nI i))] [.int (N 0 i)] (W_N0 (nv set sz m st bs) N q0)
      refine rr_go hC bk_X4_isPlaced_18_22 (l' := [(0, .ref 0), (1, .int (nI k)), (2, .int (nI dp)), (3, .int (nI i))]) (st' := [.int (nI k), .int ((N 0 i) - (N 0 i) / 10 * 10)]) (w' := (W_N0 (nv set sz m st bs) N q0)) rfl ?_
      refine rr_icmp_ne hC (off := 5) (tgt := 27) (by decide +kernel) (fun h22 => ?_) (fun h22 => ?_)
      · refine rr_go hC bk_X4_isPlaced_27_2 (l' := [(0, .ref 0), (1, .int (nI k)), (2, .int (nI dp)), (3, .int ((nI i) + 1))]) (st' := []) (w' := (W_N0 (nv set sz m st bs) N q0)) rfl ?_
        rw [show ((nI i) + 1 : Int32) = nI (i + 1) from nI_add i 1]
        exact rr_cast (l' := [(0, .ref 0), (1, .int (nI k)), (2, .int (nI dp)), (3, .int (nI (i + 1)))]) (by rfl) rfl (w' := (W_N0 (nv set sz m st bs) N q0)) (by rfl) (ih (i + 1) (by omega) (by omega) (by simp only [p_all, Bool.and_eq_true]; exact ⟨hq, by simp [h22]⟩))
      · refine rr_go hC bk_X4_isPlaced_25_26 (l' := [(0, .ref 0), (1, .int (nI k)), (2, .int (nI dp)), (3, .int (nI i))]) (st' := [.int 1]) (w' := (W_N0 (nv set sz m st bs) N q0)) rfl ?_
        exact rr_retz hC (by decide +kernel) (Or.inr rfl) (by unfold p_isp; rw [p_all_no (k := i) (by omega) (by simp [h22])]; rfl) (by rfl) ⟨Nat.zero_le _, Nat.zero_le _⟩
  exact rr_cast (l' := [(0, .ref 0), (1, .int (nI k)), (2, .int (nI dp)), (3, .int (nI 0))]) (by first | rfl | (simp [*])) rfl (w' := (W_N0 (nv set sz m st bs) N q0)) (by rfl) (lp2 (dp - 0) 0 (by omega) (Nat.le_refl _) rfl)
theorem bk_X4_isTaken_0_2 : rr_chk mX4_isTaken [(.iconst 0, 0, 0, 0), (.istore_n 3, 0, 3, 0)] 0 2 = true := by decide +kernel
theorem bk_X4_isTaken_2_4 : rr_chk mX4_isTaken [(.iload_n 3, 0, 3, 0), (.iload_n 2, 0, 2, 0)] 2 4 = true := by decide +kernel
theorem bk_X4_isTaken_33_34 : rr_chk mX4_isTaken [(.iconst 0, 0, 0, 0)] 33 34 = true := by decide +kernel
theorem bk_X4_isTaken_7_9 : rr_chk mX4_isTaken [(.iload_n 3, 0, 3, 0), (.iconst 3, 3, 0, 0)] 7 9 = true := by decide +kernel
theorem bk_X4_isTaken_12_17 : rr_chk mX4_isTaken [(.aload_n 0, 0, 0, 0), (.getfield 9, 0, 4, 1), (.iload_n 3, 0, 3, 0)] 12 17 = true := by decide +kernel
theorem bk_X4_isTaken_18_22 : rr_chk mX4_isTaken [(.bipush 10, 10, 0, 0), (.idiv, 0, 0, 0), (.iload_n 1, 0, 1, 0)] 18 22 = true := by decide +kernel
theorem bk_X4_isTaken_27_2 : rr_chk mX4_isTaken [(.iinc 3 1, 1, 3, 0), (.goto (-28), 0, 0, 0)] 27 2 = true := by decide +kernel
theorem bk_X4_isTaken_25_26 : rr_chk mX4_isTaken [(.iconst 1, 1, 0, 0)] 25 26 = true := by decide +kernel
set_option maxRecDepth 100000 in
set_option maxHeartbeats 4000000 in
theorem c4_isTaken (set : Int32) (sz m st bs : Nat) (N : Nat → Nat → Int32) (q0 : Nat) (k dp : Nat) (hdp : dp ≤ 3) : rr_C mX4_isTaken 0 [.ref 0, .int (nI k), .int (nI dp)] (W_N0 (nv set sz m st bs) N q0) 0 0 (some (rr_b (p_ist (N 0) dp k))) (W_N0 (nv set sz m st bs) N q0) := by
  refine rr_C.of (n := 2) fX4_isTaken.1 rfl rfl (fun Z hC => ?_)
  show rr_J Z 4 0 0 (rr_MQ Z 0 0 (some (rr_b (p_ist (N 0) dp k))) (W_N0 (nv set sz m st bs) N q0)) 0 [(0, .ref 0), (1, .int (nI k)), (2, .int (nI dp))] [] (W_N0 (nv set sz m st bs) N q0)
  refine rr_go hC bk_X4_isTaken_0_2 (l' := [(0, .ref 0), (1, .int (nI k)), (2, .int (nI dp)), (3, .int 0)]) (st' := []) (w' := (W_N0 (nv set sz m st bs) N q0)) rfl ?_
  have lp2 : ∀ (j i : Nat), i + j = dp → 0 ≤ i → p_all (fun i => !decide (N 0 i / 10 = nI k)) i = true → rr_J Z 4 0 0 (rr_MQ Z 0 0 (some (rr_b (p_ist (N 0) dp k))) (W_N0 (nv set sz m st bs) N q0)) 2 [(0, .ref 0), (1, .int (nI k)), (2, .int (nI dp)), (3, .int (nI i))] [] (W_N0 (nv set sz m st bs) N q0) := by
    intro j
    induction j with
    | zero =>
      intro i hk2 hlo2 hq
      refine rr_go hC bk_X4_isTaken_2_4 (l' := [(0, .ref 0), (1, .int (nI k)), (2, .int (nI dp)), (3, .int (nI i))]) (st' := [.int (nI dp), .int (nI i)]) (w' := (W_N0 (nv set sz m st bs) N q0)) rfl ?_
      refine rr_icmp_ge hC (off := 29) (tgt := 33) (by decide +kernel) (fun h4 => ?_) (fun h4 => by rw [rr_nn_le (by omega) (by omega)] at h4; omega)
      rw [rr_nn_le (by omega) (by omega)] at h4
      refine rr_go hC bk_X4_isTaken_33_34 (l' := [(0, .ref 0), (1, .int (nI k)), (2, .int (nI dp)), (3, .int (nI i))]) (st' := [.int 0]) (w' := (W_N0 (nv set sz m st bs) N q0)) rfl ?_
      exact rr_retz hC (by decide +kernel) (Or.inl rfl) (by unfold p_ist; rw [show i = dp by omega] at hq; rw [hq]; rfl) (by rfl) ⟨Nat.zero_le _, Nat.zero_le _⟩
    | succ j ih =>
      intro i hk2 hlo2 hq
      refine rr_go hC bk_X4_isTaken_2_4 (l' := [(0, .ref 0), (1, .int (nI k)), (2, .int (nI dp)), (3, .int (nI i))]) (st' := [.int (nI dp), .int (nI i)]) (w' := (W_N0 (nv set sz m st bs) N q0)) rfl ?_
      refine rr_icmp_ge hC (off := 29) (tgt := 33) (by decide +kernel) (fun h4 => by rw [rr_nn_le (by omega) (by omega)] at h4; omega) (fun h4 => ?_)
      rw [rr_nn_le (by omega) (by omega)] at h4
      refine rr_go hC bk_X4_isTaken_7_9 (l' := [(0, .ref 0), (1, .int (nI k)), (2, .int (nI dp)), (3, .int (nI i))]) (st' := [.int 3, .int (nI i)]) (w' := (W_N0 (nv set sz m st bs) N q0)) rfl ?_
      refine rr_icmp_ge hC (off := 24) (tgt := 33) (by decide +kernel) (fun h9 => by rw [rr_ln_le (a := 3) (by omega) (by omega)] at h9; omega) (fun h9 => ?_)
      rw [rr_ln_le (a := 3) (by omega) (by omega)] at h9
      refine rr_go hC bk_X4_isTaken_12_17 (l' := [(0, .ref 0), (1, .int (nI k)), (2, .int (nI dp)), (3, .int (nI i))]) (st' := [.int (nI i), .ref 1]) (w' := (W_N0 (nv set sz m st bs) N q0)) rfl ?_
      refine rr_iald hC i (by decide +kernel) rfl rfl (by omega) rfl ?_
      show rr_J Z 4 0 0 _ 18 [(0, .ref 0), (1, .int (nI k)), (2, .int (nI dp)), (3, .int (nI i))] [.int (N 0 i)] (W_N0 (nv set sz m st bs) N q0)
      refine rr_go hC bk_X4_isTaken_18_22 (l' := [(0, .ref 0), (1, .int (nI k)), (2, .int (nI dp)), (3, .int (nI i))]) (st' := [.int (nI k), .int ((N 0 i) / 10)]) (w' := (W_N0 (nv set sz m st bs) N q0)) rfl ?_
      refine rr_icmp_ne hC (off := 5) (tgt := 27) (by decide +kernel) (fun h22 => ?_) (fun h22 => ?_)
      · refine rr_go hC bk_X4_isTaken_27_2 (l' := [(0, .ref 0), (1, .int (nI k)), (2, .int (nI dp)), (3, .int ((nI i) + 1))]) (st' := []) (w' := (W_N0 (nv set sz m st bs) N q0)) rfl ?_
        rw [show ((nI i) + 1 : Int32) = nI (i + 1) from nI_add i 1]
        exact rr_cast (l' := [(0, .ref 0), (1, .int (nI k)), (2, .int (nI dp)), (3, .int (nI (i + 1)))]) (by rfl) rfl (w' := (W_N0 (nv set sz m st bs) N q0)) (by rfl) (ih (i + 1) (by omega) (by omega) (by simp only [p_all, Bool.and_eq_true]; exact ⟨hq, by simp [h22]⟩))
      · refine rr_go hC bk_X4_isTaken_25_26 (l' := [(0, .ref 0), (1, .int (nI k)), (2, .int (nI dp)), (3, .int (nI i))]) (st' := [.int 1]) (w' := (W_N0 (nv set sz m st bs) N q0)) rfl ?_
        exact rr_retz hC (by decide +kernel) (Or.inr rfl) (by unfold p_ist; rw [p_all_no (k := i) (by omega) (by simp [h22])]; rfl) (by rfl) ⟨Nat.zero_le _, Nat.zero_le _⟩
  exact rr_cast (l' := [(0, .ref 0), (1, .int (nI k)), (2, .int (nI dp)), (3, .int (nI 0))]) (by first | rfl | (simp [*])) rfl (w' := (W_N0 (nv set sz m st bs) N q0)) (by rfl) (lp2 (dp - 0) 0 (by omega) (Nat.le_refl _) rfl)
theorem bk_X4_offer_0_3 : rr_chk mX4_offer [(.aload_n 0, 0, 0, 0), (.iload_n 1, 0, 1, 0), (.iload_n 2, 0, 2, 0)] 0 3 = true := by decide +kernel
set_option maxRecDepth 100000 in
set_option maxHeartbeats 4000000 in
theorem c4_offerN (set : Int32) (sz m st bs : Nat) (N : Nat → Nat → Int32) (q0 : Nat) (dn un : Nat) (hm : 1 ≤ m) (hm2 : m ≤ 12) (hdn : st ≤ dn) (hdn2 : dn < 100000) (hun : un < 100000) (hbs : bs ≤ 41) (hb : p_bet m st dn un bs = false) : rr_C mX4_offer 1 [.ref 0, .int (nI dn), .int (nI un)] (W_N0 (nv set sz m st bs) N q0) 0 0 none (W_N0 (nv set sz m st bs) N q0) := by
  refine rr_C.of (n := 2) fX4_offer.1 rfl rfl (fun Z hC => ?_)
  show rr_J Z 3 0 0 (rr_MQ Z 0 0 none (W_N0 (nv set sz m st bs) N q0)) 0 [(0, .ref 0), (1, .int (nI dn)), (2, .int (nI un))] [] (W_N0 (nv set sz m st bs) N q0)
  refine rr_go hC bk_X4_offer_0_3 (l' := [(0, .ref 0), (1, .int (nI dn)), (2, .int (nI un))]) (st' := [.int (nI un), .int (nI dn), .ref 0]) (w' := (W_N0 (nv set sz m st bs) N q0)) rfl ?_
  refine rr_callV hC (by decide +kernel) kl_4_87 fX4_isBetter (c4_isBetter set sz m st bs N (q0 + 3) dn un (by omega) (by omega) (by omega) (by omega) (by omega) (by omega)) rfl rfl [0, 1, 2] rfl rfl (Eq.refl 3) rfl rfl rfl (rest := []) rfl rfl ⟨Nat.zero_le _, Nat.zero_le _⟩ (w2 := (W_N0 (nv set sz m st bs) N q0)) rfl ?_
  show rr_J Z 3 0 0 _ 6 [(0, .ref 0), (1, .int (nI dn)), (2, .int (nI un))] [.int (rr_b (p_bet m st dn un bs))] (W_N0 (nv set sz m st bs) N q0)
  refine rr_eqb hC (off := 34) (tgt := 40) (by decide +kernel) (fun h6 => ?_) (fun h6 => by  rw [hb] at h6; cases h6)
  exact rr_retv hC (by decide +kernel) (by rfl) ⟨Nat.zero_le _, Nat.zero_le _⟩
theorem bk_X4_offer_9_37 : rr_chk mX4_offer [(.aload_n 0, 0, 0, 0), (.iload_n 1, 0, 1, 0), (.aload_n 0, 0, 0, 0), (.getfield 41, 0, 4, 5), (.iadd, 0, 0, 0), (.iconst 1, 1, 0, 0), (.isub, 0, 0, 0), (.aload_n 0, 0, 0, 0), (.getfield 44, 0, 4, 6), (.isub, 0, 0, 0), (.putfield 47, 0, 4, 7), (.aload_n 0, 0, 0, 0), (.getfield 9, 0, 4, 1), (.iconst 0, 0, 0, 0), (.aload_n 0, 0, 0, 0), (.getfield 15, 0, 4, 2), (.iconst 0, 0, 0, 0), (.iconst 3, 3, 0, 0)] 9 37 = true := by decide +kernel
set_option maxRecDepth 100000 in
set_option maxHeartbeats 4000000 in
theorem c4_offerY (set : Int32) (sz m st bs : Nat) (N : Nat → Nat → Int32) (q0 : Nat) (dn un : Nat) (hm : 1 ≤ m) (hm2 : m ≤ 12) (hdn : st ≤ dn) (hdn2 : dn < 100000) (hun : un < 100000) (hbs : bs ≤ 41) (hb : p_bet m st dn un bs = true) : rr_C mX4_offer 1 [.ref 0, .int (nI dn), .int (nI un)] (W_N0 (nv set sz m st bs) N q0) 0 0 none (W_N0 (nv set sz m st (((dn + m) - 1) - st)) (va_up N 1 (va_cpy (N 0) (N 1) 0 0 3)) q0) := by
  refine rr_C.of (n := 2) fX4_offer.1 rfl rfl (fun Z hC => ?_)
  show rr_J Z 3 0 0 (rr_MQ Z 0 0 none (W_N0 (nv set sz m st (((dn + m) - 1) - st)) (va_up N 1 (va_cpy (N 0) (N 1) 0 0 3)) q0)) 0 [(0, .ref 0), (1, .int (nI dn)), (2, .int (nI un))] [] (W_N0 (nv set sz m st bs) N q0)
  refine rr_go hC bk_X4_offer_0_3 (l' := [(0, .ref 0), (1, .int (nI dn)), (2, .int (nI un))]) (st' := [.int (nI un), .int (nI dn), .ref 0]) (w' := (W_N0 (nv set sz m st bs) N q0)) rfl ?_
  refine rr_callV hC (by decide +kernel) kl_4_87 fX4_isBetter (c4_isBetter set sz m st bs N (q0 + 3) dn un (by omega) (by omega) (by omega) (by omega) (by omega) (by omega)) rfl rfl [0, 1, 2] rfl rfl (Eq.refl 3) rfl rfl rfl (rest := []) rfl rfl ⟨Nat.zero_le _, Nat.zero_le _⟩ (w2 := (W_N0 (nv set sz m st bs) N q0)) rfl ?_
  show rr_J Z 3 0 0 _ 6 [(0, .ref 0), (1, .int (nI dn)), (2, .int (nI un))] [.int (rr_b (p_bet m st dn un bs))] (W_N0 (nv set sz m st bs) N q0)
  refine rr_eqb hC (off := 34) (tgt := 40) (by decide +kernel) (fun h6 => by  rw [hb] at h6; cases h6) (fun h6 => ?_)
  refine rr_go hC bk_X4_offer_9_37 (l' := [(0, .ref 0), (1, .int (nI dn)), (2, .int (nI un))]) (st' := [.int 3, .int 0, .ref 2, .int 0, .ref 1]) (w' := (W_N0 (upd (nv set sz m st bs) 4 ((((nI dn) + (nI m)) - 1) - (nI st))) N q0)) rfl ?_
  rw [show ((nI dn) + (nI m) : Int32) = nI (dn + m) from nI_add dn m]
  rw [show ((nI (dn + m)) - 1 : Int32) = nI ((dn + m) - 1) from pk_sub (a := dn + m) (b := 1) (by omega)]
  rw [show ((nI ((dn + m) - 1)) - (nI st) : Int32) = nI (((dn + m) - 1) - st) from pk_sub (a := (dn + m) - 1) (b := st) (by omega)]
  refine rr_copy hC (by decide +kernel) kl_4_90 rfl rfl rfl 0 0 3 (by simp only [fa_lit, rr_addl, rr_ladd, rr_lmul, rr_mull, nI_add, pk_mul, nI_1]) (by simp only [fa_lit, rr_addl, rr_ladd, rr_lmul, rr_mull, nI_add, pk_mul, nI_1]) (by simp only [fa_lit, rr_addl, rr_ladd, rr_lmul, rr_mull, nI_add, pk_mul, nI_1]) rfl rfl (by omega) (by omega) rfl rfl (w' := (W_N0 (upd (nv set sz m st bs) 4 (nI (((dn + m) - 1) - st))) (va_up N 1 (va_cpy (N 0) (N 1) 0 0 3)) q0)) rfl ?_
  exact rr_retv hC (by decide +kernel) (by rfl) ⟨Nat.zero_le _, Nat.zero_le _⟩
theorem bk_X4_soonest_0_6 : rr_chk mX4_soonest [(.aload_n 0, 0, 0, 0), (.getfield 47, 0, 4, 7), (.bipush 40, 40, 0, 0)] 0 6 = true := by decide +kernel
theorem bk_X4_soonest_13_17 : rr_chk mX4_soonest [(.aload_n 0, 0, 0, 0), (.getfield 47, 0, 4, 7)] 13 17 = true := by decide +kernel
theorem bk_X4_soonest_9_17 : rr_chk mX4_soonest [(.iconst (-1), (-1), 0, 0), (.goto 7, 0, 0, 0)] 9 17 = true := by decide +kernel
set_option maxRecDepth 100000 in
set_option maxHeartbeats 4000000 in
theorem c4_soonest (set : Int32) (sz m st bs : Nat) (N : Nat → Nat → Int32) (q0 : Nat) (hbs : bs ≤ 41) : rr_C mX4_soonest 0 [.ref 0] (W_N0 (nv set sz m st bs) N q0) 0 0 (some (if 40 < bs then -1 else nI bs)) (W_N0 (nv set sz m st bs) N q0) := by
  refine rr_C.of (n := 0) fX4_soonest.1 rfl rfl (fun Z hC => ?_)
  show rr_J Z 1 0 0 (rr_MQ Z 0 0 (some (if 40 < bs then -1 else nI bs)) (W_N0 (nv set sz m st bs) N q0)) 0 [(0, .ref 0)] [] (W_N0 (nv set sz m st bs) N q0)
  refine rr_go hC bk_X4_soonest_0_6 (l' := [(0, .ref 0)]) (st' := [.int 40, .int (nI bs)]) (w' := (W_N0 (nv set sz m st bs) N q0)) rfl ?_
  refine rr_icmp_le hC (off := 7) (tgt := 13) (by decide +kernel) (fun h6 => ?_) (fun h6 => ?_)
  · rw [rr_nl_le (b := 40) (by omega) (by omega)] at h6
    refine rr_go hC bk_X4_soonest_13_17 (l' := [(0, .ref 0)]) (st' := [.int (nI bs)]) (w' := (W_N0 (nv set sz m st bs) N q0)) rfl ?_
    exact rr_reti hC (by decide +kernel) (by first | (rw [if_pos (by omega)]; done) | (rw [if_neg (by omega)]; done)) (by rfl) ⟨Nat.zero_le _, Nat.zero_le _⟩
  · rw [rr_nl_le (b := 40) (by omega) (by omega)] at h6
    refine rr_go hC bk_X4_soonest_9_17 (l' := [(0, .ref 0)]) (st' := [.int (-1)]) (w' := (W_N0 (nv set sz m st bs) N q0)) rfl ?_
    exact rr_reti hC (by decide +kernel) (by first | (rw [if_pos (by omega)]; done) | (rw [if_neg (by omega)]; done)) (by rfl) ⟨Nat.zero_le _, Nat.zero_le _⟩
theorem bk_X4_placed_0_6 : rr_chk mX4_placed [(.aload_n 0, 0, 0, 0), (.getfield 47, 0, 4, 7), (.bipush 40, 40, 0, 0)] 0 6 = true := by decide +kernel
theorem bk_X4_placed_21_31 : rr_chk mX4_placed [(.iconst (-1), (-1), 0, 0), (.goto 9, 0, 0, 0)] 21 31 = true := by decide +kernel
theorem bk_X4_placed_9_10 : rr_chk mX4_placed [(.iload_n 1, 0, 1, 0)] 9 10 = true := by decide +kernel
theorem bk_X4_placed_13_18 : rr_chk mX4_placed [(.iload_n 1, 0, 1, 0), (.aload_n 0, 0, 0, 0), (.getfield 38, 0, 4, 4)] 13 18 = true := by decide +kernel
set_option maxRecDepth 100000 in
set_option maxHeartbeats 4000000 in
theorem c4_placedO (set : Int32) (sz m st bs : Nat) (N : Nat → Nat → Int32) (q0 : Nat) (i : Int32) (hsz : sz ≤ 3) (hbs : bs ≤ 41) (hi : 40 < bs ∨ i < 0 ∨ nI sz ≤ i) : rr_C mX4_placed 0 [.ref 0, .int i] (W_N0 (nv set sz m st bs) N q0) 0 0 (some (-1)) (W_N0 (nv set sz m st bs) N q0) := by
  refine rr_C.of (n := 1) fX4_placed.1 rfl rfl (fun Z hC => ?_)
  show rr_J Z 2 0 0 (rr_MQ Z 0 0 (some (-1)) (W_N0 (nv set sz m st bs) N q0)) 0 [(0, .ref 0), (1, .int i)] [] (W_N0 (nv set sz m st bs) N q0)
  refine rr_go hC bk_X4_placed_0_6 (l' := [(0, .ref 0), (1, .int i)]) (st' := [.int 40, .int (nI bs)]) (w' := (W_N0 (nv set sz m st bs) N q0)) rfl ?_
  refine rr_icmp_gt hC (off := 15) (tgt := 21) (by decide +kernel) (fun h6 => ?_) (fun h6 => ?_)
  · rw [rr_ln_lt (a := 40) (by omega) (by omega)] at h6
    refine rr_go hC bk_X4_placed_21_31 (l' := [(0, .ref 0), (1, .int i)]) (st' := [.int (-1)]) (w' := (W_N0 (nv set sz m st bs) N q0)) rfl ?_
    exact rr_reti hC (by decide +kernel) (by rfl) (by rfl) ⟨Nat.zero_le _, Nat.zero_le _⟩
  · rw [rr_ln_lt (a := 40) (by omega) (by omega)] at h6
    refine rr_go hC bk_X4_placed_9_10 (l' := [(0, .ref 0), (1, .int i)]) (st' := [.int i]) (w' := (W_N0 (nv set sz m st bs) N q0)) rfl ?_
    refine rr_if_lt hC (off := 11) (tgt := 21) (by decide +kernel) (fun h10 => ?_) (fun h10 => ?_)
    · refine rr_go hC bk_X4_placed_21_31 (l' := [(0, .ref 0), (1, .int i)]) (st' := [.int (-1)]) (w' := (W_N0 (nv set sz m st bs) N q0)) rfl ?_
      exact rr_reti hC (by decide +kernel) (by rfl) (by rfl) ⟨Nat.zero_le _, Nat.zero_le _⟩
    · refine rr_go hC bk_X4_placed_13_18 (l' := [(0, .ref 0), (1, .int i)]) (st' := [.int (nI sz), .int i]) (w' := (W_N0 (nv set sz m st bs) N q0)) rfl ?_
      refine rr_icmp_lt hC (off := 7) (tgt := 25) (by decide +kernel) (fun h18 => by  exact absurd h18 (by rcases hi with z | z | z; omega; exact absurd z h10; exact Int32.not_lt.mpr z)) (fun h18 => ?_)
      refine rr_go hC bk_X4_placed_21_31 (l' := [(0, .ref 0), (1, .int i)]) (st' := [.int (-1)]) (w' := (W_N0 (nv set sz m st bs) N q0)) rfl ?_
      exact rr_reti hC (by decide +kernel) (by rfl) (by rfl) ⟨Nat.zero_le _, Nat.zero_le _⟩
theorem bk_X4_placed_25_30 : rr_chk mX4_placed [(.aload_n 0, 0, 0, 0), (.getfield 15, 0, 4, 2), (.iload_n 1, 0, 1, 0)] 25 30 = true := by decide +kernel
set_option maxRecDepth 100000 in
set_option maxHeartbeats 4000000 in
theorem c4_placedI (set : Int32) (sz m st bs : Nat) (N : Nat → Nat → Int32) (q0 : Nat) (i : Nat) (hsz : sz ≤ 3) (hbs : bs ≤ 40) (hi : i < sz) : rr_C mX4_placed 0 [.ref 0, .int (nI i)] (W_N0 (nv set sz m st bs) N q0) 0 0 (some (N 1 i)) (W_N0 (nv set sz m st bs) N q0) := by
  refine rr_C.of (n := 1) fX4_placed.1 rfl rfl (fun Z hC => ?_)
  show rr_J Z 2 0 0 (rr_MQ Z 0 0 (some (N 1 i)) (W_N0 (nv set sz m st bs) N q0)) 0 [(0, .ref 0), (1, .int (nI i))] [] (W_N0 (nv set sz m st bs) N q0)
  refine rr_go hC bk_X4_placed_0_6 (l' := [(0, .ref 0), (1, .int (nI i))]) (st' := [.int 40, .int (nI bs)]) (w' := (W_N0 (nv set sz m st bs) N q0)) rfl ?_
  refine rr_icmp_gt hC (off := 15) (tgt := 21) (by decide +kernel) (fun h6 => by rw [rr_ln_lt (a := 40) (by omega) (by omega)] at h6; omega) (fun h6 => ?_)
  rw [rr_ln_lt (a := 40) (by omega) (by omega)] at h6
  refine rr_go hC bk_X4_placed_9_10 (l' := [(0, .ref 0), (1, .int (nI i))]) (st' := [.int (nI i)]) (w' := (W_N0 (nv set sz m st bs) N q0)) rfl ?_
  refine rr_if_lt hC (off := 11) (tgt := 21) (by decide +kernel) (fun h10 => by rw [rr_nl_lt (b := 0) (by omega) (by omega)] at h10; omega) (fun h10 => ?_)
  rw [rr_nl_lt (b := 0) (by omega) (by omega)] at h10
  refine rr_go hC bk_X4_placed_13_18 (l' := [(0, .ref 0), (1, .int (nI i))]) (st' := [.int (nI sz), .int (nI i)]) (w' := (W_N0 (nv set sz m st bs) N q0)) rfl ?_
  refine rr_icmp_lt hC (off := 7) (tgt := 25) (by decide +kernel) (fun h18 => ?_) (fun h18 => by rw [rr_nn_lt (by omega) (by omega)] at h18; omega)
  rw [rr_nn_lt (by omega) (by omega)] at h18
  refine rr_go hC bk_X4_placed_25_30 (l' := [(0, .ref 0), (1, .int (nI i))]) (st' := [.int (nI i), .ref 2]) (w' := (W_N0 (nv set sz m st bs) N q0)) rfl ?_
  refine rr_iald hC i (by decide +kernel) rfl rfl (by omega) rfl ?_
  show rr_J Z 2 0 0 _ 31 [(0, .ref 0), (1, .int (nI i))] [.int (N 1 i)] (W_N0 (nv set sz m st bs) N q0)
  exact rr_reti hC (by decide +kernel) (by rfl) (by rfl) ⟨Nat.zero_le _, Nat.zero_le _⟩
