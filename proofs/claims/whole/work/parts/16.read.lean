/-! Reader: length, at, numberAt, windTold, fault (kind, place); the text f -/
def rv (len a na : Nat) (wt : Bool) (q : Int32 × Int32) (i : Nat) : Int32 := match i with
  | 0 => nI len
  | 1 => nI a
  | 2 => nI na
  | 3 => rr_b wt
  | 4 => q.1
  | _ => q.2
def p_sk (f : Nat → Int32) (len a : Nat) : Nat := p_fst (fun i => !decide (f i = 32)) a (len - a)
def p_nl (f : Nat → Int32) (len a : Nat) : Int32 := if p_sk f len a < len then f (p_sk f len a) else -1
theorem p_sk_end {f : Nat → Int32} {len a : Nat} (h : len ≤ a) : p_sk f len a = a := by
  unfold p_sk; rw [show len - a = 0 by omega]; rfl
theorem p_sk_stop {f : Nat → Int32} {len a : Nat} (h : a < len) (h2 : ¬ f a = 32) : p_sk f len a = a := by
  unfold p_sk; rw [show len - a = (len - (a + 1)) + 1 by omega, p_fst, if_pos (by simp [h2])]
theorem p_sk_go {f : Nat → Int32} {len a : Nat} (h : a < len) (h2 : f a = 32) : p_sk f len a = p_sk f len (a + 1) := by
  unfold p_sk; rw [show len - a = (len - (a + 1)) + 1 by omega, p_fst, if_neg (by simp [h2])]
theorem p_sk_ge (f : Nat → Int32) (len a : Nat) : a ≤ p_sk f len a := p_fst_ge _ _ _
theorem p_sk_le (f : Nat → Int32) (len a : Nat) : p_sk f len a ≤ max a len := by
  have := p_fst_le (fun i => !decide (f i = 32)) a (len - a)
  unfold p_sk; omega
def p_fl (k w : Int32) (q : Int32 × Int32) : Int32 × Int32 := if q.1 = 0 then (k, w) else q
def p_fg (x : Int32) : Bool := !decide (x < 48) && !decide (57 < x)
theorem p_fg_lt {f : Nat → Int32} {len a : Nat} (h : p_fg (p_nl f len a) = true) : p_sk f len a < len := by
  by_cases e : p_sk f len a < len
  · exact e
  · unfold p_nl at h
    rw [if_neg e] at h
    exact absurd h (by decide)
def p_fe (f : Nat → Int32) (len a : Nat) : Nat := p_fst (fun i => !p_fg (f i)) a (len - a)
theorem p_fe_end {f : Nat → Int32} {len a : Nat} (h : len ≤ a) : p_fe f len a = a := by
  unfold p_fe; rw [show len - a = 0 by omega]; rfl
theorem p_fe_stop {f : Nat → Int32} {len a : Nat} (h : a < len) (h2 : p_fg (f a) = false) : p_fe f len a = a := by
  unfold p_fe; rw [show len - a = (len - (a + 1)) + 1 by omega, p_fst, if_pos (by simp [h2])]
theorem p_fe_go {f : Nat → Int32} {len a : Nat} (h : a < len) (h2 : p_fg (f a) = true) : p_fe f len a = p_fe f len (a + 1) := by
  unfold p_fe; rw [show len - a = (len - (a + 1)) + 1 by omega, p_fst, if_neg (by simp [h2])]
theorem p_fe_ge (f : Nat → Int32) (len a : Nat) : a ≤ p_fe f len a := p_fst_ge _ _ _
theorem p_fe_le (f : Nat → Int32) (len a : Nat) : p_fe f len a ≤ max a len := by
  have := p_fst_le (fun i => !p_fg (f i)) a (len - a)
  unfold p_fe; omega
def p_val (f : Nat → Int32) (a : Nat) : Nat → Int32
  | 0 => 0
  | n + 1 => if n < 3 then ((p_val f a n * 10) + f (a + n)) - 48 else p_val f a n
def p_nv (f : Nat → Int32) (len a : Nat) : Int32 := p_val f (p_sk f len a) (p_fe f len (p_sk f len a) - p_sk f len a)
def p_bad (f : Nat → Int32) (len a : Nat) (lo hi : Int32) : Int32 := if p_fg (p_nl f len a) = true then (if 3 < p_fe f len (p_sk f len a) - p_sk f len a ∨ p_nv f len a < lo ∨ hi < p_nv f len a then 2 else 0) else 1
def p_rv (f : Nat → Int32) (len a : Nat) (lo hi : Int32) : Int32 := if p_bad f len a lo hi = 0 then p_nv f len a else lo
def p_rat (f : Nat → Int32) (len a : Nat) : Nat := if p_fg (p_nl f len a) = true then p_fe f len (p_sk f len a) else p_sk f len a
def p_rna (f : Nat → Int32) (len a na : Nat) : Nat := if p_fg (p_nl f len a) = true then p_sk f len a else na
def p_rq (f : Nat → Int32) (len a : Nat) (lo hi : Int32) (q : Int32 × Int32) : Int32 × Int32 := if p_bad f len a lo hi = 0 then q else p_fl (p_bad f len a lo hi) (nI (p_sk f len a)) q
theorem p_rat_le (f : Nat → Int32) (len a : Nat) : p_rat f len a ≤ max a len := by
  have h1 := p_sk_le f len a
  have h2 := p_fe_le f len (p_sk f len a)
  unfold p_rat; split <;> omega
def p_eq' (f : Nat → Int32) (len a : Nat) (q : Int32 × Int32) : Int32 × Int32 := if p_nl f len a = 59 then q else p_fl 1 (nI (p_sk f len a)) q
theorem p_rv_nat {f : Nat → Int32} {len a l h : Nat} (hl : l < 1000) (hh : h < 1000) : p_rv f len a (nI l) (nI h) = nI (p_rv f len a (nI l) (nI h)).toNatClampNeg ∧ (p_bad f len a (nI l) (nI h) = 0 → l ≤ (p_rv f len a (nI l) (nI h)).toNatClampNeg ∧ (p_rv f len a (nI l) (nI h)).toNatClampNeg ≤ h) ∧ (¬ p_bad f len a (nI l) (nI h) = 0 → (p_rv f len a (nI l) (nI h)).toNatClampNeg = l) := by
  by_cases hb : p_bad f len a (nI l) (nI h) = 0
  · have e : p_rv f len a (nI l) (nI h) = p_nv f len a := if_pos hb
    have hb2 := hb
    unfold p_bad at hb
    split at hb
    · split at hb
      · exact absurd hb (by decide)
      · rename_i z
        have z2 : ¬ p_nv f len a < nI l := fun y => z (Or.inr (Or.inl y))
        have z3 : ¬ nI h < p_nv f len a := fun y => z (Or.inr (Or.inr y))
        rw [Int32.lt_iff_toInt_lt, nI_toInt (by omega)] at z2
        rw [Int32.lt_iff_toInt_lt, nI_toInt (by omega)] at z3
        obtain ⟨j, hj, ej⟩ := nI_of (x := p_nv f len a) (by rw [Int32.lt_iff_toInt_lt, show (0 : Int32).toInt = 0 from by decide]; omega)
        rw [e, ej, nI_clamp hj]
        rw [ej, nI_toInt hj] at z2 z3
        exact ⟨Eq.refl _, fun _ => ⟨by omega, by omega⟩, fun y => absurd hb2 y⟩
    · exact absurd hb (by decide)
  · have e : p_rv f len a (nI l) (nI h) = nI l := if_neg hb
    rw [e, nI_clamp (by omega)]
    exact ⟨Eq.refl _, fun y => absurd y hb, fun _ => Eq.refl _⟩
theorem bk_X5_add_0_7 : rr_chk mX5_add [(.aload_n 0, 0, 0, 0), (.getfield 26, 0, 5, 2), (.sipush 240, 240, 0, 0)] 0 7 = true := by decide +kernel
theorem bk_X5_add_10_11 : rr_chk mX5_add [(.iconst 0, 0, 0, 0)] 10 11 = true := by decide +kernel
set_option maxRecDepth 100000 in
set_option maxHeartbeats 4000000 in
theorem c5_addFull (len a na : Nat) (wt : Bool) (q : Int32 × Int32) (T : Nat → Nat → Int32) (q0 : Nat) (x : Int32) (h : 240 ≤ len) (h2 : len ≤ 240) : rr_C mX5_add 0 [.ref 0, .int x] (W_R0 (rv len a na wt q) T q0) 0 0 (some (rr_b false)) (W_R0 (rv len a na wt q) T q0) := by
  refine rr_C.of (n := 1) fX5_add.1 rfl rfl (fun Z hC => ?_)
  show rr_J Z 2 0 0 (rr_MQ Z 0 0 (some (rr_b false)) (W_R0 (rv len a na wt q) T q0)) 0 [(0, .ref 0), (1, .int x)] [] (W_R0 (rv len a na wt q) T q0)
  refine rr_go hC bk_X5_add_0_7 (l' := [(0, .ref 0), (1, .int x)]) (st' := [.int 240, .int (nI len)]) (w' := (W_R0 (rv len a na wt q) T q0)) rfl ?_
  refine rr_icmp_lt hC (off := 5) (tgt := 12) (by decide +kernel) (fun h7 => by rw [rr_nl_lt (b := 240) (by omega) (by omega)] at h7; omega) (fun h7 => ?_)
  rw [rr_nl_lt (b := 240) (by omega) (by omega)] at h7
  refine rr_go hC bk_X5_add_10_11 (l' := [(0, .ref 0), (1, .int x)]) (st' := [.int 0]) (w' := (W_R0 (rv len a na wt q) T q0)) rfl ?_
  exact rr_retz hC (by decide +kernel) (Or.inl rfl) (by rfl) (by rfl) ⟨Nat.zero_le _, Nat.zero_le _⟩
theorem bk_X5_add_12_21 : rr_chk mX5_add [(.aload_n 0, 0, 0, 0), (.getfield 9, 0, 5, 0), (.aload_n 0, 0, 0, 0), (.getfield 26, 0, 5, 2), (.iload_n 1, 0, 1, 0)] 12 21 = true := by decide +kernel
theorem bk_X5_add_22_33 : rr_chk mX5_add [(.aload_n 0, 0, 0, 0), (.dup, 0, 0, 0), (.getfield 26, 0, 5, 2), (.iconst 1, 1, 0, 0), (.iadd, 0, 0, 0), (.putfield 26, 0, 5, 2), (.iconst 1, 1, 0, 0)] 22 33 = true := by decide +kernel
set_option maxRecDepth 100000 in
set_option maxHeartbeats 4000000 in
theorem c5_add (len a na : Nat) (wt : Bool) (q : Int32 × Int32) (T : Nat → Nat → Int32) (q0 : Nat) (x : Int32) (h : len < 240) : rr_C mX5_add 0 [.ref 0, .int x] (W_R0 (rv len a na wt q) T q0) 0 0 (some (rr_b true)) (W_R0 (rv (len + 1) a na wt q) (va_up T 0 (upd (T 0) len x)) q0) := by
  refine rr_C.of (n := 1) fX5_add.1 rfl rfl (fun Z hC => ?_)
  show rr_J Z 2 0 0 (rr_MQ Z 0 0 (some (rr_b true)) (W_R0 (rv (len + 1) a na wt q) (va_up T 0 (upd (T 0) len x)) q0)) 0 [(0, .ref 0), (1, .int x)] [] (W_R0 (rv len a na wt q) T q0)
  refine rr_go hC bk_X5_add_0_7 (l' := [(0, .ref 0), (1, .int x)]) (st' := [.int 240, .int (nI len)]) (w' := (W_R0 (rv len a na wt q) T q0)) rfl ?_
  refine rr_icmp_lt hC (off := 5) (tgt := 12) (by decide +kernel) (fun h7 => ?_) (fun h7 => by rw [rr_nl_lt (b := 240) (by omega) (by omega)] at h7; omega)
  rw [rr_nl_lt (b := 240) (by omega) (by omega)] at h7
  refine rr_go hC bk_X5_add_12_21 (l' := [(0, .ref 0), (1, .int x)]) (st' := [.int x, .int (nI len), .ref 1]) (w' := (W_R0 (rv len a na wt q) T q0)) rfl ?_
  refine rr_iast hC len (by decide +kernel) rfl rfl (by omega) rfl (w' := (W_R0 (rv len a na wt q) (va_up T 0 (upd (T 0) len x)) q0)) rfl ?_
  show rr_J Z 2 0 0 _ 22 [(0, .ref 0), (1, .int x)] [] (W_R0 (rv len a na wt q) (va_up T 0 (upd (T 0) len x)) q0)
  refine rr_go hC bk_X5_add_22_33 (l' := [(0, .ref 0), (1, .int x)]) (st' := [.int 1]) (w' := (W_R0 (upd (rv len a na wt q) 0 ((nI len) + 1)) (va_up T 0 (upd (T 0) len x)) q0)) rfl ?_
  rw [show ((nI len) + 1 : Int32) = nI (len + 1) from nI_add len 1]
  exact rr_retz hC (by decide +kernel) (Or.inr rfl) (by rfl) (by rfl) ⟨Nat.zero_le _, Nat.zero_le _⟩
theorem bk_X5_fail_0_4 : rr_chk mX5_fail [(.aload_n 0, 0, 0, 0), (.getfield 36, 0, 5, 6)] 0 4 = true := by decide +kernel
theorem bk_X5_fail_7_17 : rr_chk mX5_fail [(.aload_n 0, 0, 0, 0), (.iload_n 1, 0, 1, 0), (.putfield 36, 0, 5, 6), (.aload_n 0, 0, 0, 0), (.iload_n 2, 0, 2, 0), (.putfield 22, 0, 5, 7)] 7 17 = true := by decide +kernel
set_option maxRecDepth 100000 in
set_option maxHeartbeats 4000000 in
theorem c5_fail (len a na : Nat) (wt : Bool) (q : Int32 × Int32) (T : Nat → Nat → Int32) (q0 : Nat) (k w : Int32) : rr_C mX5_fail 0 [.ref 0, .int k, .int w] (W_R0 (rv len a na wt q) T q0) 0 0 none (W_R0 (rv len a na wt (p_fl k w q)) T q0) := by
  refine rr_C.of (n := 2) fX5_fail.1 rfl rfl (fun Z hC => ?_)
  show rr_J Z 3 0 0 (rr_MQ Z 0 0 none (W_R0 (rv len a na wt (p_fl k w q)) T q0)) 0 [(0, .ref 0), (1, .int k), (2, .int w)] [] (W_R0 (rv len a na wt q) T q0)
  refine rr_go hC bk_X5_fail_0_4 (l' := [(0, .ref 0), (1, .int k), (2, .int w)]) (st' := [.int q.1]) (w' := (W_R0 (rv len a na wt q) T q0)) rfl ?_
  refine rr_if_ne hC (off := 13) (tgt := 17) (by decide +kernel) (fun h4 => ?_) (fun h4 => ?_)
  · exact rr_retv hC (by decide +kernel) (by first | (rw [show p_fl k w q = q from if_neg h4]; done) | (rw [show p_fl k w q = (k, w) from if_pos h4]; rfl)) ⟨Nat.zero_le _, Nat.zero_le _⟩
  · refine rr_go hC bk_X5_fail_7_17 (l' := [(0, .ref 0), (1, .int k), (2, .int w)]) (st' := []) (w' := (W_R0 (upd (upd (rv len a na wt q) 4 k) 5 w) T q0)) rfl ?_
    exact rr_retv hC (by decide +kernel) (by first | (rw [show p_fl k w q = q from if_neg h4]; done) | (rw [show p_fl k w q = (k, w) from if_pos h4]; rfl)) ⟨Nat.zero_le _, Nat.zero_le _⟩
theorem bk_X5_nextLetter_0_8 : rr_chk mX5_nextLetter [(.aload_n 0, 0, 0, 0), (.getfield 29, 0, 5, 3), (.aload_n 0, 0, 0, 0), (.getfield 26, 0, 5, 2)] 0 8 = true := by decide +kernel
theorem bk_X5_nextLetter_38_46 : rr_chk mX5_nextLetter [(.aload_n 0, 0, 0, 0), (.getfield 29, 0, 5, 3), (.aload_n 0, 0, 0, 0), (.getfield 26, 0, 5, 2)] 38 46 = true := by decide +kernel
theorem bk_X5_nextLetter_61_62 : rr_chk mX5_nextLetter [(.iconst (-1), (-1), 0, 0)] 61 62 = true := by decide +kernel
theorem bk_X5_nextLetter_49_57 : rr_chk mX5_nextLetter [(.aload_n 0, 0, 0, 0), (.getfield 9, 0, 5, 0), (.aload_n 0, 0, 0, 0), (.getfield 29, 0, 5, 3)] 49 57 = true := by decide +kernel
theorem bk_X5_nextLetter_58_62 : rr_chk mX5_nextLetter [(.goto 4, 0, 0, 0)] 58 62 = true := by decide +kernel
theorem bk_X5_nextLetter_11_19 : rr_chk mX5_nextLetter [(.aload_n 0, 0, 0, 0), (.getfield 9, 0, 5, 0), (.aload_n 0, 0, 0, 0), (.getfield 29, 0, 5, 3)] 11 19 = true := by decide +kernel
theorem bk_X5_nextLetter_20_22 : rr_chk mX5_nextLetter [(.bipush 32, 32, 0, 0)] 20 22 = true := by decide +kernel
theorem bk_X5_nextLetter_25_0 : rr_chk mX5_nextLetter [(.aload_n 0, 0, 0, 0), (.dup, 0, 0, 0), (.getfield 29, 0, 5, 3), (.iconst 1, 1, 0, 0), (.iadd, 0, 0, 0), (.putfield 29, 0, 5, 3), (.goto (-35), 0, 0, 0)] 25 0 = true := by decide +kernel
set_option maxRecDepth 100000 in
set_option maxHeartbeats 4000000 in
theorem c5_nextLetter (len a na : Nat) (wt : Bool) (q : Int32 × Int32) (T : Nat → Nat → Int32) (q0 : Nat) (hlen : len ≤ 240) (ha : a ≤ 10000) : rr_C mX5_nextLetter 0 [.ref 0] (W_R0 (rv len a na wt q) T q0) 0 0 (some (p_nl (T 0) len a)) (W_R0 (rv len (p_sk (T 0) len a) na wt q) T q0) := by
  refine rr_C.of (n := 0) fX5_nextLetter.1 rfl rfl (fun Z hC => ?_)
  show rr_J Z 1 0 0 (rr_MQ Z 0 0 (some (p_nl (T 0) len a)) (W_R0 (rv len (p_sk (T 0) len a) na wt q) T q0)) 0 [(0, .ref 0)] [] (W_R0 (rv len a na wt q) T q0)
  have lp0 : ∀ (j i : Nat), i + j = max a len → a ≤ i → p_sk (T 0) len a = p_sk (T 0) len i → rr_J Z 1 0 0 (rr_MQ Z 0 0 (some (p_nl (T 0) len a)) (W_R0 (rv len (p_sk (T 0) len a) na wt q) T q0)) 0 [(0, .ref 0)] [] (W_R0 (rv len i na wt q) T q0) := by
    intro j
    induction j with
    | zero =>
      intro i hk0 hlo0 hq
      refine rr_go hC bk_X5_nextLetter_0_8 (l' := [(0, .ref 0)]) (st' := [.int (nI len), .int (nI i)]) (w' := (W_R0 (rv len i na wt q) T q0)) rfl ?_
      refine rr_icmp_ge hC (off := 30) (tgt := 38) (by decide +kernel) (fun h8 => ?_) (fun h8 => by rw [rr_nn_le (by omega) (by omega)] at h8; omega)
      rw [rr_nn_le (by omega) (by omega)] at h8
      have hi : p_sk (T 0) len a = i := hq.trans (by first | exact p_sk_end (by omega) | exact p_sk_stop (by omega) h22)
      refine rr_go hC bk_X5_nextLetter_38_46 (l' := [(0, .ref 0)]) (st' := [.int (nI len), .int (nI i)]) (w' := (W_R0 (rv len i na wt q) T q0)) rfl ?_
      refine rr_icmp_ge hC (off := 15) (tgt := 61) (by decide +kernel) (fun h46 => ?_) (fun h46 => ?_)
      · rw [rr_nn_le (by omega) (by omega)] at h46
        refine rr_go hC bk_X5_nextLetter_61_62 (l' := [(0, .ref 0)]) (st' := [.int (-1)]) (w' := (W_R0 (rv len i na wt q) T q0)) rfl ?_
        exact rr_reti hC (by decide +kernel) (by unfold p_nl; rw [hi]; first | (exfalso; omega) | rw [if_pos (by omega)] | rw [if_neg (by omega)]) (by rw [hi]) ⟨Nat.zero_le _, Nat.zero_le _⟩
      · rw [rr_nn_le (by omega) (by omega)] at h46
        refine rr_go hC bk_X5_nextLetter_49_57 (l' := [(0, .ref 0)]) (st' := [.int (nI i), .ref 1]) (w' := (W_R0 (rv len i na wt q) T q0)) rfl ?_
        refine rr_iald hC i (by decide +kernel) rfl rfl (by omega) rfl ?_
        show rr_J Z 1 0 0 _ 58 [(0, .ref 0)] [.int (T 0 i)] (W_R0 (rv len i na wt q) T q0)
        refine rr_go hC bk_X5_nextLetter_58_62 (l' := [(0, .ref 0)]) (st' := [.int (T 0 i)]) (w' := (W_R0 (rv len i na wt q) T q0)) rfl ?_
        exact rr_reti hC (by decide +kernel) (by unfold p_nl; rw [hi]; first | (exfalso; omega) | rw [if_pos (by omega)] | rw [if_neg (by omega)]) (by rw [hi]) ⟨Nat.zero_le _, Nat.zero_le _⟩
    | succ j ih =>
      intro i hk0 hlo0 hq
      refine rr_go hC bk_X5_nextLetter_0_8 (l' := [(0, .ref 0)]) (st' := [.int (nI len), .int (nI i)]) (w' := (W_R0 (rv len i na wt q) T q0)) rfl ?_
      refine rr_icmp_ge hC (off := 30) (tgt := 38) (by decide +kernel) (fun h8 => by rw [rr_nn_le (by omega) (by omega)] at h8; omega) (fun h8 => ?_)
      rw [rr_nn_le (by omega) (by omega)] at h8
      refine rr_go hC bk_X5_nextLetter_11_19 (l' := [(0, .ref 0)]) (st' := [.int (nI i), .ref 1]) (w' := (W_R0 (rv len i na wt q) T q0)) rfl ?_
      refine rr_iald hC i (by decide +kernel) rfl rfl (by omega) rfl ?_
      show rr_J Z 1 0 0 _ 20 [(0, .ref 0)] [.int (T 0 i)] (W_R0 (rv len i na wt q) T q0)
      refine rr_go hC bk_X5_nextLetter_20_22 (l' := [(0, .ref 0)]) (st' := [.int 32, .int (T 0 i)]) (w' := (W_R0 (rv len i na wt q) T q0)) rfl ?_
      refine rr_icmp_ne hC (off := 16) (tgt := 38) (by decide +kernel) (fun h22 => ?_) (fun h22 => ?_)
      · have hi : p_sk (T 0) len a = i := hq.trans (by first | exact p_sk_end (by omega) | exact p_sk_stop (by omega) h22)
        refine rr_go hC bk_X5_nextLetter_38_46 (l' := [(0, .ref 0)]) (st' := [.int (nI len), .int (nI i)]) (w' := (W_R0 (rv len i na wt q) T q0)) rfl ?_
        refine rr_icmp_ge hC (off := 15) (tgt := 61) (by decide +kernel) (fun h46 => ?_) (fun h46 => ?_)
        · rw [rr_nn_le (by omega) (by omega)] at h46
          refine rr_go hC bk_X5_nextLetter_61_62 (l' := [(0, .ref 0)]) (st' := [.int (-1)]) (w' := (W_R0 (rv len i na wt q) T q0)) rfl ?_
          exact rr_reti hC (by decide +kernel) (by unfold p_nl; rw [hi]; first | (exfalso; omega) | rw [if_pos (by omega)] | rw [if_neg (by omega)]) (by rw [hi]) ⟨Nat.zero_le _, Nat.zero_le _⟩
        · rw [rr_nn_le (by omega) (by omega)] at h46
          refine rr_go hC bk_X5_nextLetter_49_57 (l' := [(0, .ref 0)]) (st' := [.int (nI i), .ref 1]) (w' := (W_R0 (rv len i na wt q) T q0)) rfl ?_
          refine rr_iald hC i (by decide +kernel) rfl rfl (by omega) rfl ?_
          show rr_J Z 1 0 0 _ 58 [(0, .ref 0)] [.int (T 0 i)] (W_R0 (rv len i na wt q) T q0)
          refine rr_go hC bk_X5_nextLetter_58_62 (l' := [(0, .ref 0)]) (st' := [.int (T 0 i)]) (w' := (W_R0 (rv len i na wt q) T q0)) rfl ?_
          exact rr_reti hC (by decide +kernel) (by unfold p_nl; rw [hi]; first | (exfalso; omega) | rw [if_pos (by omega)] | rw [if_neg (by omega)]) (by rw [hi]) ⟨Nat.zero_le _, Nat.zero_le _⟩
      · refine rr_go hC bk_X5_nextLetter_25_0 (l' := [(0, .ref 0)]) (st' := []) (w' := (W_R0 (upd (rv len i na wt q) 1 ((nI i) + 1)) T q0)) rfl ?_
        rw [show ((nI i) + 1 : Int32) = nI (i + 1) from nI_add i 1]
        exact rr_cast (l' := [(0, .ref 0)]) (by rfl) rfl (w' := (W_R0 (rv len (i + 1) na wt q) T q0)) (by rfl) (ih (i + 1) (by omega) (by omega) (hq.trans (p_sk_go (by omega) h22)))
  exact rr_cast (l' := [(0, .ref 0)]) (by rfl) rfl (w' := (W_R0 (rv len a na wt q) T q0)) (by rfl) (lp0 ((max a len) - a) a (by omega) (Nat.le_refl _) rfl)
theorem bk_X5_isFigure_0_3 : rr_chk mX5_isFigure [(.iload_n 0, 0, 0, 0), (.bipush 48, 48, 0, 0)] 0 3 = true := by decide +kernel
theorem bk_X5_isFigure_16_17 : rr_chk mX5_isFigure [(.iconst 0, 0, 0, 0)] 16 17 = true := by decide +kernel
theorem bk_X5_isFigure_6_9 : rr_chk mX5_isFigure [(.iload_n 0, 0, 0, 0), (.bipush 57, 57, 0, 0)] 6 9 = true := by decide +kernel
theorem bk_X5_isFigure_12_17 : rr_chk mX5_isFigure [(.iconst 1, 1, 0, 0), (.goto 4, 0, 0, 0)] 12 17 = true := by decide +kernel
set_option maxRecDepth 100000 in
set_option maxHeartbeats 4000000 in
theorem c5_isFigure (x : Int32) : rr_C mX5_isFigure 0 [.int x] W_E 0 0 (some (rr_b (p_fg x))) W_E := by
  refine rr_C.of (n := 1) fX5_isFigure.1 rfl rfl (fun Z hC => ?_)
  show rr_J Z 1 0 0 (rr_MQ Z 0 0 (some (rr_b (p_fg x))) W_E) 0 [(0, .int x)] [] W_E
  refine rr_go hC bk_X5_isFigure_0_3 (l' := [(0, .int x)]) (st' := [.int 48, .int x]) (w' := W_E) rfl ?_
  refine rr_icmp_lt hC (off := 13) (tgt := 16) (by decide +kernel) (fun h3 => ?_) (fun h3 => ?_)
  · refine rr_go hC bk_X5_isFigure_16_17 (l' := [(0, .int x)]) (st' := [.int 0]) (w' := W_E) rfl ?_
    exact rr_retz hC (by decide +kernel) (Or.inl rfl) (by simp only [p_fg, rr_b, *, decide_true, decide_false, Bool.not_true, Bool.not_false, Bool.and_true, Bool.and_false, Bool.true_and, Bool.false_and]) (by rfl) ⟨Nat.zero_le _, Nat.zero_le _⟩
  · refine rr_go hC bk_X5_isFigure_6_9 (l' := [(0, .int x)]) (st' := [.int 57, .int x]) (w' := W_E) rfl ?_
    refine rr_icmp_gt hC (off := 7) (tgt := 16) (by decide +kernel) (fun h9 => ?_) (fun h9 => ?_)
    · refine rr_go hC bk_X5_isFigure_16_17 (l' := [(0, .int x)]) (st' := [.int 0]) (w' := W_E) rfl ?_
      exact rr_retz hC (by decide +kernel) (Or.inl rfl) (by simp only [p_fg, rr_b, *, decide_true, decide_false, Bool.not_true, Bool.not_false, Bool.and_true, Bool.and_false, Bool.true_and, Bool.false_and]) (by rfl) ⟨Nat.zero_le _, Nat.zero_le _⟩
    · refine rr_go hC bk_X5_isFigure_12_17 (l' := [(0, .int x)]) (st' := [.int 1]) (w' := W_E) rfl ?_
      exact rr_retz hC (by decide +kernel) (Or.inr rfl) (by simp only [p_fg, rr_b, *, decide_true, decide_false, Bool.not_true, Bool.not_false, Bool.and_true, Bool.and_false, Bool.true_and, Bool.false_and]) (by rfl) ⟨Nat.zero_le _, Nat.zero_le _⟩
theorem bk_X5_readNumber_0_1 : rr_chk mX5_readNumber [(.aload_n 0, 0, 0, 0)] 0 1 = true := by decide +kernel
theorem bk_X5_readNumber_21_31 : rr_chk mX5_readNumber [(.aload_n 0, 0, 0, 0), (.aload_n 0, 0, 0, 0), (.getfield 29, 0, 5, 3), (.putfield 60, 0, 5, 4), (.iconst 0, 0, 0, 0), (.istore_n 3, 0, 3, 0)] 21 31 = true := by decide +kernel
theorem bk_X5_readNumber_31_39 : rr_chk mX5_readNumber [(.aload_n 0, 0, 0, 0), (.getfield 29, 0, 5, 3), (.aload_n 0, 0, 0, 0), (.getfield 26, 0, 5, 2)] 31 39 = true := by decide +kernel
theorem bk_X5_readNumber_101_111 : rr_chk mX5_readNumber [(.aload_n 0, 0, 0, 0), (.getfield 29, 0, 5, 3), (.aload_n 0, 0, 0, 0), (.getfield 60, 0, 5, 4), (.isub, 0, 0, 0), (.iconst 3, 3, 0, 0)] 101 111 = true := by decide +kernel
theorem bk_X5_readNumber_124_130 : rr_chk mX5_readNumber [(.aload_n 0, 0, 0, 0), (.iconst 2, 2, 0, 0), (.aload_n 0, 0, 0, 0), (.getfield 60, 0, 5, 4)] 124 130 = true := by decide +kernel
theorem bk_X5_readNumber_133_134 : rr_chk mX5_readNumber [(.iload_n 1, 0, 1, 0)] 133 134 = true := by decide +kernel
theorem bk_X5_readNumber_114_116 : rr_chk mX5_readNumber [(.iload_n 3, 0, 3, 0), (.iload_n 1, 0, 1, 0)] 114 116 = true := by decide +kernel
theorem bk_X5_readNumber_119_121 : rr_chk mX5_readNumber [(.iload_n 3, 0, 3, 0), (.iload_n 2, 0, 2, 0)] 119 121 = true := by decide +kernel
theorem bk_X5_readNumber_135_136 : rr_chk mX5_readNumber [(.iload_n 3, 0, 3, 0)] 135 136 = true := by decide +kernel
theorem bk_X5_readNumber_42_50 : rr_chk mX5_readNumber [(.aload_n 0, 0, 0, 0), (.getfield 9, 0, 5, 0), (.aload_n 0, 0, 0, 0), (.getfield 29, 0, 5, 3)] 42 50 = true := by decide +kernel
theorem bk_X5_readNumber_57_67 : rr_chk mX5_readNumber [(.aload_n 0, 0, 0, 0), (.getfield 29, 0, 5, 3), (.aload_n 0, 0, 0, 0), (.getfield 60, 0, 5, 4), (.isub, 0, 0, 0), (.iconst 3, 3, 0, 0)] 57 67 = true := by decide +kernel
theorem bk_X5_readNumber_88_31 : rr_chk mX5_readNumber [(.aload_n 0, 0, 0, 0), (.dup, 0, 0, 0), (.getfield 29, 0, 5, 3), (.iconst 1, 1, 0, 0), (.iadd, 0, 0, 0), (.putfield 29, 0, 5, 3), (.goto (-67), 0, 0, 0)] 88 31 = true := by decide +kernel
theorem bk_X5_readNumber_70_82 : rr_chk mX5_readNumber [(.iload_n 3, 0, 3, 0), (.bipush 10, 10, 0, 0), (.imul, 0, 0, 0), (.aload_n 0, 0, 0, 0), (.getfield 9, 0, 5, 0), (.aload_n 0, 0, 0, 0), (.getfield 29, 0, 5, 3)] 70 82 = true := by decide +kernel
theorem bk_X5_readNumber_83_31 : rr_chk mX5_readNumber [(.iadd, 0, 0, 0), (.bipush 48, 48, 0, 0), (.isub, 0, 0, 0), (.istore_n 3, 0, 3, 0), (.aload_n 0, 0, 0, 0), (.dup, 0, 0, 0), (.getfield 29, 0, 5, 3), (.iconst 1, 1, 0, 0), (.iadd, 0, 0, 0), (.putfield 29, 0, 5, 3), (.goto (-67), 0, 0, 0)] 83 31 = true := by decide +kernel
theorem bk_X5_readNumber_10_16 : rr_chk mX5_readNumber [(.aload_n 0, 0, 0, 0), (.iconst 1, 1, 0, 0), (.aload_n 0, 0, 0, 0), (.getfield 29, 0, 5, 3)] 10 16 = true := by decide +kernel
theorem bk_X5_readNumber_19_20 : rr_chk mX5_readNumber [(.iload_n 1, 0, 1, 0)] 19 20 = true := by decide +kernel
set_option maxRecDepth 100000 in
set_option maxHeartbeats 4000000 in
theorem c5_readNumber (len a na : Nat) (wt : Bool) (q : Int32 × Int32) (T : Nat → Nat → Int32) (q0 : Nat) (lo hi : Int32) (hlen : len ≤ 240) (ha : a ≤ 10000) : rr_C mX5_readNumber 1 [.ref 0, .int lo, .int hi] (W_R0 (rv len a na wt q) T q0) 0 0 (some (p_rv (T 0) len a lo hi)) (W_R0 (rv len (p_rat (T 0) len a) (p_rna (T 0) len a na) wt (p_rq (T 0) len a lo hi q)) T q0) := by
  refine rr_C.of (n := 2) fX5_readNumber.1 rfl rfl (fun Z hC => ?_)
  show rr_J Z 4 0 0 (rr_MQ Z 0 0 (some (p_rv (T 0) len a lo hi)) (W_R0 (rv len (p_rat (T 0) len a) (p_rna (T 0) len a na) wt (p_rq (T 0) len a lo hi q)) T q0)) 0 [(0, .ref 0), (1, .int lo), (2, .int hi)] [] (W_R0 (rv len a na wt q) T q0)
  refine rr_go hC bk_X5_readNumber_0_1 (l' := [(0, .ref 0), (1, .int lo), (2, .int hi)]) (st' := [.ref 0]) (w' := (W_R0 (rv len a na wt q) T q0)) rfl ?_
  refine rr_callV hC (by decide +kernel) kl_5_42 fX5_nextLetter (c5_nextLetter len a na wt q T (q0 + 2) (by omega) (by omega)) rfl rfl [0, 1] rfl rfl (Eq.refl 2) rfl rfl rfl (rest := []) rfl rfl ⟨Nat.zero_le _, Nat.zero_le _⟩ (w2 := (W_R0 (rv len (p_sk (T 0) len a) na wt q) T q0)) rfl ?_
  show rr_J Z 4 0 0 _ 4 [(0, .ref 0), (1, .int lo), (2, .int hi)] [.int (p_nl (T 0) len a)] (W_R0 (rv len (p_sk (T 0) len a) na wt q) T q0)
  have hsk1 := p_sk_le (T 0) len a
  refine rr_callS hC (by decide +kernel) kl_5_52 fX5_isFigure (c5_isFigure (p_nl (T 0) len a)) rfl rfl [] rfl rfl (Eq.refl 0) rfl (rest := []) rfl rfl ⟨Nat.zero_le _, Nat.zero_le _⟩ (w2 := (W_R0 (rv len (p_sk (T 0) len a) na wt q) T q0)) rfl ?_
  show rr_J Z 4 0 0 _ 7 [(0, .ref 0), (1, .int lo), (2, .int hi)] [.int (rr_b (p_fg (p_nl (T 0) len a)))] (W_R0 (rv len (p_sk (T 0) len a) na wt q) T q0)
  refine rr_neb hC (off := 14) (tgt := 21) (by decide +kernel) (fun h7 => ?_) (fun h7 => ?_)
  · have hfg := h7
    have hal := p_fg_lt h7
    refine rr_go hC bk_X5_readNumber_21_31 (l' := [(0, .ref 0), (1, .int lo), (2, .int hi), (3, .int 0)]) (st' := []) (w' := (W_R0 (upd (rv len (p_sk (T 0) len a) na wt q) 2 (nI (p_sk (T 0) len a))) T q0)) rfl ?_
    have lp31 : ∀ (j i : Nat), i + j = len → (p_sk (T 0) len a) ≤ i → p_fe (T 0) len (p_sk (T 0) len a) = p_fe (T 0) len i → rr_J Z 4 0 0 (rr_MQ Z 0 0 (some (p_rv (T 0) len a lo hi)) (W_R0 (rv len (p_rat (T 0) len a) (p_rna (T 0) len a na) wt (p_rq (T 0) len a lo hi q)) T q0)) 31 [(0, .ref 0), (1, .int lo), (2, .int hi), (3, .int (p_val (T 0) (p_sk (T 0) len a) (i - (p_sk (T 0) len a))))] [] (W_R0 (rv len i (p_sk (T 0) len a) wt q) T q0) := by
      intro j
      induction j with
      | zero =>
        intro i hk31 hlo31 hq
        refine rr_go hC bk_X5_readNumber_31_39 (l' := [(0, .ref 0), (1, .int lo), (2, .int hi), (3, .int (p_val (T 0) (p_sk (T 0) len a) (i - (p_sk (T 0) len a))))]) (st' := [.int (nI len), .int (nI i)]) (w' := (W_R0 (rv len i (p_sk (T 0) len a) wt q) T q0)) rfl ?_
        refine rr_icmp_ge hC (off := 62) (tgt := 101) (by decide +kernel) (fun h39 => ?_) (fun h39 => by rw [rr_nn_le (by omega) (by omega)] at h39; omega)
        rw [rr_nn_le (by omega) (by omega)] at h39
        have hi2 : p_fe (T 0) len (p_sk (T 0) len a) = i := hq.trans (by first | exact p_fe_end (by omega) | exact p_fe_stop (by omega) h54)
        have hnv : p_nv (T 0) len a = p_val (T 0) (p_sk (T 0) len a) (i - (p_sk (T 0) len a)) := by unfold p_nv; rw [hi2]
        refine rr_go hC bk_X5_readNumber_101_111 (l' := [(0, .ref 0), (1, .int lo), (2, .int hi), (3, .int (p_val (T 0) (p_sk (T 0) len a) (i - (p_sk (T 0) len a))))]) (st' := [.int 3, .int ((nI i) - (nI (p_sk (T 0) len a)))]) (w' := (W_R0 (rv len i (p_sk (T 0) len a) wt q) T q0)) rfl ?_
        rw [show ((nI i) - (nI (p_sk (T 0) len a)) : Int32) = nI (i - (p_sk (T 0) len a)) from pk_sub (a := i) (b := p_sk (T 0) len a) (by omega)]
        refine rr_icmp_gt hC (off := 13) (tgt := 124) (by decide +kernel) (fun h111 => ?_) (fun h111 => ?_)
        · rw [rr_ln_lt (a := 3) (by omega) (by omega)] at h111
          refine rr_go hC bk_X5_readNumber_124_130 (l' := [(0, .ref 0), (1, .int lo), (2, .int hi), (3, .int (p_val (T 0) (p_sk (T 0) len a) (i - (p_sk (T 0) len a))))]) (st' := [.int (nI (p_sk (T 0) len a)), .int 2, .ref 0]) (w' := (W_R0 (rv len i (p_sk (T 0) len a) wt q) T q0)) rfl ?_
          refine rr_callV hC (by decide +kernel) kl_5_56 fX5_fail (c5_fail len i (p_sk (T 0) len a) wt q T (q0 + 2) 2 (nI (p_sk (T 0) len a))) rfl rfl [0, 1] rfl rfl (Eq.refl 2) rfl rfl rfl (rest := []) rfl rfl ⟨Nat.zero_le _, Nat.zero_le _⟩ (w2 := (W_R0 (rv len i (p_sk (T 0) len a) wt (p_fl 2 (nI (p_sk (T 0) len a)) q)) T q0)) rfl ?_
          show rr_J Z 4 0 0 _ 133 [(0, .ref 0), (1, .int lo), (2, .int hi), (3, .int (p_val (T 0) (p_sk (T 0) len a) (i - (p_sk (T 0) len a))))] [] (W_R0 (rv len i (p_sk (T 0) len a) wt (p_fl 2 (nI (p_sk (T 0) len a)) q)) T q0)
          refine rr_go hC bk_X5_readNumber_133_134 (l' := [(0, .ref 0), (1, .int lo), (2, .int hi), (3, .int (p_val (T 0) (p_sk (T 0) len a) (i - (p_sk (T 0) len a))))]) (st' := [.int lo]) (w' := (W_R0 (rv len i (p_sk (T 0) len a) wt (p_fl 2 (nI (p_sk (T 0) len a)) q)) T q0)) rfl ?_
          have hbad : p_bad (T 0) len a lo hi = 2 := (if_pos hfg).trans (if_pos (by rw [hi2, hnv]; first | exact Or.inl h111 | exact Or.inr (Or.inl h116) | exact Or.inr (Or.inr (Int32.not_le.mp h121))))
          exact rr_reti hC (by decide +kernel) (by unfold p_rv; rw [if_neg (by rw [hbad]; decide)]) (by unfold p_rat p_rna p_rq; rw [if_pos hfg, if_pos hfg, if_neg (by rw [hbad]; decide), hbad, hi2]) ⟨Nat.zero_le _, Nat.zero_le _⟩
        · rw [rr_ln_lt (a := 3) (by omega) (by omega)] at h111
          refine rr_go hC bk_X5_readNumber_114_116 (l' := [(0, .ref 0), (1, .int lo), (2, .int hi), (3, .int (p_val (T 0) (p_sk (T 0) len a) (i - (p_sk (T 0) len a))))]) (st' := [.int lo, .int (p_val (T 0) (p_sk (T 0) len a) (i - (p_sk (T 0) len a)))]) (w' := (W_R0 (rv len i (p_sk (T 0) len a) wt q) T q0)) rfl ?_
          refine rr_icmp_lt hC (off := 8) (tgt := 124) (by decide +kernel) (fun h116 => ?_) (fun h116 => ?_)
          · refine rr_go hC bk_X5_readNumber_124_130 (l' := [(0, .ref 0), (1, .int lo), (2, .int hi), (3, .int (p_val (T 0) (p_sk (T 0) len a) (i - (p_sk (T 0) len a))))]) (st' := [.int (nI (p_sk (T 0) len a)), .int 2, .ref 0]) (w' := (W_R0 (rv len i (p_sk (T 0) len a) wt q) T q0)) rfl ?_
            refine rr_callV hC (by decide +kernel) kl_5_56 fX5_fail (c5_fail len i (p_sk (T 0) len a) wt q T (q0 + 2) 2 (nI (p_sk (T 0) len a))) rfl rfl [0, 1] rfl rfl (Eq.refl 2) rfl rfl rfl (rest := []) rfl rfl ⟨Nat.zero_le _, Nat.zero_le _⟩ (w2 := (W_R0 (rv len i (p_sk (T 0) len a) wt (p_fl 2 (nI (p_sk (T 0) len a)) q)) T q0)) rfl ?_
            show rr_J Z 4 0 0 _ 133 [(0, .ref 0), (1, .int lo), (2, .int hi), (3, .int (p_val (T 0) (p_sk (T 0) len a) (i - (p_sk (T 0) len a))))] [] (W_R0 (rv len i (p_sk (T 0) len a) wt (p_fl 2 (nI (p_sk (T 0) len a)) q)) T q0)
            refine rr_go hC bk_X5_readNumber_133_134 (l' := [(0, .ref 0), (1, .int lo), (2, .int hi), (3, .int (p_val (T 0) (p_sk (T 0) len a) (i - (p_sk (T 0) len a))))]) (st' := [.int lo]) (w' := (W_R0 (rv len i (p_sk (T 0) len a) wt (p_fl 2 (nI (p_sk (T 0) len a)) q)) T q0)) rfl ?_
            have hbad : p_bad (T 0) len a lo hi = 2 := (if_pos hfg).trans (if_pos (by rw [hi2, hnv]; first | exact Or.inl h111 | exact Or.inr (Or.inl h116) | exact Or.inr (Or.inr (Int32.not_le.mp h121))))
            exact rr_reti hC (by decide +kernel) (by unfold p_rv; rw [if_neg (by rw [hbad]; decide)]) (by unfold p_rat p_rna p_rq; rw [if_pos hfg, if_pos hfg, if_neg (by rw [hbad]; decide), hbad, hi2]) ⟨Nat.zero_le _, Nat.zero_le _⟩
          · refine rr_go hC bk_X5_readNumber_119_121 (l' := [(0, .ref 0), (1, .int lo), (2, .int hi), (3, .int (p_val (T 0) (p_sk (T 0) len a) (i - (p_sk (T 0) len a))))]) (st' := [.int hi, .int (p_val (T 0) (p_sk (T 0) len a) (i - (p_sk (T 0) len a)))]) (w' := (W_R0 (rv len i (p_sk (T 0) len a) wt q) T q0)) rfl ?_
            refine rr_icmp_le hC (off := 14) (tgt := 135) (by decide +kernel) (fun h121 => ?_) (fun h121 => ?_)
            · refine rr_go hC bk_X5_readNumber_135_136 (l' := [(0, .ref 0), (1, .int lo), (2, .int hi), (3, .int (p_val (T 0) (p_sk (T 0) len a) (i - (p_sk (T 0) len a))))]) (st' := [.int (p_val (T 0) (p_sk (T 0) len a) (i - (p_sk (T 0) len a)))]) (w' := (W_R0 (rv len i (p_sk (T 0) len a) wt q) T q0)) rfl ?_
              have hbad : p_bad (T 0) len a lo hi = 0 := (if_pos hfg).trans (if_neg (by rw [hi2, hnv]; rintro (z | z | z); exact h111 z; exact h116 z; exact absurd h121 (Int32.not_le.mpr z)))
              exact rr_reti hC (by decide +kernel) (by unfold p_rv; rw [if_pos hbad, hnv]) (by unfold p_rat p_rna p_rq; rw [if_pos hfg, if_pos hfg, if_pos hbad, hi2]) ⟨Nat.zero_le _, Nat.zero_le _⟩
            · refine rr_go hC bk_X5_readNumber_124_130 (l' := [(0, .ref 0), (1, .int lo), (2, .int hi), (3, .int (p_val (T 0) (p_sk (T 0) len a) (i - (p_sk (T 0) len a))))]) (st' := [.int (nI (p_sk (T 0) len a)), .int 2, .ref 0]) (w' := (W_R0 (rv len i (p_sk (T 0) len a) wt q) T q0)) rfl ?_
              refine rr_callV hC (by decide +kernel) kl_5_56 fX5_fail (c5_fail len i (p_sk (T 0) len a) wt q T (q0 + 2) 2 (nI (p_sk (T 0) len a))) rfl rfl [0, 1] rfl rfl (Eq.refl 2) rfl rfl rfl (rest := []) rfl rfl ⟨Nat.zero_le _, Nat.zero_le _⟩ (w2 := (W_R0 (rv len i (p_sk (T 0) len a) wt (p_fl 2 (nI (p_sk (T 0) len a)) q)) T q0)) rfl ?_
              show rr_J Z 4 0 0 _ 133 [(0, .ref 0), (1, .int lo), (2, .int hi), (3, .int (p_val (T 0) (p_sk (T 0) len a) (i - (p_sk (T 0) len a))))] [] (W_R0 (rv len i (p_sk (T 0) len a) wt (p_fl 2 (nI (p_sk (T 0) len a)) q)) T q0)
              refine rr_go hC bk_X5_readNumber_133_134 (l' := [(0, .ref 0), (1, .int lo), (2, .int hi), (3, .int (p_val (T 0) (p_sk (T 0) len a) (i - (p_sk (T 0) len a))))]) (st' := [.int lo]) (w' := (W_R0 (rv len i (p_sk (T 0) len a) wt (p_fl 2 (nI (p_sk (T 0) len a)) q)) T q0)) rfl ?_
              have hbad : p_bad (T 0) len a lo hi = 2 := (if_pos hfg).trans (if_pos (by rw [hi2, hnv]; first | exact Or.inl h111 | exact Or.inr (Or.inl h116) | exact Or.inr (Or.inr (Int32.not_le.mp h121))))
              exact rr_reti hC (by decide +kernel) (by unfold p_rv; rw [if_neg (by rw [hbad]; decide)]) (by unfold p_rat p_rna p_rq; rw [if_pos hfg, if_pos hfg, if_neg (by rw [hbad]; decide), hbad, hi2]) ⟨Nat.zero_le _, Nat.zero_le _⟩
      | succ j ih =>
        intro i hk31 hlo31 hq
        refine rr_go hC bk_X5_readNumber_31_39 (l' := [(0, .ref 0), (1, .int lo), (2, .int hi), (3, .int (p_val (T 0) (p_sk (T 0) len a) (i - (p_sk (T 0) len a))))]) (st' := [.int (nI len), .int (nI i)]) (w' := (W_R0 (rv len i (p_sk (T 0) len a) wt q) T q0)) rfl ?_
        refine rr_icmp_ge hC (off := 62) (tgt := 101) (by decide +kernel) (fun h39 => by rw [rr_nn_le (by omega) (by omega)] at h39; omega) (fun h39 => ?_)
        rw [rr_nn_le (by omega) (by omega)] at h39
        refine rr_go hC bk_X5_readNumber_42_50 (l' := [(0, .ref 0), (1, .int lo), (2, .int hi), (3, .int (p_val (T 0) (p_sk (T 0) len a) (i - (p_sk (T 0) len a))))]) (st' := [.int (nI i), .ref 1]) (w' := (W_R0 (rv len i (p_sk (T 0) len a) wt q) T q0)) rfl ?_
        refine rr_iald hC i (by decide +kernel) rfl rfl (by omega) rfl ?_
        show rr_J Z 4 0 0 _ 51 [(0, .ref 0), (1, .int lo), (2, .int hi), (3, .int (p_val (T 0) (p_sk (T 0) len a) (i - (p_sk (T 0) len a))))] [.int (T 0 i)] (W_R0 (rv len i (p_sk (T 0) len a) wt q) T q0)
        refine rr_callS hC (by decide +kernel) kl_5_52 fX5_isFigure (c5_isFigure (T 0 i)) rfl rfl [] rfl rfl (Eq.refl 0) rfl (rest := []) rfl rfl ⟨Nat.zero_le _, Nat.zero_le _⟩ (w2 := (W_R0 (rv len i (p_sk (T 0) len a) wt q) T q0)) rfl ?_
        show rr_J Z 4 0 0 _ 54 [(0, .ref 0), (1, .int lo), (2, .int hi), (3, .int (p_val (T 0) (p_sk (T 0) len a) (i - (p_sk (T 0) len a))))] [.int (rr_b (p_fg (T 0 i)))] (W_R0 (rv len i (p_sk (T 0) len a) wt q) T q0)
        refine rr_eqb hC (off := 47) (tgt := 101) (by decide +kernel) (fun h54 => ?_) (fun h54 => ?_)
        · have hi2 : p_fe (T 0) len (p_sk (T 0) len a) = i := hq.trans (by first | exact p_fe_end (by omega) | exact p_fe_stop (by omega) h54)
          have hnv : p_nv (T 0) len a = p_val (T 0) (p_sk (T 0) len a) (i - (p_sk (T 0) len a)) := by unfold p_nv; rw [hi2]
          refine rr_go hC bk_X5_readNumber_101_111 (l' := [(0, .ref 0), (1, .int lo), (2, .int hi), (3, .int (p_val (T 0) (p_sk (T 0) len a) (i - (p_sk (T 0) len a))))]) (st' := [.int 3, .int ((nI i) - (nI (p_sk (T 0) len a)))]) (w' := (W_R0 (rv len i (p_sk (T 0) len a) wt q) T q0)) rfl ?_
          rw [show ((nI i) - (nI (p_sk (T 0) len a)) : Int32) = nI (i - (p_sk (T 0) len a)) from pk_sub (a := i) (b := p_sk (T 0) len a) (by omega)]
          refine rr_icmp_gt hC (off := 13) (tgt := 124) (by decide +kernel) (fun h111 => ?_) (fun h111 => ?_)
          · rw [rr_ln_lt (a := 3) (by omega) (by omega)] at h111
            refine rr_go hC bk_X5_readNumber_124_130 (l' := [(0, .ref 0), (1, .int lo), (2, .int hi), (3, .int (p_val (T 0) (p_sk (T 0) len a) (i - (p_sk (T 0) len a))))]) (st' := [.int (nI (p_sk (T 0) len a)), .int 2, .ref 0]) (w' := (W_R0 (rv len i (p_sk (T 0) len a) wt q) T q0)) rfl ?_
            refine rr_callV hC (by decide +kernel) kl_5_56 fX5_fail (c5_fail len i (p_sk (T 0) len a) wt q T (q0 + 2) 2 (nI (p_sk (T 0) len a))) rfl rfl [0, 1] rfl rfl (Eq.refl 2) rfl rfl rfl (rest := []) rfl rfl ⟨Nat.zero_le _, Nat.zero_le _⟩ (w2 := (W_R0 (rv len i (p_sk (T 0) len a) wt (p_fl 2 (nI (p_sk (T 0) len a)) q)) T q0)) rfl ?_
            show rr_J Z 4 0 0 _ 133 [(0, .ref 0), (1, .int lo), (2, .int hi), (3, .int (p_val (T 0) (p_sk (T 0) len a) (i - (p_sk (T 0) len a))))] [] (W_R0 (rv len i (p_sk (T 0) len a) wt (p_fl 2 (nI (p_sk (T 0) len a)) q)) T q0)
            refine rr_go hC bk_X5_readNumber_133_134 (l' := [(0, .ref 0), (1, .int lo), (2, .int hi), (3, .int (p_val (T 0) (p_sk (T 0) len a) (i - (p_sk (T 0) len a))))]) (st' := [.int lo]) (w' := (W_R0 (rv len i (p_sk (T 0) len a) wt (p_fl 2 (nI (p_sk (T 0) len a)) q)) T q0)) rfl ?_
            have hbad : p_bad (T 0) len a lo hi = 2 := (if_pos hfg).trans (if_pos (by rw [hi2, hnv]; first | exact Or.inl h111 | exact Or.inr (Or.inl h116) | exact Or.inr (Or.inr (Int32.not_le.mp h121))))
            exact rr_reti hC (by decide +kernel) (by unfold p_rv; rw [if_neg (by rw [hbad]; decide)]) (by unfold p_rat p_rna p_rq; rw [if_pos hfg, if_pos hfg, if_neg (by rw [hbad]; decide), hbad, hi2]) ⟨Nat.zero_le _, Nat.zero_le _⟩
          · rw [rr_ln_lt (a := 3) (by omega) (by omega)] at h111
            refine rr_go hC bk_X5_readNumber_114_116 (l' := [(0, .ref 0), (1, .int lo), (2, .int hi), (3, .int (p_val (T 0) (p_sk (T 0) len a) (i - (p_sk (T 0) len a))))]) (st' := [.int lo, .int (p_val (T 0) (p_sk (T 0) len a) (i - (p_sk (T 0) len a)))]) (w' := (W_R0 (rv len i (p_sk (T 0) len a) wt q) T q0)) rfl ?_
            refine rr_icmp_lt hC (off := 8) (tgt := 124) (by decide +kernel) (fun h116 => ?_) (fun h116 => ?_)
            · refine rr_go hC bk_X5_readNumber_124_130 (l' := [(0, .ref 0), (1, .int lo), (2, .int hi), (3, .int (p_val (T 0) (p_sk (T 0) len a) (i - (p_sk (T 0) len a))))]) (st' := [.int (nI (p_sk (T 0) len a)), .int 2, .ref 0]) (w' := (W_R0 (rv len i (p_sk (T 0) len a) wt q) T q0)) rfl ?_
              refine rr_callV hC (by decide +kernel) kl_5_56 fX5_fail (c5_fail len i (p_sk (T 0) len a) wt q T (q0 + 2) 2 (nI (p_sk (T 0) len a))) rfl rfl [0, 1] rfl rfl (Eq.refl 2) rfl rfl rfl (rest := []) rfl rfl ⟨Nat.zero_le _, Nat.zero_le _⟩ (w2 := (W_R0 (rv len i (p_sk (T 0) len a) wt (p_fl 2 (nI (p_sk (T 0) len a)) q)) T q0)) rfl ?_
              show rr_J Z 4 0 0 _ 133 [(0, .ref 0), (1, .int lo), (2, .int hi), (3, .int (p_val (T 0) (p_sk (T 0) len a) (i - (p_sk (T 0) len a))))] [] (W_R0 (rv len i (p_sk (T 0) len a) wt (p_fl 2 (nI (p_sk (T 0) len a)) q)) T q0)
              refine rr_go hC bk_X5_readNumber_133_134 (l' := [(0, .ref 0), (1, .int lo), (2, .int hi), (3, .int (p_val (T 0) (p_sk (T 0) len a) (i - (p_sk (T 0) len a))))]) (st' := [.int lo]) (w' := (W_R0 (rv len i (p_sk (T 0) len a) wt (p_fl 2 (nI (p_sk (T 0) len a)) q)) T q0)) rfl ?_
              have hbad : p_bad (T 0) len a lo hi = 2 := (if_pos hfg).trans (if_pos (by rw [hi2, hnv]; first | exact Or.inl h111 | exact Or.inr (Or.inl h116) | exact Or.inr (Or.inr (Int32.not_le.mp h121))))
              exact rr_reti hC (by decide +kernel) (by unfold p_rv; rw [if_neg (by rw [hbad]; decide)]) (by unfold p_rat p_rna p_rq; rw [if_pos hfg, if_pos hfg, if_neg (by rw [hbad]; decide), hbad, hi2]) ⟨Nat.zero_le _, Nat.zero_le _⟩
            · refine rr_go hC bk_X5_readNumber_119_121 (l' := [(0, .ref 0), (1, .int lo), (2, .int hi), (3, .int (p_val (T 0) (p_sk (T 0) len a) (i - (p_sk (T 0) len a))))]) (st' := [.int hi, .int (p_val (T 0) (p_sk (T 0) len a) (i - (p_sk (T 0) len a)))]) (w' := (W_R0 (rv len i (p_sk (T 0) len a) wt q) T q0)) rfl ?_
              refine rr_icmp_le hC (off := 14) (tgt := 135) (by decide +kernel) (fun h121 => ?_) (fun h121 => ?_)
              · refine rr_go hC bk_X5_readNumber_135_136 (l' := [(0, .ref 0), (1, .int lo), (2, .int hi), (3, .int (p_val (T 0) (p_sk (T 0) len a) (i - (p_sk (T 0) len a))))]) (st' := [.int (p_val (T 0) (p_sk (T 0) len a) (i - (p_sk (T 0) len a)))]) (w' := (W_R0 (rv len i (p_sk (T 0) len a) wt q) T q0)) rfl ?_
                have hbad : p_bad (T 0) len a lo hi = 0 := (if_pos hfg).trans (if_neg (by rw [hi2, hnv]; rintro (z | z | z); exact h111 z; exact h116 z; exact absurd h121 (Int32.not_le.mpr z)))
                exact rr_reti hC (by decide +kernel) (by unfold p_rv; rw [if_pos hbad, hnv]) (by unfold p_rat p_rna p_rq; rw [if_pos hfg, if_pos hfg, if_pos hbad, hi2]) ⟨Nat.zero_le _, Nat.zero_le _⟩
              · refine rr_go hC bk_X5_readNumber_124_130 (l' := [(0, .ref 0), (1, .int lo), (2, .int hi), (3, .int (p_val (T 0) (p_sk (T 0) len a) (i - (p_sk (T 0) len a))))]) (st' := [.int (nI (p_sk (T 0) len a)), .int 2, .ref 0]) (w' := (W_R0 (rv len i (p_sk (T 0) len a) wt q) T q0)) rfl ?_
                refine rr_callV hC (by decide +kernel) kl_5_56 fX5_fail (c5_fail len i (p_sk (T 0) len a) wt q T (q0 + 2) 2 (nI (p_sk (T 0) len a))) rfl rfl [0, 1] rfl rfl (Eq.refl 2) rfl rfl rfl (rest := []) rfl rfl ⟨Nat.zero_le _, Nat.zero_le _⟩ (w2 := (W_R0 (rv len i (p_sk (T 0) len a) wt (p_fl 2 (nI (p_sk (T 0) len a)) q)) T q0)) rfl ?_
                show rr_J Z 4 0 0 _ 133 [(0, .ref 0), (1, .int lo), (2, .int hi), (3, .int (p_val (T 0) (p_sk (T 0) len a) (i - (p_sk (T 0) len a))))] [] (W_R0 (rv len i (p_sk (T 0) len a) wt (p_fl 2 (nI (p_sk (T 0) len a)) q)) T q0)
                refine rr_go hC bk_X5_readNumber_133_134 (l' := [(0, .ref 0), (1, .int lo), (2, .int hi), (3, .int (p_val (T 0) (p_sk (T 0) len a) (i - (p_sk (T 0) len a))))]) (st' := [.int lo]) (w' := (W_R0 (rv len i (p_sk (T 0) len a) wt (p_fl 2 (nI (p_sk (T 0) len a)) q)) T q0)) rfl ?_
                have hbad : p_bad (T 0) len a lo hi = 2 := (if_pos hfg).trans (if_pos (by rw [hi2, hnv]; first | exact Or.inl h111 | exact Or.inr (Or.inl h116) | exact Or.inr (Or.inr (Int32.not_le.mp h121))))
                exact rr_reti hC (by decide +kernel) (by unfold p_rv; rw [if_neg (by rw [hbad]; decide)]) (by unfold p_rat p_rna p_rq; rw [if_pos hfg, if_pos hfg, if_neg (by rw [hbad]; decide), hbad, hi2]) ⟨Nat.zero_le _, Nat.zero_le _⟩
        · refine rr_go hC bk_X5_readNumber_57_67 (l' := [(0, .ref 0), (1, .int lo), (2, .int hi), (3, .int (p_val (T 0) (p_sk (T 0) len a) (i - (p_sk (T 0) len a))))]) (st' := [.int 3, .int ((nI i) - (nI (p_sk (T 0) len a)))]) (w' := (W_R0 (rv len i (p_sk (T 0) len a) wt q) T q0)) rfl ?_
          rw [show ((nI i) - (nI (p_sk (T 0) len a)) : Int32) = nI (i - (p_sk (T 0) len a)) from pk_sub (a := i) (b := p_sk (T 0) len a) (by omega)]
          refine rr_icmp_ge hC (off := 21) (tgt := 88) (by decide +kernel) (fun h67 => ?_) (fun h67 => ?_)
          · rw [rr_ln_le (a := 3) (by omega) (by omega)] at h67
            refine rr_go hC bk_X5_readNumber_88_31 (l' := [(0, .ref 0), (1, .int lo), (2, .int hi), (3, .int (p_val (T 0) (p_sk (T 0) len a) (i - (p_sk (T 0) len a))))]) (st' := []) (w' := (W_R0 (upd (rv len i (p_sk (T 0) len a) wt q) 1 ((nI i) + 1)) T q0)) rfl ?_
            rw [show ((nI i) + 1 : Int32) = nI (i + 1) from nI_add i 1]
            exact rr_cast (l' := [(0, .ref 0), (1, .int lo), (2, .int hi), (3, .int (p_val (T 0) (p_sk (T 0) len a) ((i + 1) - (p_sk (T 0) len a))))]) (by rw [show i + 1 - (p_sk (T 0) len a) = (i - (p_sk (T 0) len a)) + 1 by omega]; simp only [p_val]; first | (rw [if_pos (by omega), show (p_sk (T 0) len a) + (i - (p_sk (T 0) len a)) = i by omega]; done) | (rw [if_neg (by omega)]; done)) rfl (w' := (W_R0 (rv len (i + 1) (p_sk (T 0) len a) wt q) T q0)) (by rfl) (ih (i + 1) (by omega) (by omega) (hq.trans (p_fe_go (by omega) h54)))
          · rw [rr_ln_le (a := 3) (by omega) (by omega)] at h67
            refine rr_go hC bk_X5_readNumber_70_82 (l' := [(0, .ref 0), (1, .int lo), (2, .int hi), (3, .int (p_val (T 0) (p_sk (T 0) len a) (i - (p_sk (T 0) len a))))]) (st' := [.int (nI i), .ref 1, .int ((p_val (T 0) (p_sk (T 0) len a) (i - (p_sk (T 0) len a))) * 10)]) (w' := (W_R0 (rv len i (p_sk (T 0) len a) wt q) T q0)) rfl ?_
            refine rr_iald hC i (by decide +kernel) rfl rfl (by omega) rfl ?_
            show rr_J Z 4 0 0 _ 83 [(0, .ref 0), (1, .int lo), (2, .int hi), (3, .int (p_val (T 0) (p_sk (T 0) len a) (i - (p_sk (T 0) len a))))] [.int (T 0 i), .int ((p_val (T 0) (p_sk (T 0) len a) (i - (p_sk (T 0) len a))) * 10)] (W_R0 (rv len i (p_sk (T 0) len a) wt q) T q0)
            refine rr_go hC bk_X5_readNumber_83_31 (l' := [(0, .ref 0), (1, .int lo), (2, .int hi), (3, .int ((((p_val (T 0) (p_sk (T 0) len a) (i - (p_sk (T 0) len a))) * 10) + (T 0 i)) - 48))]) (st' := []) (w' := (W_R0 (upd (rv len i (p_sk (T 0) len a) wt q) 1 ((nI i) + 1)) T q0)) rfl ?_
            rw [show ((nI i) + 1 : Int32) = nI (i + 1) from nI_add i 1]
            exact rr_cast (l' := [(0, .ref 0), (1, .int lo), (2, .int hi), (3, .int (p_val (T 0) (p_sk (T 0) len a) ((i + 1) - (p_sk (T 0) len a))))]) (by rw [show i + 1 - (p_sk (T 0) len a) = (i - (p_sk (T 0) len a)) + 1 by omega]; simp only [p_val]; first | (rw [if_pos (by omega), show (p_sk (T 0) len a) + (i - (p_sk (T 0) len a)) = i by omega]; done) | (rw [if_neg (by omega)]; done)) rfl (w' := (W_R0 (rv len (i + 1) (p_sk (T 0) len a) wt q) T q0)) (by rfl) (ih (i + 1) (by omega) (by omega) (hq.trans (p_fe_go (by omega) h54)))
    exact rr_cast (l' := [(0, .ref 0), (1, .int lo), (2, .int hi), (3, .int (p_val (T 0) (p_sk (T 0) len a) ((p_sk (T 0) len a) - (p_sk (T 0) len a))))]) (by first | rfl | (rw [Nat.sub_self]; rfl)) rfl (w' := (W_R0 (rv len (p_sk (T 0) len a) (p_sk (T 0) len a) wt q) T q0)) (by rfl) (lp31 (len - (p_sk (T 0) len a)) (p_sk (T 0) len a) (by omega) (Nat.le_refl _) rfl)
  · refine rr_go hC bk_X5_readNumber_10_16 (l' := [(0, .ref 0), (1, .int lo), (2, .int hi)]) (st' := [.int (nI (p_sk (T 0) len a)), .int 1, .ref 0]) (w' := (W_R0 (rv len (p_sk (T 0) len a) na wt q) T q0)) rfl ?_
    refine rr_callV hC (by decide +kernel) kl_5_56 fX5_fail (c5_fail len (p_sk (T 0) len a) na wt q T (q0 + 2) 1 (nI (p_sk (T 0) len a))) rfl rfl [0, 1] rfl rfl (Eq.refl 2) rfl rfl rfl (rest := []) rfl rfl ⟨Nat.zero_le _, Nat.zero_le _⟩ (w2 := (W_R0 (rv len (p_sk (T 0) len a) na wt (p_fl 1 (nI (p_sk (T 0) len a)) q)) T q0)) rfl ?_
    show rr_J Z 4 0 0 _ 19 [(0, .ref 0), (1, .int lo), (2, .int hi)] [] (W_R0 (rv len (p_sk (T 0) len a) na wt (p_fl 1 (nI (p_sk (T 0) len a)) q)) T q0)
    refine rr_go hC bk_X5_readNumber_19_20 (l' := [(0, .ref 0), (1, .int lo), (2, .int hi)]) (st' := [.int lo]) (w' := (W_R0 (rv len (p_sk (T 0) len a) na wt (p_fl 1 (nI (p_sk (T 0) len a)) q)) T q0)) rfl ?_
    have hbad : p_bad (T 0) len a lo hi = 1 := if_neg (by rw [h7]; decide)
    exact rr_reti hC (by decide +kernel) (by unfold p_rv; rw [if_neg (by rw [hbad]; decide)]) (by unfold p_rat p_rna p_rq; rw [if_neg (by rw [h7]; decide), if_neg (by rw [h7]; decide), if_neg (by rw [hbad]; decide), hbad]) ⟨Nat.zero_le _, Nat.zero_le _⟩
theorem bk_X5_readEnd_0_1 : rr_chk mX5_readEnd [(.aload_n 0, 0, 0, 0)] 0 1 = true := by decide +kernel
theorem bk_X5_readEnd_4_6 : rr_chk mX5_readEnd [(.bipush 59, 59, 0, 0)] 4 6 = true := by decide +kernel
theorem bk_X5_readEnd_18_28 : rr_chk mX5_readEnd [(.aload_n 0, 0, 0, 0), (.dup, 0, 0, 0), (.getfield 29, 0, 5, 3), (.iconst 1, 1, 0, 0), (.iadd, 0, 0, 0), (.putfield 29, 0, 5, 3)] 18 28 = true := by decide +kernel
theorem bk_X5_readEnd_9_15 : rr_chk mX5_readEnd [(.aload_n 0, 0, 0, 0), (.iconst 1, 1, 0, 0), (.aload_n 0, 0, 0, 0), (.getfield 29, 0, 5, 3)] 9 15 = true := by decide +kernel
set_option maxRecDepth 100000 in
set_option maxHeartbeats 4000000 in
theorem c5_readEnd (len a na : Nat) (wt : Bool) (q : Int32 × Int32) (T : Nat → Nat → Int32) (q0 : Nat) (hlen : len ≤ 240) (ha : a ≤ 10000) : rr_C mX5_readEnd 1 [.ref 0] (W_R0 (rv len a na wt q) T q0) 0 0 none (W_R0 (rv len (p_sk (T 0) len a + 1) na wt (p_eq' (T 0) len a q)) T q0) := by
  refine rr_C.of (n := 0) fX5_readEnd.1 rfl rfl (fun Z hC => ?_)
  show rr_J Z 1 0 0 (rr_MQ Z 0 0 none (W_R0 (rv len (p_sk (T 0) len a + 1) na wt (p_eq' (T 0) len a q)) T q0)) 0 [(0, .ref 0)] [] (W_R0 (rv len a na wt q) T q0)
  refine rr_go hC bk_X5_readEnd_0_1 (l' := [(0, .ref 0)]) (st' := [.ref 0]) (w' := (W_R0 (rv len a na wt q) T q0)) rfl ?_
  refine rr_callV hC (by decide +kernel) kl_5_42 fX5_nextLetter (c5_nextLetter len a na wt q T (q0 + 2) (by omega) (by omega)) rfl rfl [0, 1] rfl rfl (Eq.refl 2) rfl rfl rfl (rest := []) rfl rfl ⟨Nat.zero_le _, Nat.zero_le _⟩ (w2 := (W_R0 (rv len (p_sk (T 0) len a) na wt q) T q0)) rfl ?_
  show rr_J Z 1 0 0 _ 4 [(0, .ref 0)] [.int (p_nl (T 0) len a)] (W_R0 (rv len (p_sk (T 0) len a) na wt q) T q0)
  have hsk2 := p_sk_le (T 0) len a
  refine rr_go hC bk_X5_readEnd_4_6 (l' := [(0, .ref 0)]) (st' := [.int 59, .int (p_nl (T 0) len a)]) (w' := (W_R0 (rv len (p_sk (T 0) len a) na wt q) T q0)) rfl ?_
  refine rr_icmp_eq hC (off := 12) (tgt := 18) (by decide +kernel) (fun h6 => ?_) (fun h6 => ?_)
  · refine rr_go hC bk_X5_readEnd_18_28 (l' := [(0, .ref 0)]) (st' := []) (w' := (W_R0 (upd (rv len (p_sk (T 0) len a) na wt q) 1 ((nI (p_sk (T 0) len a)) + 1)) T q0)) rfl ?_
    rw [show ((nI (p_sk (T 0) len a)) + 1 : Int32) = nI ((p_sk (T 0) len a) + 1) from nI_add (p_sk (T 0) len a) 1]
    exact rr_retv hC (by decide +kernel) (by first | (rw [show p_eq' (T 0) len a q = q from if_pos h6]; rfl) | (rw [show p_eq' (T 0) len a q = p_fl 1 (nI (p_sk (T 0) len a)) q from if_neg h6]; rfl)) ⟨Nat.zero_le _, Nat.zero_le _⟩
  · refine rr_go hC bk_X5_readEnd_9_15 (l' := [(0, .ref 0)]) (st' := [.int (nI (p_sk (T 0) len a)), .int 1, .ref 0]) (w' := (W_R0 (rv len (p_sk (T 0) len a) na wt q) T q0)) rfl ?_
    refine rr_callV hC (by decide +kernel) kl_5_56 fX5_fail (c5_fail len (p_sk (T 0) len a) na wt q T (q0 + 2) 1 (nI (p_sk (T 0) len a))) rfl rfl [0, 1] rfl rfl (Eq.refl 2) rfl rfl rfl (rest := []) rfl rfl ⟨Nat.zero_le _, Nat.zero_le _⟩ (w2 := (W_R0 (rv len (p_sk (T 0) len a) na wt (p_fl 1 (nI (p_sk (T 0) len a)) q)) T q0)) rfl ?_
    show rr_J Z 1 0 0 _ 18 [(0, .ref 0)] [] (W_R0 (rv len (p_sk (T 0) len a) na wt (p_fl 1 (nI (p_sk (T 0) len a)) q)) T q0)
    refine rr_go hC bk_X5_readEnd_18_28 (l' := [(0, .ref 0)]) (st' := []) (w' := (W_R0 (upd (rv len (p_sk (T 0) len a) na wt (p_fl 1 (nI (p_sk (T 0) len a)) q)) 1 ((nI (p_sk (T 0) len a)) + 1)) T q0)) rfl ?_
    rw [show ((nI (p_sk (T 0) len a)) + 1 : Int32) = nI ((p_sk (T 0) len a) + 1) from nI_add (p_sk (T 0) len a) 1]
    exact rr_retv hC (by decide +kernel) (by first | (rw [show p_eq' (T 0) len a q = q from if_pos h6]; rfl) | (rw [show p_eq' (T 0) len a q = p_fl 1 (nI (p_sk (T 0) len a)) q from if_neg h6]; rfl)) ⟨Nat.zero_le _, Nat.zero_le _⟩
abbrev p_RS : Type := Nat × Nat × Bool × (Int32 × Int32) × Nat × Nat × Nat × Nat × (Nat → Nat → Int32)
def p_pf (k : Int32) (s : p_RS) : p_RS := (s.1, s.2.1, s.2.2.1, p_fl k (nI s.1) s.2.2.2.1, s.2.2.2.2)
def p_skS (f : Nat → Int32) (len : Nat) (s : p_RS) : p_RS := (p_sk f len s.1, s.2)
abbrev p_TS : Type := Nat × Nat × (Int32 × Int32) × (Nat → Int32)
def p_tn (f : Nat → Int32) (len n : Nat) (s : p_TS) (a1 : Nat) : p_TS := (p_rat f len a1, p_rna f len a1 s.2.1, p_rq f len a1 0 19 s.2.2.1, upd s.2.2.2 n (p_rv f len a1 0 19))
def p_tl (f : Nat → Int32) (len : Nat) : Nat → Nat → p_TS → Nat × p_TS
  | 0, n, s => (n, s)
  | j + 1, n, s => if p_nl f len s.1 = 44 then p_tl f len j (n + 1) (p_tn f len n s (p_sk f len s.1 + 1)) else (n, (p_sk f len s.1, s.2))
def p_tX (f : Nat → Int32) (len : Nat) (s : p_RS) : Nat × p_TS := p_tl f len 11 1 (p_tn f len 0 (s.1, s.2.1, s.2.2.2.1, s.2.2.2.2.2.2.2.2 0) (p_sk f len s.1 + 1))
def p_pt (f : Nat → Int32) (len : Nat) (s : p_RS) : p_RS := if p_nl f len s.1 = 116 then (p_sk f len (p_tX f len s).2.1 + 1, (p_tX f len s).2.2.1, s.2.2.1, p_eq' f len (p_tX f len s).2.1 (p_tX f len s).2.2.2.1, (p_tX f len s).1, 30, s.2.2.2.2.2.2.1, s.2.2.2.2.2.2.2.1, va_up s.2.2.2.2.2.2.2.2 0 (p_tX f len s).2.2.2.2) else p_pf 1 (p_skS f len s)
def p_lr (f : Nat → Int32) (len a : Nat) : Int32 := if p_rv f len a 0 9 = 9 then -1 else p_rv f len a 0 9
def p_lq (f : Nat → Int32) (len a na kc : Nat) (q : Int32 × Int32) : Int32 × Int32 := if p_rv f len a 0 9 = 9 then p_rq f len a 0 9 q else if p_in (p_rv f len a 0 9) (nI kc) = true then p_rq f len a 0 9 q else p_fl 2 (nI (p_rna f len a na)) (p_rq f len a 0 9 q)
def p_pw (f : Nat → Int32) (len : Nat) (s : p_RS) : p_RS := if s.2.2.1 = true then p_pf 3 s else (p_sk f len (p_rat f len (s.1 + 1)) + 1, p_rna f len (s.1 + 1) s.2.1, true, p_eq' f len (p_rat f len (s.1 + 1)) (p_rq f len (s.1 + 1) 1 30 s.2.2.2.1), s.2.2.2.2.1, (p_rv f len (s.1 + 1) 1 30).toNatClampNeg, s.2.2.2.2.2.2)
def p_pc (f : Nat → Int32) (len : Nat) (s : p_RS) : p_RS := if s.2.2.2.2.2.2.1 < 9 then (p_sk f len (p_rat f len (s.1 + 1)) + 1, p_rna f len (s.1 + 1) s.2.1, s.2.2.1, p_eq' f len (p_rat f len (s.1 + 1)) (p_rq f len (s.1 + 1) 0 19 s.2.2.2.1), s.2.2.2.2.1, s.2.2.2.2.2.1, s.2.2.2.2.2.2.1 + 1, s.2.2.2.2.2.2.2.1, va_up s.2.2.2.2.2.2.2.2 1 (upd (s.2.2.2.2.2.2.2.2 1) s.2.2.2.2.2.2.1 (p_rv f len (s.1 + 1) 0 19))) else p_pf 3 s
def p_k2 (f : Nat → Int32) (len : Nat) (s : p_RS) : Nat := p_rat f len (s.1 + 1)
def p_k3 (f : Nat → Int32) (len : Nat) (s : p_RS) : Nat := p_rat f len (p_k2 f len s)
def p_k4 (f : Nat → Int32) (len : Nat) (s : p_RS) : Nat := p_rat f len (p_k3 f len s)
def p_k5 (f : Nat → Int32) (len : Nat) (s : p_RS) : Nat := p_rat f len (p_k4 f len s)
def p_kH (f : Nat → Int32) (len : Nat) (s : p_RS) : Nat → Nat → Int32 := va_up (va_up (va_up (va_up s.2.2.2.2.2.2.2.2 2 (upd (s.2.2.2.2.2.2.2.2 2) s.2.2.2.2.2.2.2.1 (p_rv f len (s.1 + 1) 1 6))) 3 (upd (s.2.2.2.2.2.2.2.2 3) s.2.2.2.2.2.2.2.1 (p_lr f len (p_k2 f len s)))) 4 (upd (s.2.2.2.2.2.2.2.2 4) s.2.2.2.2.2.2.2.1 (p_rv f len (p_k3 f len s) 0 20 - 10))) 5 (upd (s.2.2.2.2.2.2.2.2 5) s.2.2.2.2.2.2.2.1 (p_rv f len (p_k4 f len s) 0 20 - 10))
def p_n2 (f : Nat → Int32) (len : Nat) (s : p_RS) : Nat := p_rna f len (s.1 + 1) s.2.1
def p_n3 (f : Nat → Int32) (len : Nat) (s : p_RS) : Nat := p_rna f len (p_k2 f len s) (p_n2 f len s)
def p_n4 (f : Nat → Int32) (len : Nat) (s : p_RS) : Nat := p_rna f len (p_k3 f len s) (p_n3 f len s)
def p_kn (f : Nat → Int32) (len : Nat) (s : p_RS) : Nat := p_rna f len (p_k4 f len s) (p_n4 f len s)
def p_q2 (f : Nat → Int32) (len : Nat) (s : p_RS) : Int32 × Int32 := p_rq f len (s.1 + 1) 1 6 s.2.2.2.1
def p_q3 (f : Nat → Int32) (len : Nat) (s : p_RS) : Int32 × Int32 := p_lq f len (p_k2 f len s) (p_n2 f len s) s.2.2.2.2.2.2.2.1 (p_q2 f len s)
def p_q4 (f : Nat → Int32) (len : Nat) (s : p_RS) : Int32 × Int32 := p_rq f len (p_k3 f len s) 0 20 (p_q3 f len s)
def p_q5 (f : Nat → Int32) (len : Nat) (s : p_RS) : Int32 × Int32 := p_rq f len (p_k4 f len s) 0 20 (p_q4 f len s)
def p_kq (f : Nat → Int32) (len : Nat) (s : p_RS) : Int32 × Int32 := p_eq' f len (p_k5 f len s) (p_q5 f len s)
def p_pk (f : Nat → Int32) (len : Nat) (s : p_RS) : p_RS := if s.2.2.2.2.2.2.2.1 < 6 then (p_sk f len (p_k5 f len s) + 1, p_kn f len s, s.2.2.1, p_kq f len s, s.2.2.2.2.1, s.2.2.2.2.2.1, s.2.2.2.2.2.2.1, s.2.2.2.2.2.2.2.1 + 1, p_kH f len s) else p_pf 3 s
def p_part (f : Nat → Int32) (len : Nat) (s : p_RS) : p_RS := if p_nl f len s.1 = 119 then p_pw f len (p_skS f len s) else if p_nl f len s.1 = 99 then p_pc f len (p_skS f len s) else if p_nl f len s.1 = 107 then p_pk f len (p_skS f len s) else if p_nl f len s.1 = 116 then p_pf 3 (p_skS f len s) else p_pf 1 (p_skS f len s)
def p_rl (f : Nat → Int32) (len : Nat) : Nat → p_RS → p_RS
  | 0, s => s
  | j + 1, s => if s.2.2.2.1.1 = 0 then (if p_nl f len s.1 = -1 then p_skS f len s else p_rl f len j (p_part f len (p_skS f len s))) else s
def p_s0 (na : Nat) (H : Nat → Nat → Int32) : p_RS := (0, na, false, (0, -1), 0, 0, 0, 0, H)
def p_read (f : Nat → Int32) (len na : Nat) (H : Nat → Nat → Int32) : p_RS := if p_nl f len 0 = -1 then p_skS f len (p_s0 na H) else p_rl f len 240 (p_pt f len (p_skS f len (p_s0 na H)))
theorem bk_X5_readLean_0_4 : rr_chk mX5_readLean [(.aload_n 0, 0, 0, 0), (.iconst 0, 0, 0, 0), (.bipush 9, 9, 0, 0)] 0 4 = true := by decide +kernel
theorem bk_X5_readLean_7_11 : rr_chk mX5_readLean [(.istore_n 1, 0, 1, 0), (.iload_n 1, 0, 1, 0), (.bipush 9, 9, 0, 0)] 7 11 = true := by decide +kernel
theorem bk_X5_readLean_16_21 : rr_chk mX5_readLean [(.aload_n 0, 0, 0, 0), (.getfield 18, 0, 5, 1), (.iload_n 1, 0, 1, 0)] 16 21 = true := by decide +kernel
theorem bk_X5_readLean_36_37 : rr_chk mX5_readLean [(.iload_n 1, 0, 1, 0)] 36 37 = true := by decide +kernel
theorem bk_X5_readLean_27_33 : rr_chk mX5_readLean [(.aload_n 0, 0, 0, 0), (.iconst 2, 2, 0, 0), (.aload_n 0, 0, 0, 0), (.getfield 60, 0, 5, 4)] 27 33 = true := by decide +kernel
theorem bk_X5_readLean_14_15 : rr_chk mX5_readLean [(.iconst (-1), (-1), 0, 0)] 14 15 = true := by decide +kernel
set_option maxRecDepth 100000 in
set_option maxHeartbeats 4000000 in
theorem c5_readLean (len a na : Nat) (wt : Bool) (q : Int32 × Int32) (T : Nat → Nat → Int32) (tc wd cc kc : Nat) (H : Nat → Nat → Int32) (hlen : len ≤ 240) (ha : a ≤ 10000) : rr_C mX5_readLean 2 [.ref 0] (W_R (rv len a na wt q) T (gv tc wd cc kc) H) 0 0 (some (p_lr (T 0) len a)) (W_R (rv len (p_rat (T 0) len a) (p_rna (T 0) len a na) wt (p_lq (T 0) len a na kc q)) T (gv tc wd cc kc) H) := by
  refine rr_C.of (n := 0) fX5_readLean.1 rfl rfl (fun Z hC => ?_)
  show rr_J Z 2 0 0 (rr_MQ Z 0 0 (some (p_lr (T 0) len a)) (W_R (rv len (p_rat (T 0) len a) (p_rna (T 0) len a na) wt (p_lq (T 0) len a na kc q)) T (gv tc wd cc kc) H)) 0 [(0, .ref 0)] [] (W_R (rv len a na wt q) T (gv tc wd cc kc) H)
  refine rr_go hC bk_X5_readLean_0_4 (l' := [(0, .ref 0)]) (st' := [.int 9, .int 0, .ref 0]) (w' := (W_R (rv len a na wt q) T (gv tc wd cc kc) H)) rfl ?_
  refine rr_callV hC (by decide +kernel) kl_5_66 fX5_readNumber (c5_readNumber len a na wt q T 4 0 9 (by omega) (by omega)) rfl rfl [0, 1] rfl rfl (Eq.refl 2) rfl rfl rfl (rest := []) rfl rfl ⟨Nat.zero_le _, Nat.zero_le _⟩ (w2 := (W_R (rv len (p_rat (T 0) len a) (p_rna (T 0) len a na) wt (p_rq (T 0) len a 0 9 q)) T (gv tc wd cc kc) H)) rfl ?_
  show rr_J Z 2 0 0 _ 7 [(0, .ref 0)] [.int (p_rv (T 0) len a 0 9)] (W_R (rv len (p_rat (T 0) len a) (p_rna (T 0) len a na) wt (p_rq (T 0) len a 0 9 q)) T (gv tc wd cc kc) H)
  have hrn3 := p_rat_le (T 0) len a
  refine rr_go hC bk_X5_readLean_7_11 (l' := [(0, .ref 0), (1, .int (p_rv (T 0) len a 0 9))]) (st' := [.int 9, .int (p_rv (T 0) len a 0 9)]) (w' := (W_R (rv len (p_rat (T 0) len a) (p_rna (T 0) len a na) wt (p_rq (T 0) len a 0 9 q)) T (gv tc wd cc kc) H)) rfl ?_
  refine rr_icmp_ne hC (off := 5) (tgt := 16) (by decide +kernel) (fun h11 => ?_) (fun h11 => ?_)
  · refine rr_go hC bk_X5_readLean_16_21 (l' := [(0, .ref 0), (1, .int (p_rv (T 0) len a 0 9))]) (st' := [.int (p_rv (T 0) len a 0 9), .ref 2]) (w' := (W_R (rv len (p_rat (T 0) len a) (p_rna (T 0) len a na) wt (p_rq (T 0) len a 0 9 q)) T (gv tc wd cc kc) H)) rfl ?_
    refine rr_callV hC (by decide +kernel) kl_5_102 fX8_hasClause (c8_hasClause tc wd cc kc H (p_rv (T 0) len a 0 9)) rfl rfl [2, 3, 4, 5, 6, 7, 8] rfl rfl (Eq.refl 7) rfl rfl rfl (rest := []) rfl rfl ⟨Nat.zero_le _, Nat.zero_le _⟩ (w2 := (W_R (rv len (p_rat (T 0) len a) (p_rna (T 0) len a na) wt (p_rq (T 0) len a 0 9 q)) T (gv tc wd cc kc) H)) rfl ?_
    show rr_J Z 2 0 0 _ 24 [(0, .ref 0), (1, .int (p_rv (T 0) len a 0 9))] [.int (rr_b (p_in (p_rv (T 0) len a 0 9) (nI kc)))] (W_R (rv len (p_rat (T 0) len a) (p_rna (T 0) len a na) wt (p_rq (T 0) len a 0 9 q)) T (gv tc wd cc kc) H)
    refine rr_neb hC (off := 12) (tgt := 36) (by decide +kernel) (fun h24 => ?_) (fun h24 => ?_)
    · refine rr_go hC bk_X5_readLean_36_37 (l' := [(0, .ref 0), (1, .int (p_rv (T 0) len a 0 9))]) (st' := [.int (p_rv (T 0) len a 0 9)]) (w' := (W_R (rv len (p_rat (T 0) len a) (p_rna (T 0) len a na) wt (p_rq (T 0) len a 0 9 q)) T (gv tc wd cc kc) H)) rfl ?_
      exact rr_reti hC (by decide +kernel) (by unfold p_lr; first | rw [if_pos h11] | rw [if_neg h11]) (by unfold p_lq; first | (rw [if_pos h11]; done) | (rw [if_neg h11, if_pos h24]; done) | (rw [if_neg h11, if_neg (by rw [h24]; decide)]; done)) ⟨Nat.zero_le _, Nat.zero_le _⟩
    · refine rr_go hC bk_X5_readLean_27_33 (l' := [(0, .ref 0), (1, .int (p_rv (T 0) len a 0 9))]) (st' := [.int (nI (p_rna (T 0) len a na)), .int 2, .ref 0]) (w' := (W_R (rv len (p_rat (T 0) len a) (p_rna (T 0) len a na) wt (p_rq (T 0) len a 0 9 q)) T (gv tc wd cc kc) H)) rfl ?_
      refine rr_callV hC (by decide +kernel) kl_5_56 fX5_fail (c5_fail len (p_rat (T 0) len a) (p_rna (T 0) len a na) wt (p_rq (T 0) len a 0 9 q) T 4 2 (nI (p_rna (T 0) len a na))) rfl rfl [0, 1] rfl rfl (Eq.refl 2) rfl rfl rfl (rest := []) rfl rfl ⟨Nat.zero_le _, Nat.zero_le _⟩ (w2 := (W_R (rv len (p_rat (T 0) len a) (p_rna (T 0) len a na) wt (p_fl 2 (nI (p_rna (T 0) len a na)) (p_rq (T 0) len a 0 9 q))) T (gv tc wd cc kc) H)) rfl ?_
      show rr_J Z 2 0 0 _ 36 [(0, .ref 0), (1, .int (p_rv (T 0) len a 0 9))] [] (W_R (rv len (p_rat (T 0) len a) (p_rna (T 0) len a na) wt (p_fl 2 (nI (p_rna (T 0) len a na)) (p_rq (T 0) len a 0 9 q))) T (gv tc wd cc kc) H)
      refine rr_go hC bk_X5_readLean_36_37 (l' := [(0, .ref 0), (1, .int (p_rv (T 0) len a 0 9))]) (st' := [.int (p_rv (T 0) len a 0 9)]) (w' := (W_R (rv len (p_rat (T 0) len a) (p_rna (T 0) len a na) wt (p_fl 2 (nI (p_rna (T 0) len a na)) (p_rq (T 0) len a 0 9 q))) T (gv tc wd cc kc) H)) rfl ?_
      exact rr_reti hC (by decide +kernel) (by unfold p_lr; first | rw [if_pos h11] | rw [if_neg h11]) (by unfold p_lq; first | (rw [if_pos h11]; done) | (rw [if_neg h11, if_pos h24]; done) | (rw [if_neg h11, if_neg (by rw [h24]; decide)]; done)) ⟨Nat.zero_le _, Nat.zero_le _⟩
  · refine rr_go hC bk_X5_readLean_14_15 (l' := [(0, .ref 0), (1, .int (p_rv (T 0) len a 0 9))]) (st' := [.int (-1)]) (w' := (W_R (rv len (p_rat (T 0) len a) (p_rna (T 0) len a na) wt (p_rq (T 0) len a 0 9 q)) T (gv tc wd cc kc) H)) rfl ?_
    exact rr_reti hC (by decide +kernel) (by unfold p_lr; first | rw [if_pos h11] | rw [if_neg h11]) (by unfold p_lq; first | (rw [if_pos h11]; done) | (rw [if_neg h11, if_pos h24]; done) | (rw [if_neg h11, if_neg (by rw [h24]; decide)]; done)) ⟨Nat.zero_le _, Nat.zero_le _⟩
theorem bk_X5_readWind_0_4 : rr_chk mX5_readWind [(.aload_n 0, 0, 0, 0), (.getfield 32, 0, 5, 5)] 0 4 = true := by decide +kernel
theorem bk_X5_readWind_17_40 : rr_chk mX5_readWind [(.aload_n 0, 0, 0, 0), (.dup, 0, 0, 0), (.getfield 29, 0, 5, 3), (.iconst 1, 1, 0, 0), (.iadd, 0, 0, 0), (.putfield 29, 0, 5, 3), (.aload_n 0, 0, 0, 0), (.iconst 1, 1, 0, 0), (.putfield 32, 1, 5, 5), (.aload_n 0, 0, 0, 0), (.getfield 18, 0, 5, 1), (.aload_n 0, 0, 0, 0), (.iconst 1, 1, 0, 0), (.bipush 30, 30, 0, 0)] 17 40 = true := by decide +kernel
theorem bk_X5_readWind_43_47 : rr_chk mX5_readWind [(.putfield 63, 0, 8, 7), (.aload_n 0, 0, 0, 0)] 43 47 = true := by decide +kernel
theorem bk_X5_readWind_7_13 : rr_chk mX5_readWind [(.aload_n 0, 0, 0, 0), (.iconst 3, 3, 0, 0), (.aload_n 0, 0, 0, 0), (.getfield 29, 0, 5, 3)] 7 13 = true := by decide +kernel
set_option maxRecDepth 100000 in
set_option maxHeartbeats 4000000 in
theorem c5_readWind (len : Nat) (T : Nat → Nat → Int32) (s : p_RS) (hlen : len ≤ 240) (hs : s.1 ≤ 9000) : rr_C mX5_readWind 2 [.ref 0] (W_R (rv len s.1 s.2.1 s.2.2.1 s.2.2.2.1) T (gv s.2.2.2.2.1 s.2.2.2.2.2.1 s.2.2.2.2.2.2.1 s.2.2.2.2.2.2.2.1) s.2.2.2.2.2.2.2.2) 0 0 none (W_R (rv len ((p_pw (T 0) len s).1) ((p_pw (T 0) len s).2.1) ((p_pw (T 0) len s).2.2.1) ((p_pw (T 0) len s).2.2.2.1)) T (gv ((p_pw (T 0) len s).2.2.2.2.1) ((p_pw (T 0) len s).2.2.2.2.2.1) ((p_pw (T 0) len s).2.2.2.2.2.2.1) ((p_pw (T 0) len s).2.2.2.2.2.2.2.1)) ((p_pw (T 0) len s).2.2.2.2.2.2.2.2)) := by
  refine rr_C.of (n := 0) fX5_readWind.1 rfl rfl (fun Z hC => ?_)
  show rr_J Z 1 0 0 (rr_MQ Z 0 0 none (W_R (rv len ((p_pw (T 0) len s).1) ((p_pw (T 0) len s).2.1) ((p_pw (T 0) len s).2.2.1) ((p_pw (T 0) len s).2.2.2.1)) T (gv ((p_pw (T 0) len s).2.2.2.2.1) ((p_pw (T 0) len s).2.2.2.2.2.1) ((p_pw (T 0) len s).2.2.2.2.2.2.1) ((p_pw (T 0) len s).2.2.2.2.2.2.2.1)) ((p_pw (T 0) len s).2.2.2.2.2.2.2.2))) 0 [(0, .ref 0)] [] (W_R (rv len s.1 s.2.1 s.2.2.1 s.2.2.2.1) T (gv s.2.2.2.2.1 s.2.2.2.2.2.1 s.2.2.2.2.2.2.1 s.2.2.2.2.2.2.2.1) s.2.2.2.2.2.2.2.2)
  refine rr_go hC bk_X5_readWind_0_4 (l' := [(0, .ref 0)]) (st' := [.int (rr_b s.2.2.1)]) (w' := (W_R (rv len s.1 s.2.1 s.2.2.1 s.2.2.2.1) T (gv s.2.2.2.2.1 s.2.2.2.2.2.1 s.2.2.2.2.2.2.1 s.2.2.2.2.2.2.2.1) s.2.2.2.2.2.2.2.2)) rfl ?_
  refine rr_eqb hC (off := 13) (tgt := 17) (by decide +kernel) (fun h4 => ?_) (fun h4 => ?_)
  · refine rr_go hC bk_X5_readWind_17_40 (l' := [(0, .ref 0)]) (st' := [.int 30, .int 1, .ref 0, .ref 2]) (w' := (W_R (upd (upd (rv len s.1 s.2.1 s.2.2.1 s.2.2.2.1) 1 ((nI s.1) + 1)) 3 1) T (gv s.2.2.2.2.1 s.2.2.2.2.2.1 s.2.2.2.2.2.2.1 s.2.2.2.2.2.2.2.1) s.2.2.2.2.2.2.2.2)) rfl ?_
    rw [show ((nI s.1) + 1 : Int32) = nI (s.1 + 1) from nI_add s.1 1]
    refine rr_callV hC (by decide +kernel) kl_5_66 fX5_readNumber (c5_readNumber len (s.1 + 1) s.2.1 true s.2.2.2.1 T 4 1 30 (by omega) (by omega)) rfl rfl [0, 1] rfl rfl (Eq.refl 2) rfl rfl rfl (rest := [.ref 2]) rfl rfl ⟨Nat.zero_le _, Nat.zero_le _⟩ (w2 := (W_R (rv len (p_rat (T 0) len (s.1 + 1)) (p_rna (T 0) len (s.1 + 1) s.2.1) true (p_rq (T 0) len (s.1 + 1) 1 30 s.2.2.2.1)) T (gv s.2.2.2.2.1 s.2.2.2.2.2.1 s.2.2.2.2.2.2.1 s.2.2.2.2.2.2.2.1) s.2.2.2.2.2.2.2.2)) rfl ?_
    show rr_J Z 1 0 0 _ 43 [(0, .ref 0)] [.int (p_rv (T 0) len (s.1 + 1) 1 30), .ref 2] (W_R (rv len (p_rat (T 0) len (s.1 + 1)) (p_rna (T 0) len (s.1 + 1) s.2.1) true (p_rq (T 0) len (s.1 + 1) 1 30 s.2.2.2.1)) T (gv s.2.2.2.2.1 s.2.2.2.2.2.1 s.2.2.2.2.2.2.1 s.2.2.2.2.2.2.2.1) s.2.2.2.2.2.2.2.2)
    have hrn4 := p_rat_le (T 0) len (s.1 + 1)
    rw [show (p_rv (T 0) len (s.1 + 1) 1 30) = nI (p_rv (T 0) len (s.1 + 1) 1 30).toNatClampNeg from (p_rv_nat (l := 1) (h := 30) (by omega) (by omega)).1]
    refine rr_go hC bk_X5_readWind_43_47 (l' := [(0, .ref 0)]) (st' := [.ref 0]) (w' := (W_R (rv len (p_rat (T 0) len (s.1 + 1)) (p_rna (T 0) len (s.1 + 1) s.2.1) true (p_rq (T 0) len (s.1 + 1) 1 30 s.2.2.2.1)) T (upd (gv s.2.2.2.2.1 s.2.2.2.2.2.1 s.2.2.2.2.2.2.1 s.2.2.2.2.2.2.2.1) 1 (nI ((p_rv (T 0) len (s.1 + 1) 1 30).toNatClampNeg))) s.2.2.2.2.2.2.2.2)) rfl ?_
    refine rr_callV hC (by decide +kernel) kl_5_74 fX5_readEnd (c5_readEnd len (p_rat (T 0) len (s.1 + 1)) (p_rna (T 0) len (s.1 + 1) s.2.1) true (p_rq (T 0) len (s.1 + 1) 1 30 s.2.2.2.1) T 4 (by omega) (by omega)) rfl rfl [0, 1] rfl rfl (Eq.refl 2) rfl rfl rfl (rest := []) rfl rfl ⟨Nat.zero_le _, Nat.zero_le _⟩ (w2 := (W_R (rv len (p_sk (T 0) len (p_rat (T 0) len (s.1 + 1)) + 1) (p_rna (T 0) len (s.1 + 1) s.2.1) true (p_eq' (T 0) len (p_rat (T 0) len (s.1 + 1)) (p_rq (T 0) len (s.1 + 1) 1 30 s.2.2.2.1))) T (upd (gv s.2.2.2.2.1 s.2.2.2.2.2.1 s.2.2.2.2.2.2.1 s.2.2.2.2.2.2.2.1) 1 (nI ((p_rv (T 0) len (s.1 + 1) 1 30).toNatClampNeg))) s.2.2.2.2.2.2.2.2)) rfl ?_
    show rr_J Z 1 0 0 _ 50 [(0, .ref 0)] [] (W_R (rv len (p_sk (T 0) len (p_rat (T 0) len (s.1 + 1)) + 1) (p_rna (T 0) len (s.1 + 1) s.2.1) true (p_eq' (T 0) len (p_rat (T 0) len (s.1 + 1)) (p_rq (T 0) len (s.1 + 1) 1 30 s.2.2.2.1))) T (upd (gv s.2.2.2.2.1 s.2.2.2.2.2.1 s.2.2.2.2.2.2.1 s.2.2.2.2.2.2.2.1) 1 (nI ((p_rv (T 0) len (s.1 + 1) 1 30).toNatClampNeg))) s.2.2.2.2.2.2.2.2)
    exact rr_retv hC (by decide +kernel) (by unfold p_pw; first | (rw [if_neg (by rw [h4]; decide)]; rfl) | (rw [if_pos h4]; rfl)) ⟨Nat.zero_le _, Nat.zero_le _⟩
  · refine rr_go hC bk_X5_readWind_7_13 (l' := [(0, .ref 0)]) (st' := [.int (nI s.1), .int 3, .ref 0]) (w' := (W_R (rv len s.1 s.2.1 s.2.2.1 s.2.2.2.1) T (gv s.2.2.2.2.1 s.2.2.2.2.2.1 s.2.2.2.2.2.2.1 s.2.2.2.2.2.2.2.1) s.2.2.2.2.2.2.2.2)) rfl ?_
    refine rr_callV hC (by decide +kernel) kl_5_56 fX5_fail (c5_fail len s.1 s.2.1 s.2.2.1 s.2.2.2.1 T 4 3 (nI s.1)) rfl rfl [0, 1] rfl rfl (Eq.refl 2) rfl rfl rfl (rest := []) rfl rfl ⟨Nat.zero_le _, Nat.zero_le _⟩ (w2 := (W_R (rv len s.1 s.2.1 s.2.2.1 (p_fl 3 (nI s.1) s.2.2.2.1)) T (gv s.2.2.2.2.1 s.2.2.2.2.2.1 s.2.2.2.2.2.2.1 s.2.2.2.2.2.2.2.1) s.2.2.2.2.2.2.2.2)) rfl ?_
    show rr_J Z 1 0 0 _ 16 [(0, .ref 0)] [] (W_R (rv len s.1 s.2.1 s.2.2.1 (p_fl 3 (nI s.1) s.2.2.2.1)) T (gv s.2.2.2.2.1 s.2.2.2.2.2.1 s.2.2.2.2.2.2.1 s.2.2.2.2.2.2.2.1) s.2.2.2.2.2.2.2.2)
    exact rr_retv hC (by decide +kernel) (by unfold p_pw; first | (rw [if_neg (by rw [h4]; decide)]; rfl) | (rw [if_pos h4]; rfl)) ⟨Nat.zero_le _, Nat.zero_le _⟩
theorem bk_X5_readCell_0_9 : rr_chk mX5_readCell [(.aload_n 0, 0, 0, 0), (.getfield 18, 0, 5, 1), (.getfield 86, 0, 8, 8), (.bipush 9, 9, 0, 0)] 0 9 = true := by decide +kernel
theorem bk_X5_readCell_22_40 : rr_chk mX5_readCell [(.aload_n 0, 0, 0, 0), (.dup, 0, 0, 0), (.getfield 29, 0, 5, 3), (.iconst 1, 1, 0, 0), (.iadd, 0, 0, 0), (.putfield 29, 0, 5, 3), (.aload_n 0, 0, 0, 0), (.getfield 18, 0, 5, 1), (.aload_n 0, 0, 0, 0), (.iconst 0, 0, 0, 0), (.bipush 19, 19, 0, 0)] 22 40 = true := by decide +kernel
theorem bk_X5_readCell_46_47 : rr_chk mX5_readCell [(.aload_n 0, 0, 0, 0)] 46 47 = true := by decide +kernel
theorem bk_X5_readCell_12_18 : rr_chk mX5_readCell [(.aload_n 0, 0, 0, 0), (.iconst 3, 3, 0, 0), (.aload_n 0, 0, 0, 0), (.getfield 29, 0, 5, 3)] 12 18 = true := by decide +kernel
set_option maxRecDepth 100000 in
set_option maxHeartbeats 4000000 in
theorem c5_readCell (len : Nat) (T : Nat → Nat → Int32) (s : p_RS) (hlen : len ≤ 240) (hs : s.1 ≤ 9000) (hcc : s.2.2.2.2.2.2.1 ≤ 9) : rr_C mX5_readCell 2 [.ref 0] (W_R (rv len s.1 s.2.1 s.2.2.1 s.2.2.2.1) T (gv s.2.2.2.2.1 s.2.2.2.2.2.1 s.2.2.2.2.2.2.1 s.2.2.2.2.2.2.2.1) s.2.2.2.2.2.2.2.2) 0 0 none (W_R (rv len ((p_pc (T 0) len s).1) ((p_pc (T 0) len s).2.1) ((p_pc (T 0) len s).2.2.1) ((p_pc (T 0) len s).2.2.2.1)) T (gv ((p_pc (T 0) len s).2.2.2.2.1) ((p_pc (T 0) len s).2.2.2.2.2.1) ((p_pc (T 0) len s).2.2.2.2.2.2.1) ((p_pc (T 0) len s).2.2.2.2.2.2.2.1)) ((p_pc (T 0) len s).2.2.2.2.2.2.2.2)) := by
  refine rr_C.of (n := 0) fX5_readCell.1 rfl rfl (fun Z hC => ?_)
  show rr_J Z 1 0 0 (rr_MQ Z 0 0 none (W_R (rv len ((p_pc (T 0) len s).1) ((p_pc (T 0) len s).2.1) ((p_pc (T 0) len s).2.2.1) ((p_pc (T 0) len s).2.2.2.1)) T (gv ((p_pc (T 0) len s).2.2.2.2.1) ((p_pc (T 0) len s).2.2.2.2.2.1) ((p_pc (T 0) len s).2.2.2.2.2.2.1) ((p_pc (T 0) len s).2.2.2.2.2.2.2.1)) ((p_pc (T 0) len s).2.2.2.2.2.2.2.2))) 0 [(0, .ref 0)] [] (W_R (rv len s.1 s.2.1 s.2.2.1 s.2.2.2.1) T (gv s.2.2.2.2.1 s.2.2.2.2.2.1 s.2.2.2.2.2.2.1 s.2.2.2.2.2.2.2.1) s.2.2.2.2.2.2.2.2)
  refine rr_go hC bk_X5_readCell_0_9 (l' := [(0, .ref 0)]) (st' := [.int 9, .int (nI s.2.2.2.2.2.2.1)]) (w' := (W_R (rv len s.1 s.2.1 s.2.2.1 s.2.2.2.1) T (gv s.2.2.2.2.1 s.2.2.2.2.2.1 s.2.2.2.2.2.2.1 s.2.2.2.2.2.2.2.1) s.2.2.2.2.2.2.2.2)) rfl ?_
  refine rr_icmp_lt hC (off := 13) (tgt := 22) (by decide +kernel) (fun h9 => ?_) (fun h9 => ?_)
  · rw [rr_nl_lt (b := 9) (by omega) (by omega)] at h9
    refine rr_go hC bk_X5_readCell_22_40 (l' := [(0, .ref 0)]) (st' := [.int 19, .int 0, .ref 0, .ref 2]) (w' := (W_R (upd (rv len s.1 s.2.1 s.2.2.1 s.2.2.2.1) 1 ((nI s.1) + 1)) T (gv s.2.2.2.2.1 s.2.2.2.2.2.1 s.2.2.2.2.2.2.1 s.2.2.2.2.2.2.2.1) s.2.2.2.2.2.2.2.2)) rfl ?_
    rw [show ((nI s.1) + 1 : Int32) = nI (s.1 + 1) from nI_add s.1 1]
    refine rr_callV hC (by decide +kernel) kl_5_66 fX5_readNumber (c5_readNumber len (s.1 + 1) s.2.1 s.2.2.1 s.2.2.2.1 T 4 0 19 (by omega) (by omega)) rfl rfl [0, 1] rfl rfl (Eq.refl 2) rfl rfl rfl (rest := [.ref 2]) rfl rfl ⟨Nat.zero_le _, Nat.zero_le _⟩ (w2 := (W_R (rv len (p_rat (T 0) len (s.1 + 1)) (p_rna (T 0) len (s.1 + 1) s.2.1) s.2.2.1 (p_rq (T 0) len (s.1 + 1) 0 19 s.2.2.2.1)) T (gv s.2.2.2.2.1 s.2.2.2.2.2.1 s.2.2.2.2.2.2.1 s.2.2.2.2.2.2.2.1) s.2.2.2.2.2.2.2.2)) rfl ?_
    show rr_J Z 1 0 0 _ 43 [(0, .ref 0)] [.int (p_rv (T 0) len (s.1 + 1) 0 19), .ref 2] (W_R (rv len (p_rat (T 0) len (s.1 + 1)) (p_rna (T 0) len (s.1 + 1) s.2.1) s.2.2.1 (p_rq (T 0) len (s.1 + 1) 0 19 s.2.2.2.1)) T (gv s.2.2.2.2.1 s.2.2.2.2.2.1 s.2.2.2.2.2.2.1 s.2.2.2.2.2.2.2.1) s.2.2.2.2.2.2.2.2)
    have hrn5 := p_rat_le (T 0) len (s.1 + 1)
    refine rr_callV hC (by decide +kernel) kl_5_89 fX8_addCell (c8_addCell s.2.2.2.2.1 s.2.2.2.2.2.1 s.2.2.2.2.2.2.1 s.2.2.2.2.2.2.2.1 s.2.2.2.2.2.2.2.2 (p_rv (T 0) len (s.1 + 1) 0 19) (by omega)) rfl rfl [2, 3, 4, 5, 6, 7, 8] rfl rfl (Eq.refl 7) rfl rfl rfl (rest := []) rfl rfl ⟨Nat.zero_le _, Nat.zero_le _⟩ (w2 := (W_R (rv len (p_rat (T 0) len (s.1 + 1)) (p_rna (T 0) len (s.1 + 1) s.2.1) s.2.2.1 (p_rq (T 0) len (s.1 + 1) 0 19 s.2.2.2.1)) T (gv s.2.2.2.2.1 s.2.2.2.2.2.1 (s.2.2.2.2.2.2.1 + 1) s.2.2.2.2.2.2.2.1) (va_up s.2.2.2.2.2.2.2.2 1 (upd (s.2.2.2.2.2.2.2.2 1) s.2.2.2.2.2.2.1 (p_rv (T 0) len (s.1 + 1) 0 19))))) rfl ?_
    show rr_J Z 1 0 0 _ 46 [(0, .ref 0)] [] (W_R (rv len (p_rat (T 0) len (s.1 + 1)) (p_rna (T 0) len (s.1 + 1) s.2.1) s.2.2.1 (p_rq (T 0) len (s.1 + 1) 0 19 s.2.2.2.1)) T (gv s.2.2.2.2.1 s.2.2.2.2.2.1 (s.2.2.2.2.2.2.1 + 1) s.2.2.2.2.2.2.2.1) (va_up s.2.2.2.2.2.2.2.2 1 (upd (s.2.2.2.2.2.2.2.2 1) s.2.2.2.2.2.2.1 (p_rv (T 0) len (s.1 + 1) 0 19))))
    refine rr_go hC bk_X5_readCell_46_47 (l' := [(0, .ref 0)]) (st' := [.ref 0]) (w' := (W_R (rv len (p_rat (T 0) len (s.1 + 1)) (p_rna (T 0) len (s.1 + 1) s.2.1) s.2.2.1 (p_rq (T 0) len (s.1 + 1) 0 19 s.2.2.2.1)) T (gv s.2.2.2.2.1 s.2.2.2.2.2.1 (s.2.2.2.2.2.2.1 + 1) s.2.2.2.2.2.2.2.1) (va_up s.2.2.2.2.2.2.2.2 1 (upd (s.2.2.2.2.2.2.2.2 1) s.2.2.2.2.2.2.1 (p_rv (T 0) len (s.1 + 1) 0 19))))) rfl ?_
    refine rr_callV hC (by decide +kernel) kl_5_74 fX5_readEnd (c5_readEnd len (p_rat (T 0) len (s.1 + 1)) (p_rna (T 0) len (s.1 + 1) s.2.1) s.2.2.1 (p_rq (T 0) len (s.1 + 1) 0 19 s.2.2.2.1) T 4 (by omega) (by omega)) rfl rfl [0, 1] rfl rfl (Eq.refl 2) rfl rfl rfl (rest := []) rfl rfl ⟨Nat.zero_le _, Nat.zero_le _⟩ (w2 := (W_R (rv len (p_sk (T 0) len (p_rat (T 0) len (s.1 + 1)) + 1) (p_rna (T 0) len (s.1 + 1) s.2.1) s.2.2.1 (p_eq' (T 0) len (p_rat (T 0) len (s.1 + 1)) (p_rq (T 0) len (s.1 + 1) 0 19 s.2.2.2.1))) T (gv s.2.2.2.2.1 s.2.2.2.2.2.1 (s.2.2.2.2.2.2.1 + 1) s.2.2.2.2.2.2.2.1) (va_up s.2.2.2.2.2.2.2.2 1 (upd (s.2.2.2.2.2.2.2.2 1) s.2.2.2.2.2.2.1 (p_rv (T 0) len (s.1 + 1) 0 19))))) rfl ?_
    show rr_J Z 1 0 0 _ 50 [(0, .ref 0)] [] (W_R (rv len (p_sk (T 0) len (p_rat (T 0) len (s.1 + 1)) + 1) (p_rna (T 0) len (s.1 + 1) s.2.1) s.2.2.1 (p_eq' (T 0) len (p_rat (T 0) len (s.1 + 1)) (p_rq (T 0) len (s.1 + 1) 0 19 s.2.2.2.1))) T (gv s.2.2.2.2.1 s.2.2.2.2.2.1 (s.2.2.2.2.2.2.1 + 1) s.2.2.2.2.2.2.2.1) (va_up s.2.2.2.2.2.2.2.2 1 (upd (s.2.2.2.2.2.2.2.2 1) s.2.2.2.2.2.2.1 (p_rv (T 0) len (s.1 + 1) 0 19))))
    exact rr_retv hC (by decide +kernel) (by unfold p_pc; first | (rw [if_neg (by omega)]; done) | (rw [if_neg (by omega)]; rfl) | (rw [if_pos (by omega)]; done) | (rw [if_pos (by omega)]; rfl)) ⟨Nat.zero_le _, Nat.zero_le _⟩
  · rw [rr_nl_lt (b := 9) (by omega) (by omega)] at h9
    refine rr_go hC bk_X5_readCell_12_18 (l' := [(0, .ref 0)]) (st' := [.int (nI s.1), .int 3, .ref 0]) (w' := (W_R (rv len s.1 s.2.1 s.2.2.1 s.2.2.2.1) T (gv s.2.2.2.2.1 s.2.2.2.2.2.1 s.2.2.2.2.2.2.1 s.2.2.2.2.2.2.2.1) s.2.2.2.2.2.2.2.2)) rfl ?_
    refine rr_callV hC (by decide +kernel) kl_5_56 fX5_fail (c5_fail len s.1 s.2.1 s.2.2.1 s.2.2.2.1 T 4 3 (nI s.1)) rfl rfl [0, 1] rfl rfl (Eq.refl 2) rfl rfl rfl (rest := []) rfl rfl ⟨Nat.zero_le _, Nat.zero_le _⟩ (w2 := (W_R (rv len s.1 s.2.1 s.2.2.1 (p_fl 3 (nI s.1) s.2.2.2.1)) T (gv s.2.2.2.2.1 s.2.2.2.2.2.1 s.2.2.2.2.2.2.1 s.2.2.2.2.2.2.2.1) s.2.2.2.2.2.2.2.2)) rfl ?_
    show rr_J Z 1 0 0 _ 21 [(0, .ref 0)] [] (W_R (rv len s.1 s.2.1 s.2.2.1 (p_fl 3 (nI s.1) s.2.2.2.1)) T (gv s.2.2.2.2.1 s.2.2.2.2.2.1 s.2.2.2.2.2.2.1 s.2.2.2.2.2.2.2.1) s.2.2.2.2.2.2.2.2)
    exact rr_retv hC (by decide +kernel) (by unfold p_pc; first | (rw [if_neg (by omega)]; done) | (rw [if_neg (by omega)]; rfl) | (rw [if_pos (by omega)]; done) | (rw [if_pos (by omega)]; rfl)) ⟨Nat.zero_le _, Nat.zero_le _⟩
