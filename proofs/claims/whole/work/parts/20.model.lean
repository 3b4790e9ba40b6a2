/-! the model: its row of 22 numbers as the state of a Sand; what needs no object -/
def en (q : p_Q) (i : Nat) : Int32 := if i = 0 then nI q.1 else if i = 1 then q.2.1 + 1 else if i = 2 then q.2.2.1 else if i = 3 then q.2.2.2.1 else if i < 22 then (if (i - 4) % 3 = 0 then q.2.2.2.2 0 ((i - 4) / 3) + 1 else if (i - 4) % 3 = 1 then q.2.2.2.2 1 ((i - 4) / 3) else q.2.2.2.2 2 ((i - 4) / 3)) else 0
theorem en_0 (q : p_Q) : en q 0 = nI q.1 := rfl
theorem en_1 (q : p_Q) : en q 1 = q.2.1 + 1 := rfl
theorem en_2 (q : p_Q) : en q 2 = q.2.2.1 := rfl
theorem en_3 (q : p_Q) : en q 3 = q.2.2.2.1 := rfl
theorem en_c (q : p_Q) {k : Nat} (hk : k < 6) : en q (4 + 3 * k) = q.2.2.2.2 0 k + 1 := by
  unfold en
  rw [if_neg (by omega), if_neg (by omega), if_neg (by omega), if_neg (by omega), if_pos (by omega), if_pos (by omega), show (4 + 3 * k - 4) / 3 = k by omega]
theorem en_w (q : p_Q) {k : Nat} (hk : k < 6) : en q ((4 + 3 * k) + 1) = q.2.2.2.2 1 k := by
  unfold en
  rw [if_neg (by omega), if_neg (by omega), if_neg (by omega), if_neg (by omega), if_pos (by omega), if_neg (by omega), if_pos (by omega), show (4 + 3 * k + 1 - 4) / 3 = k by omega]
theorem en_d (q : p_Q) {k : Nat} (hk : k < 6) : en q ((4 + 3 * k) + 2) = q.2.2.2.2 2 k := by
  unfold en
  rw [if_neg (by omega), if_neg (by omega), if_neg (by omega), if_neg (by omega), if_pos (by omega), if_neg (by omega), if_neg (by omega), show (4 + 3 * k + 2 - 4) / 3 = k by omega]
theorem en_o (q : p_Q) {i : Nat} (hi : 22 ≤ i) : en q i = 0 := by
  unfold en
  rw [if_neg (by omega), if_neg (by omega), if_neg (by omega), if_neg (by omega), if_neg (by omega)]
theorem en_ext {f : Nat → Int32} {q : p_Q} (h0 : f 0 = nI q.1) (h1 : f 1 = q.2.1 + 1) (h2 : f 2 = q.2.2.1) (h3 : f 3 = q.2.2.2.1) (hc : ∀ k, k < 6 → f (4 + 3 * k) = q.2.2.2.2 0 k + 1) (hw : ∀ k, k < 6 → f ((4 + 3 * k) + 1) = q.2.2.2.2 1 k) (hd : ∀ k, k < 6 → f ((4 + 3 * k) + 2) = q.2.2.2.2 2 k) (ho : ∀ i, 22 ≤ i → f i = 0) : f = en q := by
  funext i
  by_cases e : 22 ≤ i
  · rw [ho i e, en_o q e]
  · by_cases e4 : i < 4
    · rcases (show i = 0 ∨ i = 1 ∨ i = 2 ∨ i = 3 by omega) with rfl | rfl | rfl | rfl
      · rw [h0, en_0]
      · rw [h1, en_1]
      · rw [h2, en_2]
      · rw [h3, en_3]
    · obtain ⟨k, hk⟩ : ∃ k, k = (i - 4) / 3 := ⟨_, rfl⟩
      rcases (show i = 4 + 3 * k ∨ i = (4 + 3 * k) + 1 ∨ i = (4 + 3 * k) + 2 by omega) with rfl | rfl | rfl
      · rw [hc k (by omega), en_c q (by omega)]
      · rw [hw k (by omega), en_w q (by omega)]
      · rw [hd k (by omega), en_d q (by omega)]
theorem p_i1 {x y : Int32} : x + 1 = y + 1 ↔ x = y := by
  constructor
  · intro h
    have := congrArg (fun z => z - 1) h
    simpa using this
  · intro h; rw [h]
theorem en_rb (q : p_Q) {k : Nat} (hk : k < 6) : upd (upd (upd (upd (en q) (4 + 3 * k) 0) ((4 + 3 * k) + 1) 0) ((4 + 3 * k) + 2) 0) 1 (if q.2.1 = nI k then 0 else q.2.1 + 1) = en (p_rb q k) := by
  apply en_ext
  · rw [pk_un (by omega), pk_un (by omega), pk_un (by omega), pk_un (by omega), en_0]; rfl
  · rw [pk_us]
    show _ = p_rms q.2.1 k + 1
    unfold p_rms
    split
    · decide
    · rfl
  · rw [pk_un (by omega), pk_un (by omega), pk_un (by omega), pk_un (by omega), en_2]; rfl
  · rw [pk_un (by omega), pk_un (by omega), pk_un (by omega), pk_un (by omega), en_3]; rfl
  · intro j hj
    show _ = upd (q.2.2.2.2 0) k (-1) j + 1
    by_cases e : j = k
    · subst e
      rw [pk_un (by omega), pk_un (by omega), pk_un (by omega), pk_us, pk_us]; decide
    · rw [pk_un (by omega), pk_un (by omega), pk_un (by omega), pk_un (by omega), pk_un e, en_c q hj]
  · intro j hj
    show _ = upd (q.2.2.2.2 1) k 0 j
    by_cases e : j = k
    · subst e
      rw [pk_un (by omega), pk_un (by omega), pk_us, pk_us]
    · rw [pk_un (by omega), pk_un (by omega), pk_un (by omega), pk_un (by omega), pk_un e, en_w q hj]
  · intro j hj
    show _ = upd (q.2.2.2.2 2) k 0 j
    by_cases e : j = k
    · subst e
      rw [pk_un (by omega), pk_us, pk_us]
    · rw [pk_un (by omega), pk_un (by omega), pk_un (by omega), pk_un (by omega), pk_un e, en_d q hj]
  · intro i hi
    rw [pk_un (by omega), pk_un (by omega), pk_un (by omega), pk_un (by omega), en_o q hi]
theorem en_wr (q : p_Q) {k c : Nat} (hk : k < 6) : upd (upd (upd (upd (en q) (4 + 3 * k) (nI (c + 1))) ((4 + 3 * k) + 1) 0) ((4 + 3 * k) + 2) 0) 1 (nI (k + 1)) = en (p_wr q k c) := by
  apply en_ext
  · rw [pk_un (by omega), pk_un (by omega), pk_un (by omega), pk_un (by omega), en_0]; rfl
  · rw [pk_us]
    show _ = nI k + 1
    rw [nI_1]
  · rw [pk_un (by omega), pk_un (by omega), pk_un (by omega), pk_un (by omega), en_2]; rfl
  · rw [pk_un (by omega), pk_un (by omega), pk_un (by omega), pk_un (by omega), en_3]; rfl
  · intro j hj
    show _ = upd (q.2.2.2.2 0) k (nI c) j + 1
    by_cases e : j = k
    · subst e
      rw [pk_un (by omega), pk_un (by omega), pk_un (by omega), pk_us, pk_us, nI_1]
    · rw [pk_un (by omega), pk_un (by omega), pk_un (by omega), pk_un (by omega), pk_un e, en_c q hj]
  · intro j hj
    show _ = upd (q.2.2.2.2 1) k 0 j
    by_cases e : j = k
    · subst e
      rw [pk_un (by omega), pk_un (by omega), pk_us, pk_us]
    · rw [pk_un (by omega), pk_un (by omega), pk_un (by omega), pk_un (by omega), pk_un e, en_w q hj]
  · intro j hj
    show _ = upd (q.2.2.2.2 2) k 0 j
    by_cases e : j = k
    · subst e
      rw [pk_un (by omega), pk_us, pk_us]
    · rw [pk_un (by omega), pk_un (by omega), pk_un (by omega), pk_un (by omega), pk_un e, en_d q hj]
  · intro i hi
    rw [pk_un (by omega), pk_un (by omega), pk_un (by omega), pk_un (by omega), en_o q hi]
/-- v in low .. high, as the model asks it -/
def m_in (v lo hi : Int32) : Bool := !decide (v < lo) && !decide (hi < v)
def m_has (x k : Int32) : Bool := decide (p_bit x k = 1)
def m_ones (x : Int32) : Nat → Int32
  | 0 => 0
  | k + 1 => m_ones x k + p_bit x (nI k)
/-- the first clause from k on (n of them) that is in cell c, by the row -/
def m_cin (f : Nat → Int32) (c : Int32) (k : Nat) : Nat → Int32
  | 0 => -1
  | n + 1 => if f (4 + 3 * k) = c + 1 then nI k else m_cin f c (k + 1) n
theorem bk_X11_in_0_2 : rr_chk mX11_in [(.iload_n 0, 0, 0, 0), (.iload_n 1, 0, 1, 0)] 0 2 = true := by decide +kernel
theorem bk_X11_in_14_15 : rr_chk mX11_in [(.iconst 0, 0, 0, 0)] 14 15 = true := by decide +kernel
theorem bk_X11_in_5_7 : rr_chk mX11_in [(.iload_n 0, 0, 0, 0), (.iload_n 2, 0, 2, 0)] 5 7 = true := by decide +kernel
theorem bk_X11_in_10_15 : rr_chk mX11_in [(.iconst 1, 1, 0, 0), (.goto 4, 0, 0, 0)] 10 15 = true := by decide +kernel
set_option maxRecDepth 100000 in
set_option maxHeartbeats 4000000 in
theorem m_c_in (v lo hi : Int32) : rr_C mX11_in 0 [.int v, .int lo, .int hi] W_E 0 0 (some (rr_b (m_in v lo hi))) W_E := by
  refine rr_C.of (n := 3) fX11_in.1 rfl rfl (fun Z hC => ?_)
  show rr_J Z 3 0 0 (rr_MQ Z 0 0 (some (rr_b (m_in v lo hi))) W_E) 0 [(0, .int v), (1, .int lo), (2, .int hi)] [] W_E
  refine rr_go hC bk_X11_in_0_2 (l' := [(0, .int v), (1, .int lo), (2, .int hi)]) (st' := [.int lo, .int v]) (w' := W_E) rfl ?_
  refine rr_icmp_lt hC (off := 12) (tgt := 14) (by decide +kernel) (fun h2 => ?_) (fun h2 => ?_)
  · refine rr_go hC bk_X11_in_14_15 (l' := [(0, .int v), (1, .int lo), (2, .int hi)]) (st' := [.int 0]) (w' := W_E) rfl ?_
    exact rr_retz hC (by decide +kernel) (Or.inl rfl) (by simp only [m_in, rr_b, *, decide_true, decide_false, Bool.not_true, Bool.not_false, Bool.and_true, Bool.and_false, Bool.true_and, Bool.false_and]) (by rfl) ⟨Nat.zero_le _, Nat.zero_le _⟩
  · refine rr_go hC bk_X11_in_5_7 (l' := [(0, .int v), (1, .int lo), (2, .int hi)]) (st' := [.int hi, .int v]) (w' := W_E) rfl ?_
    refine rr_icmp_gt hC (off := 7) (tgt := 14) (by decide +kernel) (fun h7 => ?_) (fun h7 => ?_)
    · refine rr_go hC bk_X11_in_14_15 (l' := [(0, .int v), (1, .int lo), (2, .int hi)]) (st' := [.int 0]) (w' := W_E) rfl ?_
      exact rr_retz hC (by decide +kernel) (Or.inl rfl) (by simp only [m_in, rr_b, *, decide_true, decide_false, Bool.not_true, Bool.not_false, Bool.and_true, Bool.and_false, Bool.true_and, Bool.false_and]) (by rfl) ⟨Nat.zero_le _, Nat.zero_le _⟩
    · refine rr_go hC bk_X11_in_10_15 (l' := [(0, .int v), (1, .int lo), (2, .int hi)]) (st' := [.int 1]) (w' := W_E) rfl ?_
      exact rr_retz hC (by decide +kernel) (Or.inr rfl) (by simp only [m_in, rr_b, *, decide_true, decide_false, Bool.not_true, Bool.not_false, Bool.and_true, Bool.and_false, Bool.true_and, Bool.false_and]) (by rfl) ⟨Nat.zero_le _, Nat.zero_le _⟩
theorem bk_X11_has_0_6 : rr_chk mX11_has [(.iload_n 0, 0, 0, 0), (.iload_n 1, 0, 1, 0), (.ishr, 0, 0, 0), (.iconst 1, 1, 0, 0), (.iand, 0, 0, 0), (.iconst 1, 1, 0, 0)] 0 6 = true := by decide +kernel
theorem bk_X11_has_13_14 : rr_chk mX11_has [(.iconst 0, 0, 0, 0)] 13 14 = true := by decide +kernel
theorem bk_X11_has_9_14 : rr_chk mX11_has [(.iconst 1, 1, 0, 0), (.goto 4, 0, 0, 0)] 9 14 = true := by decide +kernel
set_option maxRecDepth 100000 in
set_option maxHeartbeats 4000000 in
theorem m_c_has (x k : Int32) : rr_C mX11_has 0 [.int x, .int k] W_E 0 0 (some (rr_b (m_has x k))) W_E := by
  refine rr_C.of (n := 2) fX11_has.1 rfl rfl (fun Z hC => ?_)
  show rr_J Z 2 0 0 (rr_MQ Z 0 0 (some (rr_b (m_has x k))) W_E) 0 [(0, .int x), (1, .int k)] [] W_E
  refine rr_go hC bk_X11_has_0_6 (l' := [(0, .int x), (1, .int k)]) (st' := [.int 1, .int ((x >>> (k &&& 31)) &&& 1)]) (w' := W_E) rfl ?_
  refine rr_icmp_ne hC (off := 7) (tgt := 13) (by decide +kernel) (fun h6 => ?_) (fun h6 => ?_)
  · refine rr_go hC bk_X11_has_13_14 (l' := [(0, .int x), (1, .int k)]) (st' := [.int 0]) (w' := W_E) rfl ?_
    exact rr_retz hC (by decide +kernel) (Or.inl rfl) (by unfold m_has p_bit; first | (rw [decide_eq_true h6]; rfl) | (rw [decide_eq_false h6]; rfl)) (by rfl) ⟨Nat.zero_le _, Nat.zero_le _⟩
  · refine rr_go hC bk_X11_has_9_14 (l' := [(0, .int x), (1, .int k)]) (st' := [.int 1]) (w' := W_E) rfl ?_
    exact rr_retz hC (by decide +kernel) (Or.inr rfl) (by unfold m_has p_bit; first | (rw [decide_eq_true h6]; rfl) | (rw [decide_eq_false h6]; rfl)) (by rfl) ⟨Nat.zero_le _, Nat.zero_le _⟩
theorem bk_X11_ones_0_4 : rr_chk mX11_ones [(.iconst 0, 0, 0, 0), (.istore_n 1, 0, 1, 0), (.iconst 0, 0, 0, 0), (.istore_n 2, 0, 2, 0)] 0 4 = true := by decide +kernel
theorem bk_X11_ones_4_7 : rr_chk mX11_ones [(.iload_n 2, 0, 2, 0), (.bipush 9, 9, 0, 0)] 4 7 = true := by decide +kernel
theorem bk_X11_ones_24_25 : rr_chk mX11_ones [(.iload_n 1, 0, 1, 0)] 24 25 = true := by decide +kernel
theorem bk_X11_ones_10_4 : rr_chk mX11_ones [(.iload_n 1, 0, 1, 0), (.iload_n 0, 0, 0, 0), (.iload_n 2, 0, 2, 0), (.ishr, 0, 0, 0), (.iconst 1, 1, 0, 0), (.iand, 0, 0, 0), (.iadd, 0, 0, 0), (.istore_n 1, 0, 1, 0), (.iinc 2 1, 1, 2, 0), (.goto (-17), 0, 0, 0)] 10 4 = true := by decide +kernel
set_option maxRecDepth 100000 in
set_option maxHeartbeats 4000000 in
theorem m_c_ones (x : Int32) : rr_C mX11_ones 0 [.int x] W_E 0 0 (some (m_ones x 9)) W_E := by
  refine rr_C.of (n := 1) fX11_ones.1 rfl rfl (fun Z hC => ?_)
  show rr_J Z 3 0 0 (rr_MQ Z 0 0 (some (m_ones x 9)) W_E) 0 [(0, .int x)] [] W_E
  refine rr_go hC bk_X11_ones_0_4 (l' := [(0, .int x), (1, .int 0), (2, .int 0)]) (st' := []) (w' := W_E) rfl ?_
  have lp4 : ∀ (j k : Nat), k + j = 9 → 0 ≤ k → rr_J Z 3 0 0 (rr_MQ Z 0 0 (some (m_ones x 9)) W_E) 4 [(0, .int x), (1, .int (m_ones x k)), (2, .int (nI k))] [] W_E := by
    intro j
    induction j with
    | zero =>
      intro k hk4 hlo4
      refine rr_go hC bk_X11_ones_4_7 (l' := [(0, .int x), (1, .int (m_ones x k)), (2, .int (nI k))]) (st' := [.int 9, .int (nI k)]) (w' := W_E) rfl ?_
      refine rr_icmp_ge hC (off := 17) (tgt := 24) (by decide +kernel) (fun h7 => ?_) (fun h7 => by rw [rr_ln_le (a := 9) (by omega) (by omega)] at h7; omega)
      rw [rr_ln_le (a := 9) (by omega) (by omega)] at h7
      refine rr_go hC bk_X11_ones_24_25 (l' := [(0, .int x), (1, .int (m_ones x k)), (2, .int (nI k))]) (st' := [.int (m_ones x k)]) (w' := W_E) rfl ?_
      exact rr_reti hC (by decide +kernel) (by rw [show k = 9 by omega]) (by rfl) ⟨Nat.zero_le _, Nat.zero_le _⟩
    | succ j ih =>
      intro k hk4 hlo4
      refine rr_go hC bk_X11_ones_4_7 (l' := [(0, .int x), (1, .int (m_ones x k)), (2, .int (nI k))]) (st' := [.int 9, .int (nI k)]) (w' := W_E) rfl ?_
      refine rr_icmp_ge hC (off := 17) (tgt := 24) (by decide +kernel) (fun h7 => by rw [rr_ln_le (a := 9) (by omega) (by omega)] at h7; omega) (fun h7 => ?_)
      rw [rr_ln_le (a := 9) (by omega) (by omega)] at h7
      refine rr_go hC bk_X11_ones_10_4 (l' := [(0, .int x), (1, .int ((m_ones x k) + ((x >>> (nI k &&& 31)) &&& 1))), (2, .int ((nI k) + 1))]) (st' := []) (w' := W_E) rfl ?_
      rw [show ((nI k) + 1 : Int32) = nI (k + 1) from nI_add k 1]
      exact rr_cast (l' := [(0, .int x), (1, .int (m_ones x (k + 1))), (2, .int (nI (k + 1)))]) (by rfl) rfl (w' := W_E) (by rfl) (ih (k + 1) (by omega) (by omega))
  exact rr_cast (l' := [(0, .int x), (1, .int (m_ones x 0)), (2, .int (nI 0))]) (by first | rfl | (rfl)) rfl (w' := W_E) (by rfl) (lp4 (9 - 0) 0 (by omega) (Nat.le_refl _))
theorem bk_X11_many_0_4 : rr_chk mX11_many [(.iconst 0, 0, 0, 0), (.istore_n 1, 0, 1, 0), (.iconst 0, 0, 0, 0), (.istore_n 2, 0, 2, 0)] 0 4 = true := by decide +kernel
theorem bk_X11_many_4_7 : rr_chk mX11_many [(.iload_n 2, 0, 2, 0), (.bipush 12, 12, 0, 0)] 4 7 = true := by decide +kernel
theorem bk_X11_many_24_25 : rr_chk mX11_many [(.iload_n 1, 0, 1, 0)] 24 25 = true := by decide +kernel
theorem bk_X11_many_10_4 : rr_chk mX11_many [(.iload_n 1, 0, 1, 0), (.iload_n 0, 0, 0, 0), (.iload_n 2, 0, 2, 0), (.ishr, 0, 0, 0), (.iconst 1, 1, 0, 0), (.iand, 0, 0, 0), (.iadd, 0, 0, 0), (.istore_n 1, 0, 1, 0), (.iinc 2 1, 1, 2, 0), (.goto (-17), 0, 0, 0)] 10 4 = true := by decide +kernel
set_option maxRecDepth 100000 in
set_option maxHeartbeats 4000000 in
theorem m_c_many (x : Int32) : rr_C mX11_many 0 [.int x] W_E 0 0 (some (m_ones x 12)) W_E := by
  refine rr_C.of (n := 1) fX11_many.1 rfl rfl (fun Z hC => ?_)
  show rr_J Z 3 0 0 (rr_MQ Z 0 0 (some (m_ones x 12)) W_E) 0 [(0, .int x)] [] W_E
  refine rr_go hC bk_X11_many_0_4 (l' := [(0, .int x), (1, .int 0), (2, .int 0)]) (st' := []) (w' := W_E) rfl ?_
  have lp4 : ∀ (j k : Nat), k + j = 12 → 0 ≤ k → rr_J Z 3 0 0 (rr_MQ Z 0 0 (some (m_ones x 12)) W_E) 4 [(0, .int x), (1, .int (m_ones x k)), (2, .int (nI k))] [] W_E := by
    intro j
    induction j with
    | zero =>
      intro k hk4 hlo4
      refine rr_go hC bk_X11_many_4_7 (l' := [(0, .int x), (1, .int (m_ones x k)), (2, .int (nI k))]) (st' := [.int 12, .int (nI k)]) (w' := W_E) rfl ?_
      refine rr_icmp_ge hC (off := 17) (tgt := 24) (by decide +kernel) (fun h7 => ?_) (fun h7 => by rw [rr_ln_le (a := 12) (by omega) (by omega)] at h7; omega)
      rw [rr_ln_le (a := 12) (by omega) (by omega)] at h7
      refine rr_go hC bk_X11_many_24_25 (l' := [(0, .int x), (1, .int (m_ones x k)), (2, .int (nI k))]) (st' := [.int (m_ones x k)]) (w' := W_E) rfl ?_
      exact rr_reti hC (by decide +kernel) (by rw [show k = 12 by omega]) (by rfl) ⟨Nat.zero_le _, Nat.zero_le _⟩
    | succ j ih =>
      intro k hk4 hlo4
      refine rr_go hC bk_X11_many_4_7 (l' := [(0, .int x), (1, .int (m_ones x k)), (2, .int (nI k))]) (st' := [.int 12, .int (nI k)]) (w' := W_E) rfl ?_
      refine rr_icmp_ge hC (off := 17) (tgt := 24) (by decide +kernel) (fun h7 => by rw [rr_ln_le (a := 12) (by omega) (by omega)] at h7; omega) (fun h7 => ?_)
      rw [rr_ln_le (a := 12) (by omega) (by omega)] at h7
      refine rr_go hC bk_X11_many_10_4 (l' := [(0, .int x), (1, .int ((m_ones x k) + ((x >>> (nI k &&& 31)) &&& 1))), (2, .int ((nI k) + 1))]) (st' := []) (w' := W_E) rfl ?_
      rw [show ((nI k) + 1 : Int32) = nI (k + 1) from nI_add k 1]
      exact rr_cast (l' := [(0, .int x), (1, .int (m_ones x (k + 1))), (2, .int (nI (k + 1)))]) (by rfl) rfl (w' := W_E) (by rfl) (ih (k + 1) (by omega) (by omega))
  exact rr_cast (l' := [(0, .int x), (1, .int (m_ones x 0)), (2, .int (nI 0))]) (by first | rfl | (rfl)) rfl (w' := W_E) (by rfl) (lp4 (12 - 0) 0 (by omega) (Nat.le_refl _))
