/-! the model's rows: goes, writes, clauseIn, sweeps, copies -/
def p_sw (q : p_Q) : Nat → p_Q
  | 0 => q
  | k + 1 => p_rb (p_sw q k) k
def m_swc (q : p_Q) : Nat → Nat
  | 0 => 0
  | k + 1 => if 0 < (p_sw q k).2.2.2.2 0 k + 1 then m_swc q k + 1 else m_swc q k
theorem m_swc_le (q : p_Q) (n : Nat) : m_swc q n ≤ n := by
  induction n with
  | zero => exact Nat.le_refl _
  | succ n ih =>
    simp only [m_swc]
    split <;> omega
theorem m_cpy_s (f g : Nat → Int32) (a b k : Nat) : upd (va_cpy f g a b k) (b + k) (f (a + k)) = va_cpy f g a b (k + 1) := by
  funext i
  by_cases e : i = b + k
  · subst e
    rw [pk_us, pk_cpy_in (by omega) (by omega), show a + (b + k - b) = a + k by omega]
  · rw [pk_un e]
    by_cases e2 : b ≤ i ∧ i < b + k
    · rw [pk_cpy_in e2.1 e2.2, pk_cpy_in e2.1 (by omega)]
    · rw [pk_cpy_out (by omega), pk_cpy_out (by omega)]
theorem m_cpy_0 (f g : Nat → Int32) (a b : Nat) : va_cpy f g a b 0 = g := by
  funext i
  rw [pk_cpy_out (by omega)]
def W_C4_4 (P0 : Nat → Nat → Int32) (P1 : Nat → Nat → Int32) : rr_A := [.inl (true, 4, P0 0), .inl (true, 4, P1 0)]
def W_C12_12 (P0 : Nat → Nat → Int32) (P1 : Nat → Nat → Int32) : rr_A := [.inl (true, 12, P0 0), .inl (true, 12, P1 0)]
def W_C9_9 (P0 : Nat → Nat → Int32) (P1 : Nat → Nat → Int32) : rr_A := [.inl (true, 9, P0 0), .inl (true, 9, P1 0)]
def W_C24_24 (P0 : Nat → Nat → Int32) (P1 : Nat → Nat → Int32) : rr_A := [.inl (true, 24, P0 0), .inl (true, 24, P1 0)]
def W_C22_660 (P0 : Nat → Nat → Int32) (P1 : Nat → Nat → Int32) : rr_A := [.inl (true, 22, P0 0), .inl (true, 660, P1 0)]
def W_C660_22 (P0 : Nat → Nat → Int32) (P1 : Nat → Nat → Int32) : rr_A := [.inl (true, 660, P0 0), .inl (true, 22, P1 0)]
def W_C22_22 (P0 : Nat → Nat → Int32) (P1 : Nat → Nat → Int32) : rr_A := [.inl (true, 22, P0 0), .inl (true, 22, P1 0)]
def W_C22_44 (P0 : Nat → Nat → Int32) (P1 : Nat → Nat → Int32) : rr_A := [.inl (true, 22, P0 0), .inl (true, 44, P1 0)]
def W_C44_22 (P0 : Nat → Nat → Int32) (P1 : Nat → Nat → Int32) : rr_A := [.inl (true, 44, P0 0), .inl (true, 22, P1 0)]
theorem bk_X11_copies_0_3 : rr_chk mX11_copies [(.iconst 0, 0, 0, 0), (.istore 5, 0, 5, 0)] 0 3 = true := by decide +kernel
theorem bk_X11_copies_3_7 : rr_chk mX11_copies [(.iload 5, 0, 5, 0), (.iload 4, 0, 4, 0)] 3 7 = true := by decide +kernel
theorem bk_X11_copies_10_20 : rr_chk mX11_copies [(.aload_n 2, 0, 2, 0), (.iload_n 3, 0, 3, 0), (.iload 5, 0, 5, 0), (.iadd, 0, 0, 0), (.aload_n 0, 0, 0, 0), (.iload_n 1, 0, 1, 0), (.iload 5, 0, 5, 0), (.iadd, 0, 0, 0)] 10 20 = true := by decide +kernel
theorem bk_X11_copies_22_3 : rr_chk mX11_copies [(.iinc 5 1, 1, 5, 0), (.goto (-22), 0, 0, 0)] 22 3 = true := by decide +kernel
set_option maxRecDepth 100000 in
set_option maxHeartbeats 4000000 in
theorem m_copies4_4 (A B : Nat → Nat → Int32) (x y n : Nat) (hx : x + n ≤ 4) (hy : y + n ≤ 4) : rr_C mX11_copies 0 [.ref 0, .int (nI x), .ref 1, .int (nI y), .int (nI n)] (W_C4_4 A B) 0 0 none (W_C4_4 A (va_up B 0 (va_cpy (A 0) (B 0) x y n))) := by
  refine rr_C.of (n := 5) fX11_copies.1 rfl rfl (fun Z hC => ?_)
  show rr_J Z 6 0 0 (rr_MQ Z 0 0 none (W_C4_4 A (va_up B 0 (va_cpy (A 0) (B 0) x y n)))) 0 [(0, .ref 0), (1, .int (nI x)), (2, .ref 1), (3, .int (nI y)), (4, .int (nI n))] [] (W_C4_4 A B)
  refine rr_go hC bk_X11_copies_0_3 (l' := [(0, .ref 0), (1, .int (nI x)), (2, .ref 1), (3, .int (nI y)), (4, .int (nI n)), (5, .int 0)]) (st' := []) (w' := (W_C4_4 A B)) rfl ?_
  have lp3 : ∀ (j k : Nat), k + j = n → 0 ≤ k → rr_J Z 6 0 0 (rr_MQ Z 0 0 none (W_C4_4 A (va_up B 0 (va_cpy (A 0) (B 0) x y n)))) 3 [(0, .ref 0), (1, .int (nI x)), (2, .ref 1), (3, .int (nI y)), (4, .int (nI n)), (5, .int (nI k))] [] (W_C4_4 A (va_up B 0 (va_cpy (A 0) (B 0) x y k))) := by
    intro j
    induction j with
    | zero =>
      intro k hk3 hlo3
      refine rr_go hC bk_X11_copies_3_7 (l' := [(0, .ref 0), (1, .int (nI x)), (2, .ref 1), (3, .int (nI y)), (4, .int (nI n)), (5, .int (nI k))]) (st' := [.int (nI n), .int (nI k)]) (w' := (W_C4_4 A (va_up B 0 (va_cpy (A 0) (B 0) x y k)))) rfl ?_
      refine rr_icmp_ge hC (off := 21) (tgt := 28) (by decide +kernel) (fun h7 => ?_) (fun h7 => by rw [rr_nn_le (by omega) (by omega)] at h7; omega)
      rw [rr_nn_le (by omega) (by omega)] at h7
      exact rr_retv hC (by decide +kernel) (by rw [show k = n by omega]) ⟨Nat.zero_le _, Nat.zero_le _⟩
    | succ j ih =>
      intro k hk3 hlo3
      refine rr_go hC bk_X11_copies_3_7 (l' := [(0, .ref 0), (1, .int (nI x)), (2, .ref 1), (3, .int (nI y)), (4, .int (nI n)), (5, .int (nI k))]) (st' := [.int (nI n), .int (nI k)]) (w' := (W_C4_4 A (va_up B 0 (va_cpy (A 0) (B 0) x y k)))) rfl ?_
      refine rr_icmp_ge hC (off := 21) (tgt := 28) (by decide +kernel) (fun h7 => by rw [rr_nn_le (by omega) (by omega)] at h7; omega) (fun h7 => ?_)
      rw [rr_nn_le (by omega) (by omega)] at h7
      refine rr_go hC bk_X11_copies_10_20 (l' := [(0, .ref 0), (1, .int (nI x)), (2, .ref 1), (3, .int (nI y)), (4, .int (nI n)), (5, .int (nI k))]) (st' := [.int ((nI x) + (nI k)), .ref 0, .int ((nI y) + (nI k)), .ref 1]) (w' := (W_C4_4 A (va_up B 0 (va_cpy (A 0) (B 0) x y k)))) rfl ?_
      rw [show ((nI x) + (nI k) : Int32) = nI (x + k) from nI_add x k]
      rw [show ((nI y) + (nI k) : Int32) = nI (y + k) from nI_add y k]
      refine rr_iald hC (x + k) (by decide +kernel) rfl rfl (by omega) rfl ?_
      show rr_J Z 6 0 0 _ 21 [(0, .ref 0), (1, .int (nI x)), (2, .ref 1), (3, .int (nI y)), (4, .int (nI n)), (5, .int (nI k))] [.int (A 0 (x + k)), .int (nI (y + k)), .ref 1] (W_C4_4 A (va_up B 0 (va_cpy (A 0) (B 0) x y k)))
      refine rr_iast hC (y + k) (by decide +kernel) rfl rfl (by omega) rfl (w' := (W_C4_4 A (va_up B 0 (upd (va_cpy (A 0) (B 0) x y k) (y + k) (A 0 (x + k)))))) rfl ?_
      show rr_J Z 6 0 0 _ 22 [(0, .ref 0), (1, .int (nI x)), (2, .ref 1), (3, .int (nI y)), (4, .int (nI n)), (5, .int (nI k))] [] (W_C4_4 A (va_up B 0 (upd (va_cpy (A 0) (B 0) x y k) (y + k) (A 0 (x + k)))))
      refine rr_go hC bk_X11_copies_22_3 (l' := [(0, .ref 0), (1, .int (nI x)), (2, .ref 1), (3, .int (nI y)), (4, .int (nI n)), (5, .int ((nI k) + 1))]) (st' := []) (w' := (W_C4_4 A (va_up B 0 (upd (va_cpy (A 0) (B 0) x y k) (y + k) (A 0 (x + k)))))) rfl ?_
      rw [show ((nI k) + 1 : Int32) = nI (k + 1) from nI_add k 1]
      exact rr_cast (l' := [(0, .ref 0), (1, .int (nI x)), (2, .ref 1), (3, .int (nI y)), (4, .int (nI n)), (5, .int (nI (k + 1)))]) (by rfl) rfl (w' := (W_C4_4 A (va_up B 0 (va_cpy (A 0) (B 0) x y (k + 1))))) (by rw [← m_cpy_s]) (ih (k + 1) (by omega) (by omega))
  exact rr_cast (l' := [(0, .ref 0), (1, .int (nI x)), (2, .ref 1), (3, .int (nI y)), (4, .int (nI n)), (5, .int (nI 0))]) (by first | rfl | (rfl)) rfl (w' := (W_C4_4 A (va_up B 0 (va_cpy (A 0) (B 0) x y 0)))) (by rw [m_cpy_0]; rfl) (lp3 (n - 0) 0 (by omega) (Nat.le_refl _))
set_option maxRecDepth 100000 in
set_option maxHeartbeats 4000000 in
theorem m_copies12_12 (A B : Nat → Nat → Int32) (x y n : Nat) (hx : x + n ≤ 12) (hy : y + n ≤ 12) : rr_C mX11_copies 0 [.ref 0, .int (nI x), .ref 1, .int (nI y), .int (nI n)] (W_C12_12 A B) 0 0 none (W_C12_12 A (va_up B 0 (va_cpy (A 0) (B 0) x y n))) := by
  refine rr_C.of (n := 5) fX11_copies.1 rfl rfl (fun Z hC => ?_)
  show rr_J Z 6 0 0 (rr_MQ Z 0 0 none (W_C12_12 A (va_up B 0 (va_cpy (A 0) (B 0) x y n)))) 0 [(0, .ref 0), (1, .int (nI x)), (2, .ref 1), (3, .int (nI y)), (4, .int (nI n))] [] (W_C12_12 A B)
  refine rr_go hC bk_X11_copies_0_3 (l' := [(0, .ref 0), (1, .int (nI x)), (2, .ref 1), (3, .int (nI y)), (4, .int (nI n)), (5, .int 0)]) (st' := []) (w' := (W_C12_12 A B)) rfl ?_
  have lp3 : ∀ (j k : Nat), k + j = n → 0 ≤ k → rr_J Z 6 0 0 (rr_MQ Z 0 0 none (W_C12_12 A (va_up B 0 (va_cpy (A 0) (B 0) x y n)))) 3 [(0, .ref 0), (1, .int (nI x)), (2, .ref 1), (3, .int (nI y)), (4, .int (nI n)), (5, .int (nI k))] [] (W_C12_12 A (va_up B 0 (va_cpy (A 0) (B 0) x y k))) := by
    intro j
    induction j with
    | zero =>
      intro k hk3 hlo3
      refine rr_go hC bk_X11_copies_3_7 (l' := [(0, .ref 0), (1, .int (nI x)), (2, .ref 1), (3, .int (nI y)), (4, .int (nI n)), (5, .int (nI k))]) (st' := [.int (nI n), .int (nI k)]) (w' := (W_C12_12 A (va_up B 0 (va_cpy (A 0) (B 0) x y k)))) rfl ?_
      refine rr_icmp_ge hC (off := 21) (tgt := 28) (by decide +kernel) (fun h7 => ?_) (fun h7 => by rw [rr_nn_le (by omega) (by omega)] at h7; omega)
      rw [rr_nn_le (by omega) (by omega)] at h7
      exact rr_retv hC (by decide +kernel) (by rw [show k = n by omega]) ⟨Nat.zero_le _, Nat.zero_le _⟩
    | succ j ih =>
      intro k hk3 hlo3
      refine rr_go hC bk_X11_copies_3_7 (l' := [(0, .ref 0), (1, .int (nI x)), (2, .ref 1), (3, .int (nI y)), (4, .int (nI n)), (5, .int (nI k))]) (st' := [.int (nI n), .int (nI k)]) (w' := (W_C12_12 A (va_up B 0 (va_cpy (A 0) (B 0) x y k)))) rfl ?_
      refine rr_icmp_ge hC (off := 21) (tgt := 28) (by decide +kernel) (fun h7 => by rw [rr_nn_le (by omega) (by omega)] at h7; omega) (fun h7 => ?_)
      rw [rr_nn_le (by omega) (by omega)] at h7
      refine rr_go hC bk_X11_copies_10_20 (l' := [(0, .ref 0), (1, .int (nI x)), (2, .ref 1), (3, .int (nI y)), (4, .int (nI n)), (5, .int (nI k))]) (st' := [.int ((nI x) + (nI k)), .ref 0, .int ((nI y) + (nI k)), .ref 1]) (w' := (W_C12_12 A (va_up B 0 (va_cpy (A 0) (B 0) x y k)))) rfl ?_
      rw [show ((nI x) + (nI k) : Int32) = nI (x + k) from nI_add x k]
      rw [show ((nI y) + (nI k) : Int32) = nI (y + k) from nI_add y k]
      refine rr_iald hC (x + k) (by decide +kernel) rfl rfl (by omega) rfl ?_
      show rr_J Z 6 0 0 _ 21 [(0, .ref 0), (1, .int (nI x)), (2, .ref 1), (3, .int (nI y)), (4, .int (nI n)), (5, .int (nI k))] [.int (A 0 (x + k)), .int (nI (y + k)), .ref 1] (W_C12_12 A (va_up B 0 (va_cpy (A 0) (B 0) x y k)))
      refine rr_iast hC (y + k) (by decide +kernel) rfl rfl (by omega) rfl (w' := (W_C12_12 A (va_up B 0 (upd (va_cpy (A 0) (B 0) x y k) (y + k) (A 0 (x + k)))))) rfl ?_
      show rr_J Z 6 0 0 _ 22 [(0, .ref 0), (1, .int (nI x)), (2, .ref 1), (3, .int (nI y)), (4, .int (nI n)), (5, .int (nI k))] [] (W_C12_12 A (va_up B 0 (upd (va_cpy (A 0) (B 0) x y k) (y + k) (A 0 (x + k)))))
      refine rr_go hC bk_X11_copies_22_3 (l' := [(0, .ref 0), (1, .int (nI x)), (2, .ref 1), (3, .int (nI y)), (4, .int (nI n)), (5, .int ((nI k) + 1))]) (st' := []) (w' := (W_C12_12 A (va_up B 0 (upd (va_cpy (A 0) (B 0) x y k) (y + k) (A 0 (x + k)))))) rfl ?_
      rw [show ((nI k) + 1 : Int32) = nI (k + 1) from nI_add k 1]
      exact rr_cast (l' := [(0, .ref 0), (1, .int (nI x)), (2, .ref 1), (3, .int (nI y)), (4, .int (nI n)), (5, .int (nI (k + 1)))]) (by rfl) rfl (w' := (W_C12_12 A (va_up B 0 (va_cpy (A 0) (B 0) x y (k + 1))))) (by rw [← m_cpy_s]) (ih (k + 1) (by omega) (by omega))
  exact rr_cast (l' := [(0, .ref 0), (1, .int (nI x)), (2, .ref 1), (3, .int (nI y)), (4, .int (nI n)), (5, .int (nI 0))]) (by first | rfl | (rfl)) rfl (w' := (W_C12_12 A (va_up B 0 (va_cpy (A 0) (B 0) x y 0)))) (by rw [m_cpy_0]; rfl) (lp3 (n - 0) 0 (by omega) (Nat.le_refl _))
set_option maxRecDepth 100000 in
set_option maxHeartbeats 4000000 in
theorem m_copies9_9 (A B : Nat → Nat → Int32) (x y n : Nat) (hx : x + n ≤ 9) (hy : y + n ≤ 9) : rr_C mX11_copies 0 [.ref 0, .int (nI x), .ref 1, .int (nI y), .int (nI n)] (W_C9_9 A B) 0 0 none (W_C9_9 A (va_up B 0 (va_cpy (A 0) (B 0) x y n))) := by
  refine rr_C.of (n := 5) fX11_copies.1 rfl rfl (fun Z hC => ?_)
  show rr_J Z 6 0 0 (rr_MQ Z 0 0 none (W_C9_9 A (va_up B 0 (va_cpy (A 0) (B 0) x y n)))) 0 [(0, .ref 0), (1, .int (nI x)), (2, .ref 1), (3, .int (nI y)), (4, .int (nI n))] [] (W_C9_9 A B)
  refine rr_go hC bk_X11_copies_0_3 (l' := [(0, .ref 0), (1, .int (nI x)), (2, .ref 1), (3, .int (nI y)), (4, .int (nI n)), (5, .int 0)]) (st' := []) (w' := (W_C9_9 A B)) rfl ?_
  have lp3 : ∀ (j k : Nat), k + j = n → 0 ≤ k → rr_J Z 6 0 0 (rr_MQ Z 0 0 none (W_C9_9 A (va_up B 0 (va_cpy (A 0) (B 0) x y n)))) 3 [(0, .ref 0), (1, .int (nI x)), (2, .ref 1), (3, .int (nI y)), (4, .int (nI n)), (5, .int (nI k))] [] (W_C9_9 A (va_up B 0 (va_cpy (A 0) (B 0) x y k))) := by
    intro j
    induction j with
    | zero =>
      intro k hk3 hlo3
      refine rr_go hC bk_X11_copies_3_7 (l' := [(0, .ref 0), (1, .int (nI x)), (2, .ref 1), (3, .int (nI y)), (4, .int (nI n)), (5, .int (nI k))]) (st' := [.int (nI n), .int (nI k)]) (w' := (W_C9_9 A (va_up B 0 (va_cpy (A 0) (B 0) x y k)))) rfl ?_
      refine rr_icmp_ge hC (off := 21) (tgt := 28) (by decide +kernel) (fun h7 => ?_) (fun h7 => by rw [rr_nn_le (by omega) (by omega)] at h7; omega)
      rw [rr_nn_le (by omega) (by omega)] at h7
      exact rr_retv hC (by decide +kernel) (by rw [show k = n by omega]) ⟨Nat.zero_le _, Nat.zero_le _⟩
    | succ j ih =>
      intro k hk3 hlo3
      refine rr_go hC bk_X11_copies_3_7 (l' := [(0, .ref 0), (1, .int (nI x)), (2, .ref 1), (3, .int (nI y)), (4, .int (nI n)), (5, .int (nI k))]) (st' := [.int (nI n), .int (nI k)]) (w' := (W_C9_9 A (va_up B 0 (va_cpy (A 0) (B 0) x y k)))) rfl ?_
      refine rr_icmp_ge hC (off := 21) (tgt := 28) (by decide +kernel) (fun h7 => by rw [rr_nn_le (by omega) (by omega)] at h7; omega) (fun h7 => ?_)
      rw [rr_nn_le (by omega) (by omega)] at h7
      refine rr_go hC bk_X11_copies_10_20 (l' := [(0, .ref 0), (1, .int (nI x)), (2, .ref 1), (3, .int (nI y)), (4, .int (nI n)), (5, .int (nI k))]) (st' := [.int ((nI x) + (nI k)), .ref 0, .int ((nI y) + (nI k)), .ref 1]) (w' := (W_C9_9 A (va_up B 0 (va_cpy (A 0) (B 0) x y k)))) rfl ?_
      rw [show ((nI x) + (nI k) : Int32) = nI (x + k) from nI_add x k]
      rw [show ((nI y) + (nI k) : Int32) = nI (y + k) from nI_add y k]
      refine rr_iald hC (x + k) (by decide +kernel) rfl rfl (by omega) rfl ?_
      show rr_J Z 6 0 0 _ 21 [(0, .ref 0), (1, .int (nI x)), (2, .ref 1), (3, .int (nI y)), (4, .int (nI n)), (5, .int (nI k))] [.int (A 0 (x + k)), .int (nI (y + k)), .ref 1] (W_C9_9 A (va_up B 0 (va_cpy (A 0) (B 0) x y k)))
      refine rr_iast hC (y + k) (by decide +kernel) rfl rfl (by omega) rfl (w' := (W_C9_9 A (va_up B 0 (upd (va_cpy (A 0) (B 0) x y k) (y + k) (A 0 (x + k)))))) rfl ?_
      show rr_J Z 6 0 0 _ 22 [(0, .ref 0), (1, .int (nI x)), (2, .ref 1), (3, .int (nI y)), (4, .int (nI n)), (5, .int (nI k))] [] (W_C9_9 A (va_up B 0 (upd (va_cpy (A 0) (B 0) x y k) (y + k) (A 0 (x + k)))))
      refine rr_go hC bk_X11_copies_22_3 (l' := [(0, .ref 0), (1, .int (nI x)), (2, .ref 1), (3, .int (nI y)), (4, .int (nI n)), (5, .int ((nI k) + 1))]) (st' := []) (w' := (W_C9_9 A (va_up B 0 (upd (va_cpy (A 0) (B 0) x y k) (y + k) (A 0 (x + k)))))) rfl ?_
      rw [show ((nI k) + 1 : Int32) = nI (k + 1) from nI_add k 1]
      exact rr_cast (l' := [(0, .ref 0), (1, .int (nI x)), (2, .ref 1), (3, .int (nI y)), (4, .int (nI n)), (5, .int (nI (k + 1)))]) (by rfl) rfl (w' := (W_C9_9 A (va_up B 0 (va_cpy (A 0) (B 0) x y (k + 1))))) (by rw [← m_cpy_s]) (ih (k + 1) (by omega) (by omega))
  exact rr_cast (l' := [(0, .ref 0), (1, .int (nI x)), (2, .ref 1), (3, .int (nI y)), (4, .int (nI n)), (5, .int (nI 0))]) (by first | rfl | (rfl)) rfl (w' := (W_C9_9 A (va_up B 0 (va_cpy (A 0) (B 0) x y 0)))) (by rw [m_cpy_0]; rfl) (lp3 (n - 0) 0 (by omega) (Nat.le_refl _))
set_option maxRecDepth 100000 in
set_option maxHeartbeats 4000000 in
theorem m_copies24_24 (A B : Nat → Nat → Int32) (x y n : Nat) (hx : x + n ≤ 24) (hy : y + n ≤ 24) : rr_C mX11_copies 0 [.ref 0, .int (nI x), .ref 1, .int (nI y), .int (nI n)] (W_C24_24 A B) 0 0 none (W_C24_24 A (va_up B 0 (va_cpy (A 0) (B 0) x y n))) := by
  refine rr_C.of (n := 5) fX11_copies.1 rfl rfl (fun Z hC => ?_)
  show rr_J Z 6 0 0 (rr_MQ Z 0 0 none (W_C24_24 A (va_up B 0 (va_cpy (A 0) (B 0) x y n)))) 0 [(0, .ref 0), (1, .int (nI x)), (2, .ref 1), (3, .int (nI y)), (4, .int (nI n))] [] (W_C24_24 A B)
  refine rr_go hC bk_X11_copies_0_3 (l' := [(0, .ref 0), (1, .int (nI x)), (2, .ref 1), (3, .int (nI y)), (4, .int (nI n)), (5, .int 0)]) (st' := []) (w' := (W_C24_24 A B)) rfl ?_
  have lp3 : ∀ (j k : Nat), k + j = n → 0 ≤ k → rr_J Z 6 0 0 (rr_MQ Z 0 0 none (W_C24_24 A (va_up B 0 (va_cpy (A 0) (B 0) x y n)))) 3 [(0, .ref 0), (1, .int (nI x)), (2, .ref 1), (3, .int (nI y)), (4, .int (nI n)), (5, .int (nI k))] [] (W_C24_24 A (va_up B 0 (va_cpy (A 0) (B 0) x y k))) := by
    intro j
    induction j with
    | zero =>
      intro k hk3 hlo3
      refine rr_go hC bk_X11_copies_3_7 (l' := [(0, .ref 0), (1, .int (nI x)), (2, .ref 1), (3, .int (nI y)), (4, .int (nI n)), (5, .int (nI k))]) (st' := [.int (nI n), .int (nI k)]) (w' := (W_C24_24 A (va_up B 0 (va_cpy (A 0) (B 0) x y k)))) rfl ?_
      refine rr_icmp_ge hC (off := 21) (tgt := 28) (by decide +kernel) (fun h7 => ?_) (fun h7 => by rw [rr_nn_le (by omega) (by omega)] at h7; omega)
      rw [rr_nn_le (by omega) (by omega)] at h7
      exact rr_retv hC (by decide +kernel) (by rw [show k = n by omega]) ⟨Nat.zero_le _, Nat.zero_le _⟩
    | succ j ih =>
      intro k hk3 hlo3
      refine rr_go hC bk_X11_copies_3_7 (l' := [(0, .ref 0), (1, .int (nI x)), (2, .ref 1), (3, .int (nI y)), (4, .int (nI n)), (5, .int (nI k))]) (st' := [.int (nI n), .int (nI k)]) (w' := (W_C24_24 A (va_up B 0 (va_cpy (A 0) (B 0) x y k)))) rfl ?_
      refine rr_icmp_ge hC (off := 21) (tgt := 28) (by decide +kernel) (fun h7 => by rw [rr_nn_le (by omega) (by omega)] at h7; omega) (fun h7 => ?_)
      rw [rr_nn_le (by omega) (by omega)] at h7
      refine rr_go hC bk_X11_copies_10_20 (l' := [(0, .ref 0), (1, .int (nI x)), (2, .ref 1), (3, .int (nI y)), (4, .int (nI n)), (5, .int (nI k))]) (st' := [.int ((nI x) + (nI k)), .ref 0, .int ((nI y) + (nI k)), .ref 1]) (w' := (W_C24_24 A (va_up B 0 (va_cpy (A 0) (B 0) x y k)))) rfl ?_
      rw [show ((nI x) + (nI k) : Int32) = nI (x + k) from nI_add x k]
      rw [show ((nI y) + (nI k) : Int32) = nI (y + k) from nI_add y k]
      refine rr_iald hC (x + k) (by decide +kernel) rfl rfl (by omega) rfl ?_
      show rr_J Z 6 0 0 _ 21 [(0, .ref 0), (1, .int (nI x)), (2, .ref 1), (3, .int (nI y)), (4, .int (nI n)), (5, .int (nI k))] [.int (A 0 (x + k)), .int (nI (y + k)), .ref 1] (W_C24_24 A (va_up B 0 (va_cpy (A 0) (B 0) x y k)))
      refine rr_iast hC (y + k) (by decide +kernel) rfl rfl (by omega) rfl (w' := (W_C24_24 A (va_up B 0 (upd (va_cpy (A 0) (B 0) x y k) (y + k) (A 0 (x + k)))))) rfl ?_
      show rr_J Z 6 0 0 _ 22 [(0, .ref 0), (1, .int (nI x)), (2, .ref 1), (3, .int (nI y)), (4, .int (nI n)), (5, .int (nI k))] [] (W_C24_24 A (va_up B 0 (upd (va_cpy (A 0) (B 0) x y k) (y + k) (A 0 (x + k)))))
      refine rr_go hC bk_X11_copies_22_3 (l' := [(0, .ref 0), (1, .int (nI x)), (2, .ref 1), (3, .int (nI y)), (4, .int (nI n)), (5, .int ((nI k) + 1))]) (st' := []) (w' := (W_C24_24 A (va_up B 0 (upd (va_cpy (A 0) (B 0) x y k) (y + k) (A 0 (x + k)))))) rfl ?_
      rw [show ((nI k) + 1 : Int32) = nI (k + 1) from nI_add k 1]
      exact rr_cast (l' := [(0, .ref 0), (1, .int (nI x)), (2, .ref 1), (3, .int (nI y)), (4, .int (nI n)), (5, .int (nI (k + 1)))]) (by rfl) rfl (w' := (W_C24_24 A (va_up B 0 (va_cpy (A 0) (B 0) x y (k + 1))))) (by rw [← m_cpy_s]) (ih (k + 1) (by omega) (by omega))
  exact rr_cast (l' := [(0, .ref 0), (1, .int (nI x)), (2, .ref 1), (3, .int (nI y)), (4, .int (nI n)), (5, .int (nI 0))]) (by first | rfl | (rfl)) rfl (w' := (W_C24_24 A (va_up B 0 (va_cpy (A 0) (B 0) x y 0)))) (by rw [m_cpy_0]; rfl) (lp3 (n - 0) 0 (by omega) (Nat.le_refl _))
set_option maxRecDepth 100000 in
set_option maxHeartbeats 4000000 in
theorem m_copies22_660 (A B : Nat → Nat → Int32) (x y n : Nat) (hx : x + n ≤ 22) (hy : y + n ≤ 660) : rr_C mX11_copies 0 [.ref 0, .int (nI x), .ref 1, .int (nI y), .int (nI n)] (W_C22_660 A B) 0 0 none (W_C22_660 A (va_up B 0 (va_cpy (A 0) (B 0) x y n))) := by
  refine rr_C.of (n := 5) fX11_copies.1 rfl rfl (fun Z hC => ?_)
  show rr_J Z 6 0 0 (rr_MQ Z 0 0 none (W_C22_660 A (va_up B 0 (va_cpy (A 0) (B 0) x y n)))) 0 [(0, .ref 0), (1, .int (nI x)), (2, .ref 1), (3, .int (nI y)), (4, .int (nI n))] [] (W_C22_660 A B)
  refine rr_go hC bk_X11_copies_0_3 (l' := [(0, .ref 0), (1, .int (nI x)), (2, .ref 1), (3, .int (nI y)), (4, .int (nI n)), (5, .int 0)]) (st' := []) (w' := (W_C22_660 A B)) rfl ?_
  have lp3 : ∀ (j k : Nat), k + j = n → 0 ≤ k → rr_J Z 6 0 0 (rr_MQ Z 0 0 none (W_C22_660 A (va_up B 0 (va_cpy (A 0) (B 0) x y n)))) 3 [(0, .ref 0), (1, .int (nI x)), (2, .ref 1), (3, .int (nI y)), (4, .int (nI n)), (5, .int (nI k))] [] (W_C22_660 A (va_up B 0 (va_cpy (A 0) (B 0) x y k))) := by
    intro j
    induction j with
    | zero =>
      intro k hk3 hlo3
      refine rr_go hC bk_X11_copies_3_7 (l' := [(0, .ref 0), (1, .int (nI x)), (2, .ref 1), (3, .int (nI y)), (4, .int (nI n)), (5, .int (nI k))]) (st' := [.int (nI n), .int (nI k)]) (w' := (W_C22_660 A (va_up B 0 (va_cpy (A 0) (B 0) x y k)))) rfl ?_
      refine rr_icmp_ge hC (off := 21) (tgt := 28) (by decide +kernel) (fun h7 => ?_) (fun h7 => by rw [rr_nn_le (by omega) (by omega)] at h7; omega)
      rw [rr_nn_le (by omega) (by omega)] at h7
      exact rr_retv hC (by decide +kernel) (by rw [show k = n by omega]) ⟨Nat.zero_le _, Nat.zero_le _⟩
    | succ j ih =>
      intro k hk3 hlo3
      refine rr_go hC bk_X11_copies_3_7 (l' := [(0, .ref 0), (1, .int (nI x)), (2, .ref 1), (3, .int (nI y)), (4, .int (nI n)), (5, .int (nI k))]) (st' := [.int (nI n), .int (nI k)]) (w' := (W_C22_660 A (va_up B 0 (va_cpy (A 0) (B 0) x y k)))) rfl ?_
      refine rr_icmp_ge hC (off := 21) (tgt := 28) (by decide +kernel) (fun h7 => by rw [rr_nn_le (by omega) (by omega)] at h7; omega) (fun h7 => ?_)
      rw [rr_nn_le (by omega) (by omega)] at h7
      refine rr_go hC bk_X11_copies_10_20 (l' := [(0, .ref 0), (1, .int (nI x)), (2, .ref 1), (3, .int (nI y)), (4, .int (nI n)), (5, .int (nI k))]) (st' := [.int ((nI x) + (nI k)), .ref 0, .int ((nI y) + (nI k)), .ref 1]) (w' := (W_C22_660 A (va_up B 0 (va_cpy (A 0) (B 0) x y k)))) rfl ?_
      rw [show ((nI x) + (nI k) : Int32) = nI (x + k) from nI_add x k]
      rw [show ((nI y) + (nI k) : Int32) = nI (y + k) from nI_add y k]
      refine rr_iald hC (x + k) (by decide +kernel) rfl rfl (by omega) rfl ?_
      show rr_J Z 6 0 0 _ 21 [(0, .ref 0), (1, .int (nI x)), (2, .ref 1), (3, .int (nI y)), (4, .int (nI n)), (5, .int (nI k))] [.int (A 0 (x + k)), .int (nI (y + k)), .ref 1] (W_C22_660 A (va_up B 0 (va_cpy (A 0) (B 0) x y k)))
      refine rr_iast hC (y + k) (by decide +kernel) rfl rfl (by omega) rfl (w' := (W_C22_660 A (va_up B 0 (upd (va_cpy (A 0) (B 0) x y k) (y + k) (A 0 (x + k)))))) rfl ?_
      show rr_J Z 6 0 0 _ 22 [(0, .ref 0), (1, .int (nI x)), (2, .ref 1), (3, .int (nI y)), (4, .int (nI n)), (5, .int (nI k))] [] (W_C22_660 A (va_up B 0 (upd (va_cpy (A 0) (B 0) x y k) (y + k) (A 0 (x + k)))))
      refine rr_go hC bk_X11_copies_22_3 (l' := [(0, .ref 0), (1, .int (nI x)), (2, .ref 1), (3, .int (nI y)), (4, .int (nI n)), (5, .int ((nI k) + 1))]) (st' := []) (w' := (W_C22_660 A (va_up B 0 (upd (va_cpy (A 0) (B 0) x y k) (y + k) (A 0 (x + k)))))) rfl ?_
      rw [show ((nI k) + 1 : Int32) = nI (k + 1) from nI_add k 1]
      exact rr_cast (l' := [(0, .ref 0), (1, .int (nI x)), (2, .ref 1), (3, .int (nI y)), (4, .int (nI n)), (5, .int (nI (k + 1)))]) (by rfl) rfl (w' := (W_C22_660 A (va_up B 0 (va_cpy (A 0) (B 0) x y (k + 1))))) (by rw [← m_cpy_s]) (ih (k + 1) (by omega) (by omega))
  exact rr_cast (l' := [(0, .ref 0), (1, .int (nI x)), (2, .ref 1), (3, .int (nI y)), (4, .int (nI n)), (5, .int (nI 0))]) (by first | rfl | (rfl)) rfl (w' := (W_C22_660 A (va_up B 0 (va_cpy (A 0) (B 0) x y 0)))) (by rw [m_cpy_0]; rfl) (lp3 (n - 0) 0 (by omega) (Nat.le_refl _))
set_option maxRecDepth 100000 in
set_option maxHeartbeats 4000000 in
theorem m_copies660_22 (A B : Nat → Nat → Int32) (x y n : Nat) (hx : x + n ≤ 660) (hy : y + n ≤ 22) : rr_C mX11_copies 0 [.ref 0, .int (nI x), .ref 1, .int (nI y), .int (nI n)] (W_C660_22 A B) 0 0 none (W_C660_22 A (va_up B 0 (va_cpy (A 0) (B 0) x y n))) := by
  refine rr_C.of (n := 5) fX11_copies.1 rfl rfl (fun Z hC => ?_)
  show rr_J Z 6 0 0 (rr_MQ Z 0 0 none (W_C660_22 A (va_up B 0 (va_cpy (A 0) (B 0) x y n)))) 0 [(0, .ref 0), (1, .int (nI x)), (2, .ref 1), (3, .int (nI y)), (4, .int (nI n))] [] (W_C660_22 A B)
  refine rr_go hC bk_X11_copies_0_3 (l' := [(0, .ref 0), (1, .int (nI x)), (2, .ref 1), (3, .int (nI y)), (4, .int (nI n)), (5, .int 0)]) (st' := []) (w' := (W_C660_22 A B)) rfl ?_
  have lp3 : ∀ (j k : Nat), k + j = n → 0 ≤ k → rr_J Z 6 0 0 (rr_MQ Z 0 0 none (W_C660_22 A (va_up B 0 (va_cpy (A 0) (B 0) x y n)))) 3 [(0, .ref 0), (1, .int (nI x)), (2, .ref 1), (3, .int (nI y)), (4, .int (nI n)), (5, .int (nI k))] [] (W_C660_22 A (va_up B 0 (va_cpy (A 0) (B 0) x y k))) := by
    intro j
    induction j with
    | zero =>
      intro k hk3 hlo3
      refine rr_go hC bk_X11_copies_3_7 (l' := [(0, .ref 0), (1, .int (nI x)), (2, .ref 1), (3, .int (nI y)), (4, .int (nI n)), (5, .int (nI k))]) (st' := [.int (nI n), .int (nI k)]) (w' := (W_C660_22 A (va_up B 0 (va_cpy (A 0) (B 0) x y k)))) rfl ?_
      refine rr_icmp_ge hC (off := 21) (tgt := 28) (by decide +kernel) (fun h7 => ?_) (fun h7 => by rw [rr_nn_le (by omega) (by omega)] at h7; omega)
      rw [rr_nn_le (by omega) (by omega)] at h7
      exact rr_retv hC (by decide +kernel) (by rw [show k = n by omega]) ⟨Nat.zero_le _, Nat.zero_le _⟩
    | succ j ih =>
      intro k hk3 hlo3
      refine rr_go hC bk_X11_copies_3_7 (l' := [(0, .ref 0), (1, .int (nI x)), (2, .ref 1), (3, .int (nI y)), (4, .int (nI n)), (5, .int (nI k))]) (st' := [.int (nI n), .int (nI k)]) (w' := (W_C660_22 A (va_up B 0 (va_cpy (A 0) (B 0) x y k)))) rfl ?_
      refine rr_icmp_ge hC (off := 21) (tgt := 28) (by decide +kernel) (fun h7 => by rw [rr_nn_le (by omega) (by omega)] at h7; omega) (fun h7 => ?_)
      rw [rr_nn_le (by omega) (by omega)] at h7
      refine rr_go hC bk_X11_copies_10_20 (l' := [(0, .ref 0), (1, .int (nI x)), (2, .ref 1), (3, .int (nI y)), (4, .int (nI n)), (5, .int (nI k))]) (st' := [.int ((nI x) + (nI k)), .ref 0, .int ((nI y) + (nI k)), .ref 1]) (w' := (W_C660_22 A (va_up B 0 (va_cpy (A 0) (B 0) x y k)))) rfl ?_
      rw [show ((nI x) + (nI k) : Int32) = nI (x + k) from nI_add x k]
      rw [show ((nI y) + (nI k) : Int32) = nI (y + k) from nI_add y k]
      refine rr_iald hC (x + k) (by decide +kernel) rfl rfl (by omega) rfl ?_
      show rr_J Z 6 0 0 _ 21 [(0, .ref 0), (1, .int (nI x)), (2, .ref 1), (3, .int (nI y)), (4, .int (nI n)), (5, .int (nI k))] [.int (A 0 (x + k)), .int (nI (y + k)), .ref 1] (W_C660_22 A (va_up B 0 (va_cpy (A 0) (B 0) x y k)))
      refine rr_iast hC (y + k) (by decide +kernel) rfl rfl (by omega) rfl (w' := (W_C660_22 A (va_up B 0 (upd (va_cpy (A 0) (B 0) x y k) (y + k) (A 0 (x + k)))))) rfl ?_
      show rr_J Z 6 0 0 _ 22 [(0, .ref 0), (1, .int (nI x)), (2, .ref 1), (3, .int (nI y)), (4, .int (nI n)), (5, .int (nI k))] [] (W_C660_22 A (va_up B 0 (upd (va_cpy (A 0) (B 0) x y k) (y + k) (A 0 (x + k)))))
      refine rr_go hC bk_X11_copies_22_3 (l' := [(0, .ref 0), (1, .int (nI x)), (2, .ref 1), (3, .int (nI y)), (4, .int (nI n)), (5, .int ((nI k) + 1))]) (st' := []) (w' := (W_C660_22 A (va_up B 0 (upd (va_cpy (A 0) (B 0) x y k) (y + k) (A 0 (x + k)))))) rfl ?_
      rw [show ((nI k) + 1 : Int32) = nI (k + 1) from nI_add k 1]
      exact rr_cast (l' := [(0, .ref 0), (1, .int (nI x)), (2, .ref 1), (3, .int (nI y)), (4, .int (nI n)), (5, .int (nI (k + 1)))]) (by rfl) rfl (w' := (W_C660_22 A (va_up B 0 (va_cpy (A 0) (B 0) x y (k + 1))))) (by rw [← m_cpy_s]) (ih (k + 1) (by omega) (by omega))
  exact rr_cast (l' := [(0, .ref 0), (1, .int (nI x)), (2, .ref 1), (3, .int (nI y)), (4, .int (nI n)), (5, .int (nI 0))]) (by first | rfl | (rfl)) rfl (w' := (W_C660_22 A (va_up B 0 (va_cpy (A 0) (B 0) x y 0)))) (by rw [m_cpy_0]; rfl) (lp3 (n - 0) 0 (by omega) (Nat.le_refl _))
set_option maxRecDepth 100000 in
set_option maxHeartbeats 4000000 in
theorem m_copies22_22 (A B : Nat → Nat → Int32) (x y n : Nat) (hx : x + n ≤ 22) (hy : y + n ≤ 22) : rr_C mX11_copies 0 [.ref 0, .int (nI x), .ref 1, .int (nI y), .int (nI n)] (W_C22_22 A B) 0 0 none (W_C22_22 A (va_up B 0 (va_cpy (A 0) (B 0) x y n))) := by
  refine rr_C.of (n := 5) fX11_copies.1 rfl rfl (fun Z hC => ?_)
  show rr_J Z 6 0 0 (rr_MQ Z 0 0 none (W_C22_22 A (va_up B 0 (va_cpy (A 0) (B 0) x y n)))) 0 [(0, .ref 0), (1, .int (nI x)), (2, .ref 1), (3, .int (nI y)), (4, .int (nI n))] [] (W_C22_22 A B)
  refine rr_go hC bk_X11_copies_0_3 (l' := [(0, .ref 0), (1, .int (nI x)), (2, .ref 1), (3, .int (nI y)), (4, .int (nI n)), (5, .int 0)]) (st' := []) (w' := (W_C22_22 A B)) rfl ?_
  have lp3 : ∀ (j k : Nat), k + j = n → 0 ≤ k → rr_J Z 6 0 0 (rr_MQ Z 0 0 none (W_C22_22 A (va_up B 0 (va_cpy (A 0) (B 0) x y n)))) 3 [(0, .ref 0), (1, .int (nI x)), (2, .ref 1), (3, .int (nI y)), (4, .int (nI n)), (5, .int (nI k))] [] (W_C22_22 A (va_up B 0 (va_cpy (A 0) (B 0) x y k))) := by
    intro j
    induction j with
    | zero =>
      intro k hk3 hlo3
      refine rr_go hC bk_X11_copies_3_7 (l' := [(0, .ref 0), (1, .int (nI x)), (2, .ref 1), (3, .int (nI y)), (4, .int (nI n)), (5, .int (nI k))]) (st' := [.int (nI n), .int (nI k)]) (w' := (W_C22_22 A (va_up B 0 (va_cpy (A 0) (B 0) x y k)))) rfl ?_
      refine rr_icmp_ge hC (off := 21) (tgt := 28) (by decide +kernel) (fun h7 => ?_) (fun h7 => by rw [rr_nn_le (by omega) (by omega)] at h7; omega)
      rw [rr_nn_le (by omega) (by omega)] at h7
      exact rr_retv hC (by decide +kernel) (by rw [show k = n by omega]) ⟨Nat.zero_le _, Nat.zero_le _⟩
    | succ j ih =>
      intro k hk3 hlo3
      refine rr_go hC bk_X11_copies_3_7 (l' := [(0, .ref 0), (1, .int (nI x)), (2, .ref 1), (3, .int (nI y)), (4, .int (nI n)), (5, .int (nI k))]) (st' := [.int (nI n), .int (nI k)]) (w' := (W_C22_22 A (va_up B 0 (va_cpy (A 0) (B 0) x y k)))) rfl ?_
      refine rr_icmp_ge hC (off := 21) (tgt := 28) (by decide +kernel) (fun h7 => by rw [rr_nn_le (by omega) (by omega)] at h7; omega) (fun h7 => ?_)
      rw [rr_nn_le (by omega) (by omega)] at h7
      refine rr_go hC bk_X11_copies_10_20 (l' := [(0, .ref 0), (1, .int (nI x)), (2, .ref 1), (3, .int (nI y)), (4, .int (nI n)), (5, .int (nI k))]) (st' := [.int ((nI x) + (nI k)), .ref 0, .int ((nI y) + (nI k)), .ref 1]) (w' := (W_C22_22 A (va_up B 0 (va_cpy (A 0) (B 0) x y k)))) rfl ?_
      rw [show ((nI x) + (nI k) : Int32) = nI (x + k) from nI_add x k]
      rw [show ((nI y) + (nI k) : Int32) = nI (y + k) from nI_add y k]
      refine rr_iald hC (x + k) (by decide +kernel) rfl rfl (by omega) rfl ?_
      show rr_J Z 6 0 0 _ 21 [(0, .ref 0), (1, .int (nI x)), (2, .ref 1), (3, .int (nI y)), (4, .int (nI n)), (5, .int (nI k))] [.int (A 0 (x + k)), .int (nI (y + k)), .ref 1] (W_C22_22 A (va_up B 0 (va_cpy (A 0) (B 0) x y k)))
      refine rr_iast hC (y + k) (by decide +kernel) rfl rfl (by omega) rfl (w' := (W_C22_22 A (va_up B 0 (upd (va_cpy (A 0) (B 0) x y k) (y + k) (A 0 (x + k)))))) rfl ?_
      show rr_J Z 6 0 0 _ 22 [(0, .ref 0), (1, .int (nI x)), (2, .ref 1), (3, .int (nI y)), (4, .int (nI n)), (5, .int (nI k))] [] (W_C22_22 A (va_up B 0 (upd (va_cpy (A 0) (B 0) x y k) (y + k) (A 0 (x + k)))))
      refine rr_go hC bk_X11_copies_22_3 (l' := [(0, .ref 0), (1, .int (nI x)), (2, .ref 1), (3, .int (nI y)), (4, .int (nI n)), (5, .int ((nI k) + 1))]) (st' := []) (w' := (W_C22_22 A (va_up B 0 (upd (va_cpy (A 0) (B 0) x y k) (y + k) (A 0 (x + k)))))) rfl ?_
      rw [show ((nI k) + 1 : Int32) = nI (k + 1) from nI_add k 1]
      exact rr_cast (l' := [(0, .ref 0), (1, .int (nI x)), (2, .ref 1), (3, .int (nI y)), (4, .int (nI n)), (5, .int (nI (k + 1)))]) (by rfl) rfl (w' := (W_C22_22 A (va_up B 0 (va_cpy (A 0) (B 0) x y (k + 1))))) (by rw [← m_cpy_s]) (ih (k + 1) (by omega) (by omega))
  exact rr_cast (l' := [(0, .ref 0), (1, .int (nI x)), (2, .ref 1), (3, .int (nI y)), (4, .int (nI n)), (5, .int (nI 0))]) (by first | rfl | (rfl)) rfl (w' := (W_C22_22 A (va_up B 0 (va_cpy (A 0) (B 0) x y 0)))) (by rw [m_cpy_0]; rfl) (lp3 (n - 0) 0 (by omega) (Nat.le_refl _))
set_option maxRecDepth 100000 in
set_option maxHeartbeats 4000000 in
theorem m_copies22_44 (A B : Nat → Nat → Int32) (x y n : Nat) (hx : x + n ≤ 22) (hy : y + n ≤ 44) : rr_C mX11_copies 0 [.ref 0, .int (nI x), .ref 1, .int (nI y), .int (nI n)] (W_C22_44 A B) 0 0 none (W_C22_44 A (va_up B 0 (va_cpy (A 0) (B 0) x y n))) := by
  refine rr_C.of (n := 5) fX11_copies.1 rfl rfl (fun Z hC => ?_)
  show rr_J Z 6 0 0 (rr_MQ Z 0 0 none (W_C22_44 A (va_up B 0 (va_cpy (A 0) (B 0) x y n)))) 0 [(0, .ref 0), (1, .int (nI x)), (2, .ref 1), (3, .int (nI y)), (4, .int (nI n))] [] (W_C22_44 A B)
  refine rr_go hC bk_X11_copies_0_3 (l' := [(0, .ref 0), (1, .int (nI x)), (2, .ref 1), (3, .int (nI y)), (4, .int (nI n)), (5, .int 0)]) (st' := []) (w' := (W_C22_44 A B)) rfl ?_
  have lp3 : ∀ (j k : Nat), k + j = n → 0 ≤ k → rr_J Z 6 0 0 (rr_MQ Z 0 0 none (W_C22_44 A (va_up B 0 (va_cpy (A 0) (B 0) x y n)))) 3 [(0, .ref 0), (1, .int (nI x)), (2, .ref 1), (3, .int (nI y)), (4, .int (nI n)), (5, .int (nI k))] [] (W_C22_44 A (va_up B 0 (va_cpy (A 0) (B 0) x y k))) := by
    intro j
    induction j with
    | zero =>
      intro k hk3 hlo3
      refine rr_go hC bk_X11_copies_3_7 (l' := [(0, .ref 0), (1, .int (nI x)), (2, .ref 1), (3, .int (nI y)), (4, .int (nI n)), (5, .int (nI k))]) (st' := [.int (nI n), .int (nI k)]) (w' := (W_C22_44 A (va_up B 0 (va_cpy (A 0) (B 0) x y k)))) rfl ?_
      refine rr_icmp_ge hC (off := 21) (tgt := 28) (by decide +kernel) (fun h7 => ?_) (fun h7 => by rw [rr_nn_le (by omega) (by omega)] at h7; omega)
      rw [rr_nn_le (by omega) (by omega)] at h7
      exact rr_retv hC (by decide +kernel) (by rw [show k = n by omega]) ⟨Nat.zero_le _, Nat.zero_le _⟩
    | succ j ih =>
      intro k hk3 hlo3
      refine rr_go hC bk_X11_copies_3_7 (l' := [(0, .ref 0), (1, .int (nI x)), (2, .ref 1), (3, .int (nI y)), (4, .int (nI n)), (5, .int (nI k))]) (st' := [.int (nI n), .int (nI k)]) (w' := (W_C22_44 A (va_up B 0 (va_cpy (A 0) (B 0) x y k)))) rfl ?_
      refine rr_icmp_ge hC (off := 21) (tgt := 28) (by decide +kernel) (fun h7 => by rw [rr_nn_le (by omega) (by omega)] at h7; omega) (fun h7 => ?_)
      rw [rr_nn_le (by omega) (by omega)] at h7
      refine rr_go hC bk_X11_copies_10_20 (l' := [(0, .ref 0), (1, .int (nI x)), (2, .ref 1), (3, .int (nI y)), (4, .int (nI n)), (5, .int (nI k))]) (st' := [.int ((nI x) + (nI k)), .ref 0, .int ((nI y) + (nI k)), .ref 1]) (w' := (W_C22_44 A (va_up B 0 (va_cpy (A 0) (B 0) x y k)))) rfl ?_
      rw [show ((nI x) + (nI k) : Int32) = nI (x + k) from nI_add x k]
      rw [show ((nI y) + (nI k) : Int32) = nI (y + k) from nI_add y k]
      refine rr_iald hC (x + k) (by decide +kernel) rfl rfl (by omega) rfl ?_
      show rr_J Z 6 0 0 _ 21 [(0, .ref 0), (1, .int (nI x)), (2, .ref 1), (3, .int (nI y)), (4, .int (nI n)), (5, .int (nI k))] [.int (A 0 (x + k)), .int (nI (y + k)), .ref 1] (W_C22_44 A (va_up B 0 (va_cpy (A 0) (B 0) x y k)))
      refine rr_iast hC (y + k) (by decide +kernel) rfl rfl (by omega) rfl (w' := (W_C22_44 A (va_up B 0 (upd (va_cpy (A 0) (B 0) x y k) (y + k) (A 0 (x + k)))))) rfl ?_
      show rr_J Z 6 0 0 _ 22 [(0, .ref 0), (1, .int (nI x)), (2, .ref 1), (3, .int (nI y)), (4, .int (nI n)), (5, .int (nI k))] [] (W_C22_44 A (va_up B 0 (upd (va_cpy (A 0) (B 0) x y k) (y + k) (A 0 (x + k)))))
      refine rr_go hC bk_X11_copies_22_3 (l' := [(0, .ref 0), (1, .int (nI x)), (2, .ref 1), (3, .int (nI y)), (4, .int (nI n)), (5, .int ((nI k) + 1))]) (st' := []) (w' := (W_C22_44 A (va_up B 0 (upd (va_cpy (A 0) (B 0) x y k) (y + k) (A 0 (x + k)))))) rfl ?_
      rw [show ((nI k) + 1 : Int32) = nI (k + 1) from nI_add k 1]
      exact rr_cast (l' := [(0, .ref 0), (1, .int (nI x)), (2, .ref 1), (3, .int (nI y)), (4, .int (nI n)), (5, .int (nI (k + 1)))]) (by rfl) rfl (w' := (W_C22_44 A (va_up B 0 (va_cpy (A 0) (B 0) x y (k + 1))))) (by rw [← m_cpy_s]) (ih (k + 1) (by omega) (by omega))
  exact rr_cast (l' := [(0, .ref 0), (1, .int (nI x)), (2, .ref 1), (3, .int (nI y)), (4, .int (nI n)), (5, .int (nI 0))]) (by first | rfl | (rfl)) rfl (w' := (W_C22_44 A (va_up B 0 (va_cpy (A 0) (B 0) x y 0)))) (by rw [m_cpy_0]; rfl) (lp3 (n - 0) 0 (by omega) (Nat.le_refl _))
set_option maxRecDepth 100000 in
set_option maxHeartbeats 4000000 in
theorem m_copies44_22 (A B : Nat → Nat → Int32) (x y n : Nat) (hx : x + n ≤ 44) (hy : y + n ≤ 22) : rr_C mX11_copies 0 [.ref 0, .int (nI x), .ref 1, .int (nI y), .int (nI n)] (W_C44_22 A B) 0 0 none (W_C44_22 A (va_up B 0 (va_cpy (A 0) (B 0) x y n))) := by
  refine rr_C.of (n := 5) fX11_copies.1 rfl rfl (fun Z hC => ?_)
  show rr_J Z 6 0 0 (rr_MQ Z 0 0 none (W_C44_22 A (va_up B 0 (va_cpy (A 0) (B 0) x y n)))) 0 [(0, .ref 0), (1, .int (nI x)), (2, .ref 1), (3, .int (nI y)), (4, .int (nI n))] [] (W_C44_22 A B)
  refine rr_go hC bk_X11_copies_0_3 (l' := [(0, .ref 0), (1, .int (nI x)), (2, .ref 1), (3, .int (nI y)), (4, .int (nI n)), (5, .int 0)]) (st' := []) (w' := (W_C44_22 A B)) rfl ?_
  have lp3 : ∀ (j k : Nat), k + j = n → 0 ≤ k → rr_J Z 6 0 0 (rr_MQ Z 0 0 none (W_C44_22 A (va_up B 0 (va_cpy (A 0) (B 0) x y n)))) 3 [(0, .ref 0), (1, .int (nI x)), (2, .ref 1), (3, .int (nI y)), (4, .int (nI n)), (5, .int (nI k))] [] (W_C44_22 A (va_up B 0 (va_cpy (A 0) (B 0) x y k))) := by
    intro j
    induction j with
    | zero =>
      intro k hk3 hlo3
      refine rr_go hC bk_X11_copies_3_7 (l' := [(0, .ref 0), (1, .int (nI x)), (2, .ref 1), (3, .int (nI y)), (4, .int (nI n)), (5, .int (nI k))]) (st' := [.int (nI n), .int (nI k)]) (w' := (W_C44_22 A (va_up B 0 (va_cpy (A 0) (B 0) x y k)))) rfl ?_
      refine rr_icmp_ge hC (off := 21) (tgt := 28) (by decide +kernel) (fun h7 => ?_) (fun h7 => by rw [rr_nn_le (by omega) (by omega)] at h7; omega)
      rw [rr_nn_le (by omega) (by omega)] at h7
      exact rr_retv hC (by decide +kernel) (by rw [show k = n by omega]) ⟨Nat.zero_le _, Nat.zero_le _⟩
    | succ j ih =>
      intro k hk3 hlo3
      refine rr_go hC bk_X11_copies_3_7 (l' := [(0, .ref 0), (1, .int (nI x)), (2, .ref 1), (3, .int (nI y)), (4, .int (nI n)), (5, .int (nI k))]) (st' := [.int (nI n), .int (nI k)]) (w' := (W_C44_22 A (va_up B 0 (va_cpy (A 0) (B 0) x y k)))) rfl ?_
      refine rr_icmp_ge hC (off := 21) (tgt := 28) (by decide +kernel) (fun h7 => by rw [rr_nn_le (by omega) (by omega)] at h7; omega) (fun h7 => ?_)
      rw [rr_nn_le (by omega) (by omega)] at h7
      refine rr_go hC bk_X11_copies_10_20 (l' := [(0, .ref 0), (1, .int (nI x)), (2, .ref 1), (3, .int (nI y)), (4, .int (nI n)), (5, .int (nI k))]) (st' := [.int ((nI x) + (nI k)), .ref 0, .int ((nI y) + (nI k)), .ref 1]) (w' := (W_C44_22 A (va_up B 0 (va_cpy (A 0) (B 0) x y k)))) rfl ?_
      rw [show ((nI x) + (nI k) : Int32) = nI (x + k) from nI_add x k]
      rw [show ((nI y) + (nI k) : Int32) = nI (y + k) from nI_add y k]
      refine rr_iald hC (x + k) (by decide +kernel) rfl rfl (by omega) rfl ?_
      show rr_J Z 6 0 0 _ 21 [(0, .ref 0), (1, .int (nI x)), (2, .ref 1), (3, .int (nI y)), (4, .int (nI n)), (5, .int (nI k))] [.int (A 0 (x + k)), .int (nI (y + k)), .ref 1] (W_C44_22 A (va_up B 0 (va_cpy (A 0) (B 0) x y k)))
      refine rr_iast hC (y + k) (by decide +kernel) rfl rfl (by omega) rfl (w' := (W_C44_22 A (va_up B 0 (upd (va_cpy (A 0) (B 0) x y k) (y + k) (A 0 (x + k)))))) rfl ?_
      show rr_J Z 6 0 0 _ 22 [(0, .ref 0), (1, .int (nI x)), (2, .ref 1), (3, .int (nI y)), (4, .int (nI n)), (5, .int (nI k))] [] (W_C44_22 A (va_up B 0 (upd (va_cpy (A 0) (B 0) x y k) (y + k) (A 0 (x + k)))))
      refine rr_go hC bk_X11_copies_22_3 (l' := [(0, .ref 0), (1, .int (nI x)), (2, .ref 1), (3, .int (nI y)), (4, .int (nI n)), (5, .int ((nI k) + 1))]) (st' := []) (w' := (W_C44_22 A (va_up B 0 (upd (va_cpy (A 0) (B 0) x y k) (y + k) (A 0 (x + k)))))) rfl ?_
      rw [show ((nI k) + 1 : Int32) = nI (k + 1) from nI_add k 1]
      exact rr_cast (l' := [(0, .ref 0), (1, .int (nI x)), (2, .ref 1), (3, .int (nI y)), (4, .int (nI n)), (5, .int (nI (k + 1)))]) (by rfl) rfl (w' := (W_C44_22 A (va_up B 0 (va_cpy (A 0) (B 0) x y (k + 1))))) (by rw [← m_cpy_s]) (ih (k + 1) (by omega) (by omega))
  exact rr_cast (l' := [(0, .ref 0), (1, .int (nI x)), (2, .ref 1), (3, .int (nI y)), (4, .int (nI n)), (5, .int (nI 0))]) (by first | rfl | (rfl)) rfl (w' := (W_C44_22 A (va_up B 0 (va_cpy (A 0) (B 0) x y 0)))) (by rw [m_cpy_0]; rfl) (lp3 (n - 0) 0 (by omega) (Nat.le_refl _))
theorem bk_X11_goes_0_7 : rr_chk mX11_goes [(.aload_n 0, 0, 0, 0), (.iconst 4, 4, 0, 0), (.iconst 3, 3, 0, 0), (.iload_n 1, 0, 1, 0), (.imul, 0, 0, 0), (.iadd, 0, 0, 0), (.iconst 0, 0, 0, 0)] 0 7 = true := by decide +kernel
theorem bk_X11_goes_8_17 : rr_chk mX11_goes [(.aload_n 0, 0, 0, 0), (.iconst 4, 4, 0, 0), (.iconst 3, 3, 0, 0), (.iload_n 1, 0, 1, 0), (.imul, 0, 0, 0), (.iadd, 0, 0, 0), (.iconst 1, 1, 0, 0), (.iadd, 0, 0, 0), (.iconst 0, 0, 0, 0)] 8 17 = true := by decide +kernel
theorem bk_X11_goes_18_27 : rr_chk mX11_goes [(.aload_n 0, 0, 0, 0), (.iconst 4, 4, 0, 0), (.iconst 3, 3, 0, 0), (.iload_n 1, 0, 1, 0), (.imul, 0, 0, 0), (.iadd, 0, 0, 0), (.iconst 2, 2, 0, 0), (.iadd, 0, 0, 0), (.iconst 0, 0, 0, 0)] 18 27 = true := by decide +kernel
theorem bk_X11_goes_28_33 : rr_chk mX11_goes [(.aload_n 0, 0, 0, 0), (.iconst 1, 1, 0, 0), (.aload_n 0, 0, 0, 0), (.iconst 1, 1, 0, 0), (.iaload, 0, 1, 0)] 28 33 = true := by decide +kernel
theorem bk_X11_goes_33_36 : rr_chk mX11_goes [(.iload_n 1, 0, 1, 0), (.iconst 1, 1, 0, 0), (.iadd, 0, 0, 0)] 33 36 = true := by decide +kernel
theorem bk_X11_goes_43_46 : rr_chk mX11_goes [(.aload_n 0, 0, 0, 0), (.iconst 1, 1, 0, 0), (.iaload, 0, 1, 0)] 43 46 = true := by decide +kernel
theorem bk_X11_goes_46_47 : rr_chk mX11_goes [(.iastore, 0, 1, 0)] 46 47 = true := by decide +kernel
theorem bk_X11_goes_39_46 : rr_chk mX11_goes [(.iconst 0, 0, 0, 0), (.goto 6, 0, 0, 0)] 39 46 = true := by decide +kernel
set_option maxRecDepth 100000 in
set_option maxHeartbeats 4000000 in
theorem m_goes (A : Nat → Nat → Int32) (q : p_Q) (hA : A 0 = en q) (k : Nat) (hk : k < 6) : rr_C mX11_goes 0 [.ref 0, .int (nI k)] (W_A22 A) 0 0 none (W_A22 (va_up A 0 (en (p_rb q k)))) := by
  refine rr_C.of (n := 2) fX11_goes.1 rfl rfl (fun Z hC => ?_)
  show rr_J Z 2 0 0 (rr_MQ Z 0 0 none (W_A22 (va_up A 0 (en (p_rb q k))))) 0 [(0, .ref 0), (1, .int (nI k))] [] (W_A22 A)
  refine rr_go hC bk_X11_goes_0_7 (l' := [(0, .ref 0), (1, .int (nI k))]) (st' := [.int 0, .int (4 + (3 * (nI k))), .ref 0]) (w' := (W_A22 A)) rfl ?_
  rw [show (3 * (nI k) : Int32) = nI (3 * k) from pk_mul 3 k]
  rw [show (4 + (nI (3 * k)) : Int32) = nI (4 + (3 * k)) from nI_add 4 (3 * k)]
  refine rr_iast hC (4 + (3 * k)) (by decide +kernel) rfl rfl (by omega) rfl (w' := (W_A22 (va_up A 0 (upd (A 0) (4 + (3 * k)) 0)))) rfl ?_
  show rr_J Z 2 0 0 _ 8 [(0, .ref 0), (1, .int (nI k))] [] (W_A22 (va_up A 0 (upd (A 0) (4 + (3 * k)) 0)))
  refine rr_go hC bk_X11_goes_8_17 (l' := [(0, .ref 0), (1, .int (nI k))]) (st' := [.int 0, .int ((4 + (3 * (nI k))) + 1), .ref 0]) (w' := (W_A22 (va_up A 0 (upd (A 0) (4 + (3 * k)) 0)))) rfl ?_
  rw [show (3 * (nI k) : Int32) = nI (3 * k) from pk_mul 3 k]
  rw [show (4 + (nI (3 * k)) : Int32) = nI (4 + (3 * k)) from nI_add 4 (3 * k)]
  rw [show ((nI (4 + (3 * k))) + 1 : Int32) = nI ((4 + (3 * k)) + 1) from nI_add (4 + (3 * k)) 1]
  refine rr_iast hC ((4 + (3 * k)) + 1) (by decide +kernel) rfl rfl (by omega) rfl (w' := (W_A22 (va_up A 0 (upd (upd (A 0) (4 + (3 * k)) 0) ((4 + (3 * k)) + 1) 0)))) rfl ?_
  show rr_J Z 2 0 0 _ 18 [(0, .ref 0), (1, .int (nI k))] [] (W_A22 (va_up A 0 (upd (upd (A 0) (4 + (3 * k)) 0) ((4 + (3 * k)) + 1) 0)))
  refine rr_go hC bk_X11_goes_18_27 (l' := [(0, .ref 0), (1, .int (nI k))]) (st' := [.int 0, .int ((4 + (3 * (nI k))) + 2), .ref 0]) (w' := (W_A22 (va_up A 0 (upd (upd (A 0) (4 + (3 * k)) 0) ((4 + (3 * k)) + 1) 0)))) rfl ?_
  rw [show (3 * (nI k) : Int32) = nI (3 * k) from pk_mul 3 k]
  rw [show (4 + (nI (3 * k)) : Int32) = nI (4 + (3 * k)) from nI_add 4 (3 * k)]
  rw [show ((nI (4 + (3 * k))) + 2 : Int32) = nI ((4 + (3 * k)) + 2) from nI_add (4 + (3 * k)) 2]
  refine rr_iast hC ((4 + (3 * k)) + 2) (by decide +kernel) rfl rfl (by omega) rfl (w' := (W_A22 (va_up A 0 (upd (upd (upd (A 0) (4 + (3 * k)) 0) ((4 + (3 * k)) + 1) 0) ((4 + (3 * k)) + 2) 0)))) rfl ?_
  show rr_J Z 2 0 0 _ 28 [(0, .ref 0), (1, .int (nI k))] [] (W_A22 (va_up A 0 (upd (upd (upd (A 0) (4 + (3 * k)) 0) ((4 + (3 * k)) + 1) 0) ((4 + (3 * k)) + 2) 0)))
  refine rr_go hC bk_X11_goes_28_33 (l' := [(0, .ref 0), (1, .int (nI k))]) (st' := [.int ((upd (upd (upd (A 0) (4 + (3 * k)) 0) ((4 + (3 * k)) + 1) 0) ((4 + (3 * k)) + 2) 0) 1), .int 1, .ref 0]) (w' := (W_A22 (va_up A 0 (upd (upd (upd (A 0) (4 + (3 * k)) 0) ((4 + (3 * k)) + 1) 0) ((4 + (3 * k)) + 2) 0)))) rfl ?_
  rw [show (upd (upd (upd (A 0) (4 + (3 * k)) 0) ((4 + (3 * k)) + 1) 0) ((4 + (3 * k)) + 2) 0) 1 = q.2.1 + 1 from by rw [pk_un (by omega), pk_un (by omega), pk_un (by omega), hA, en_1]]
  refine rr_go hC bk_X11_goes_33_36 (l' := [(0, .ref 0), (1, .int (nI k))]) (st' := [.int ((nI k) + 1), .int (q.2.1 + 1), .int 1, .ref 0]) (w' := (W_A22 (va_up A 0 (upd (upd (upd (A 0) (4 + (3 * k)) 0) ((4 + (3 * k)) + 1) 0) ((4 + (3 * k)) + 2) 0)))) rfl ?_
  rw [show ((nI k) + 1 : Int32) = nI (k + 1) from nI_add k 1]
  refine rr_icmp_ne hC (off := 7) (tgt := 43) (by decide +kernel) (fun h36 => ?_) (fun h36 => ?_)
  · have hs : ¬ q.2.1 = nI k := fun z => h36 (by rw [z, nI_1])
    refine rr_go hC bk_X11_goes_43_46 (l' := [(0, .ref 0), (1, .int (nI k))]) (st' := [.int ((upd (upd (upd (A 0) (4 + (3 * k)) 0) ((4 + (3 * k)) + 1) 0) ((4 + (3 * k)) + 2) 0) 1), .int 1, .ref 0]) (w' := (W_A22 (va_up A 0 (upd (upd (upd (A 0) (4 + (3 * k)) 0) ((4 + (3 * k)) + 1) 0) ((4 + (3 * k)) + 2) 0)))) rfl ?_
    rw [show (upd (upd (upd (A 0) (4 + (3 * k)) 0) ((4 + (3 * k)) + 1) 0) ((4 + (3 * k)) + 2) 0) 1 = q.2.1 + 1 from by rw [pk_un (by omega), pk_un (by omega), pk_un (by omega), hA, en_1]]
    refine rr_go hC bk_X11_goes_46_47 (l' := [(0, .ref 0), (1, .int (nI k))]) (st' := []) (w' := (W_A22 (va_up A 0 (upd (upd (upd (upd (A 0) (4 + (3 * k)) 0) ((4 + (3 * k)) + 1) 0) ((4 + (3 * k)) + 2) 0) 1 (q.2.1 + 1))))) rfl ?_
    exact rr_retv hC (by decide +kernel) (by rw [hA, ← en_rb q hk, if_neg hs]) ⟨Nat.zero_le _, Nat.zero_le _⟩
  · have hs : q.2.1 = nI k := p_i1.mp (h36.trans (nI_succ k))
    refine rr_go hC bk_X11_goes_39_46 (l' := [(0, .ref 0), (1, .int (nI k))]) (st' := [.int 0, .int 1, .ref 0]) (w' := (W_A22 (va_up A 0 (upd (upd (upd (A 0) (4 + (3 * k)) 0) ((4 + (3 * k)) + 1) 0) ((4 + (3 * k)) + 2) 0)))) rfl ?_
    refine rr_go hC bk_X11_goes_46_47 (l' := [(0, .ref 0), (1, .int (nI k))]) (st' := []) (w' := (W_A22 (va_up A 0 (upd (upd (upd (upd (A 0) (4 + (3 * k)) 0) ((4 + (3 * k)) + 1) 0) ((4 + (3 * k)) + 2) 0) 1 0)))) rfl ?_
    exact rr_retv hC (by decide +kernel) (by rw [hA, ← en_rb q hk, if_pos hs]) ⟨Nat.zero_le _, Nat.zero_le _⟩
theorem bk_X11_writes_0_9 : rr_chk mX11_writes [(.aload_n 0, 0, 0, 0), (.iconst 4, 4, 0, 0), (.iconst 3, 3, 0, 0), (.iload_n 1, 0, 1, 0), (.imul, 0, 0, 0), (.iadd, 0, 0, 0), (.iload_n 2, 0, 2, 0), (.iconst 1, 1, 0, 0), (.iadd, 0, 0, 0)] 0 9 = true := by decide +kernel
theorem bk_X11_writes_10_19 : rr_chk mX11_writes [(.aload_n 0, 0, 0, 0), (.iconst 4, 4, 0, 0), (.iconst 3, 3, 0, 0), (.iload_n 1, 0, 1, 0), (.imul, 0, 0, 0), (.iadd, 0, 0, 0), (.iconst 1, 1, 0, 0), (.iadd, 0, 0, 0), (.iconst 0, 0, 0, 0)] 10 19 = true := by decide +kernel
theorem bk_X11_writes_20_29 : rr_chk mX11_writes [(.aload_n 0, 0, 0, 0), (.iconst 4, 4, 0, 0), (.iconst 3, 3, 0, 0), (.iload_n 1, 0, 1, 0), (.imul, 0, 0, 0), (.iadd, 0, 0, 0), (.iconst 2, 2, 0, 0), (.iadd, 0, 0, 0), (.iconst 0, 0, 0, 0)] 20 29 = true := by decide +kernel
theorem bk_X11_writes_30_36 : rr_chk mX11_writes [(.aload_n 0, 0, 0, 0), (.iconst 1, 1, 0, 0), (.iload_n 1, 0, 1, 0), (.iconst 1, 1, 0, 0), (.iadd, 0, 0, 0), (.iastore, 0, 1, 0)] 30 36 = true := by decide +kernel
set_option maxRecDepth 100000 in
set_option maxHeartbeats 4000000 in
theorem m_writes (A : Nat → Nat → Int32) (q : p_Q) (hA : A 0 = en q) (k c : Nat) (hk : k < 6) : rr_C mX11_writes 0 [.ref 0, .int (nI k), .int (nI c)] (W_A22 A) 0 0 none (W_A22 (va_up A 0 (en (p_wr q k c)))) := by
  refine rr_C.of (n := 3) fX11_writes.1 rfl rfl (fun Z hC => ?_)
  show rr_J Z 3 0 0 (rr_MQ Z 0 0 none (W_A22 (va_up A 0 (en (p_wr q k c))))) 0 [(0, .ref 0), (1, .int (nI k)), (2, .int (nI c))] [] (W_A22 A)
  refine rr_go hC bk_X11_writes_0_9 (l' := [(0, .ref 0), (1, .int (nI k)), (2, .int (nI c))]) (st' := [.int ((nI c) + 1), .int (4 + (3 * (nI k))), .ref 0]) (w' := (W_A22 A)) rfl ?_
  rw [show ((nI c) + 1 : Int32) = nI (c + 1) from nI_add c 1]
  rw [show (3 * (nI k) : Int32) = nI (3 * k) from pk_mul 3 k]
  rw [show (4 + (nI (3 * k)) : Int32) = nI (4 + (3 * k)) from nI_add 4 (3 * k)]
  refine rr_iast hC (4 + (3 * k)) (by decide +kernel) rfl rfl (by omega) rfl (w' := (W_A22 (va_up A 0 (upd (A 0) (4 + (3 * k)) (nI (c + 1)))))) rfl ?_
  show rr_J Z 3 0 0 _ 10 [(0, .ref 0), (1, .int (nI k)), (2, .int (nI c))] [] (W_A22 (va_up A 0 (upd (A 0) (4 + (3 * k)) (nI (c + 1)))))
  refine rr_go hC bk_X11_writes_10_19 (l' := [(0, .ref 0), (1, .int (nI k)), (2, .int (nI c))]) (st' := [.int 0, .int ((4 + (3 * (nI k))) + 1), .ref 0]) (w' := (W_A22 (va_up A 0 (upd (A 0) (4 + (3 * k)) (nI (c + 1)))))) rfl ?_
  rw [show (3 * (nI k) : Int32) = nI (3 * k) from pk_mul 3 k]
  rw [show (4 + (nI (3 * k)) : Int32) = nI (4 + (3 * k)) from nI_add 4 (3 * k)]
  rw [show ((nI (4 + (3 * k))) + 1 : Int32) = nI ((4 + (3 * k)) + 1) from nI_add (4 + (3 * k)) 1]
  refine rr_iast hC ((4 + (3 * k)) + 1) (by decide +kernel) rfl rfl (by omega) rfl (w' := (W_A22 (va_up A 0 (upd (upd (A 0) (4 + (3 * k)) (nI (c + 1))) ((4 + (3 * k)) + 1) 0)))) rfl ?_
  show rr_J Z 3 0 0 _ 20 [(0, .ref 0), (1, .int (nI k)), (2, .int (nI c))] [] (W_A22 (va_up A 0 (upd (upd (A 0) (4 + (3 * k)) (nI (c + 1))) ((4 + (3 * k)) + 1) 0)))
  refine rr_go hC bk_X11_writes_20_29 (l' := [(0, .ref 0), (1, .int (nI k)), (2, .int (nI c))]) (st' := [.int 0, .int ((4 + (3 * (nI k))) + 2), .ref 0]) (w' := (W_A22 (va_up A 0 (upd (upd (A 0) (4 + (3 * k)) (nI (c + 1))) ((4 + (3 * k)) + 1) 0)))) rfl ?_
  rw [show (3 * (nI k) : Int32) = nI (3 * k) from pk_mul 3 k]
  rw [show (4 + (nI (3 * k)) : Int32) = nI (4 + (3 * k)) from nI_add 4 (3 * k)]
  rw [show ((nI (4 + (3 * k))) + 2 : Int32) = nI ((4 + (3 * k)) + 2) from nI_add (4 + (3 * k)) 2]
  refine rr_iast hC ((4 + (3 * k)) + 2) (by decide +kernel) rfl rfl (by omega) rfl (w' := (W_A22 (va_up A 0 (upd (upd (upd (A 0) (4 + (3 * k)) (nI (c + 1))) ((4 + (3 * k)) + 1) 0) ((4 + (3 * k)) + 2) 0)))) rfl ?_
  show rr_J Z 3 0 0 _ 30 [(0, .ref 0), (1, .int (nI k)), (2, .int (nI c))] [] (W_A22 (va_up A 0 (upd (upd (upd (A 0) (4 + (3 * k)) (nI (c + 1))) ((4 + (3 * k)) + 1) 0) ((4 + (3 * k)) + 2) 0)))
  refine rr_go hC bk_X11_writes_30_36 (l' := [(0, .ref 0), (1, .int (nI k)), (2, .int (nI c))]) (st' := []) (w' := (W_A22 (va_up A 0 (upd (upd (upd (upd (A 0) (4 + (3 * k)) (nI (c + 1))) ((4 + (3 * k)) + 1) 0) ((4 + (3 * k)) + 2) 0) 1 ((nI k) + 1))))) rfl ?_
  exact rr_retv hC (by decide +kernel) (by rw [hA, ← en_wr q hk, nI_1]) ⟨Nat.zero_le _, Nat.zero_le _⟩
theorem bk_X11_clauseIn_0_2 : rr_chk mX11_clauseIn [(.iconst 0, 0, 0, 0), (.istore_n 2, 0, 2, 0)] 0 2 = true := by decide +kernel
theorem bk_X11_clauseIn_2_5 : rr_chk mX11_clauseIn [(.iload_n 2, 0, 2, 0), (.bipush 6, 6, 0, 0)] 2 5 = true := by decide +kernel
theorem bk_X11_clauseIn_29_30 : rr_chk mX11_clauseIn [(.iconst (-1), (-1), 0, 0)] 29 30 = true := by decide +kernel
theorem bk_X11_clauseIn_8_14 : rr_chk mX11_clauseIn [(.aload_n 0, 0, 0, 0), (.iconst 4, 4, 0, 0), (.iconst 3, 3, 0, 0), (.iload_n 2, 0, 2, 0), (.imul, 0, 0, 0), (.iadd, 0, 0, 0)] 8 14 = true := by decide +kernel
theorem bk_X11_clauseIn_15_18 : rr_chk mX11_clauseIn [(.iload_n 1, 0, 1, 0), (.iconst 1, 1, 0, 0), (.iadd, 0, 0, 0)] 15 18 = true := by decide +kernel
theorem bk_X11_clauseIn_23_2 : rr_chk mX11_clauseIn [(.iinc 2 1, 1, 2, 0), (.goto (-24), 0, 0, 0)] 23 2 = true := by decide +kernel
theorem bk_X11_clauseIn_21_22 : rr_chk mX11_clauseIn [(.iload_n 2, 0, 2, 0)] 21 22 = true := by decide +kernel
set_option maxRecDepth 100000 in
set_option maxHeartbeats 4000000 in
theorem m_clauseIn (A : Nat → Nat → Int32) (q : p_Q) (hA : A 0 = en q) (c : Nat) : rr_C mX11_clauseIn 0 [.ref 0, .int (nI c)] (W_A22 A) 0 0 (some (p_cin (q.2.2.2.2 0) (nI c) 0 6)) (W_A22 A) := by
  refine rr_C.of (n := 2) fX11_clauseIn.1 rfl rfl (fun Z hC => ?_)
  show rr_J Z 3 0 0 (rr_MQ Z 0 0 (some (p_cin (q.2.2.2.2 0) (nI c) 0 6)) (W_A22 A)) 0 [(0, .ref 0), (1, .int (nI c))] [] (W_A22 A)
  refine rr_go hC bk_X11_clauseIn_0_2 (l' := [(0, .ref 0), (1, .int (nI c)), (2, .int 0)]) (st' := []) (w' := (W_A22 A)) rfl ?_
  have lp2 : ∀ (j k : Nat), k + j = 6 → 0 ≤ k → p_cin (q.2.2.2.2 0) (nI c) 0 6 = p_cin (q.2.2.2.2 0) (nI c) k (6 - k) → rr_J Z 3 0 0 (rr_MQ Z 0 0 (some (p_cin (q.2.2.2.2 0) (nI c) 0 6)) (W_A22 A)) 2 [(0, .ref 0), (1, .int (nI c)), (2, .int (nI k))] [] (W_A22 A) := by
    intro j
    induction j with
    | zero =>
      intro k hk2 hlo2 hq
      refine rr_go hC bk_X11_clauseIn_2_5 (l' := [(0, .ref 0), (1, .int (nI c)), (2, .int (nI k))]) (st' := [.int 6, .int (nI k)]) (w' := (W_A22 A)) rfl ?_
      refine rr_icmp_ge hC (off := 24) (tgt := 29) (by decide +kernel) (fun h5 => ?_) (fun h5 => by rw [rr_ln_le (a := 6) (by omega) (by omega)] at h5; omega)
      rw [rr_ln_le (a := 6) (by omega) (by omega)] at h5
      refine rr_go hC bk_X11_clauseIn_29_30 (l' := [(0, .ref 0), (1, .int (nI c)), (2, .int (nI k))]) (st' := [.int (-1)]) (w' := (W_A22 A)) rfl ?_
      exact rr_reti hC (by decide +kernel) (by rw [hq, show 6 - k = 0 by omega]; rfl) (by rfl) ⟨Nat.zero_le _, Nat.zero_le _⟩
    | succ j ih =>
      intro k hk2 hlo2 hq
      refine rr_go hC bk_X11_clauseIn_2_5 (l' := [(0, .ref 0), (1, .int (nI c)), (2, .int (nI k))]) (st' := [.int 6, .int (nI k)]) (w' := (W_A22 A)) rfl ?_
      refine rr_icmp_ge hC (off := 24) (tgt := 29) (by decide +kernel) (fun h5 => by rw [rr_ln_le (a := 6) (by omega) (by omega)] at h5; omega) (fun h5 => ?_)
      rw [rr_ln_le (a := 6) (by omega) (by omega)] at h5
      refine rr_go hC bk_X11_clauseIn_8_14 (l' := [(0, .ref 0), (1, .int (nI c)), (2, .int (nI k))]) (st' := [.int (4 + (3 * (nI k))), .ref 0]) (w' := (W_A22 A)) rfl ?_
      rw [show (3 * (nI k) : Int32) = nI (3 * k) from pk_mul 3 k]
      rw [show (4 + (nI (3 * k)) : Int32) = nI (4 + (3 * k)) from nI_add 4 (3 * k)]
      refine rr_iald hC (4 + (3 * k)) (by decide +kernel) rfl rfl (by omega) rfl ?_
      show rr_J Z 3 0 0 _ 15 [(0, .ref 0), (1, .int (nI c)), (2, .int (nI k))] [.int (A 0 (4 + (3 * k)))] (W_A22 A)
      rw [hA, en_c q (show k < 6 by omega)]
      refine rr_go hC bk_X11_clauseIn_15_18 (l' := [(0, .ref 0), (1, .int (nI c)), (2, .int (nI k))]) (st' := [.int ((nI c) + 1), .int (q.2.2.2.2 0 k + 1)]) (w' := (W_A22 A)) rfl ?_
      rw [show ((nI c) + 1 : Int32) = nI (c + 1) from nI_add c 1]
      refine rr_icmp_ne hC (off := 5) (tgt := 23) (by decide +kernel) (fun h18 => ?_) (fun h18 => ?_)
      · refine rr_go hC bk_X11_clauseIn_23_2 (l' := [(0, .ref 0), (1, .int (nI c)), (2, .int ((nI k) + 1))]) (st' := []) (w' := (W_A22 A)) rfl ?_
        rw [show ((nI k) + 1 : Int32) = nI (k + 1) from nI_add k 1]
        exact rr_cast (l' := [(0, .ref 0), (1, .int (nI c)), (2, .int (nI (k + 1)))]) (by rfl) rfl (w' := (W_A22 A)) (by rfl) (ih (k + 1) (by omega) (by omega) (by rw [hq, show 6 - k = (6 - (k + 1)) + 1 by omega, p_cin, if_neg (fun z => h18 (by rw [z, nI_1]))]))
      · refine rr_go hC bk_X11_clauseIn_21_22 (l' := [(0, .ref 0), (1, .int (nI c)), (2, .int (nI k))]) (st' := [.int (nI k)]) (w' := (W_A22 A)) rfl ?_
        exact rr_reti hC (by decide +kernel) (by rw [hq, show 6 - k = (6 - (k + 1)) + 1 by omega, p_cin, if_pos (p_i1.mp (h18.trans (nI_succ c)))]) (by rfl) ⟨Nat.zero_le _, Nat.zero_le _⟩
  exact rr_cast (l' := [(0, .ref 0), (1, .int (nI c)), (2, .int (nI 0))]) (by first | rfl | (simp [*])) rfl (w' := (W_A22 A)) (by rfl) (lp2 (6 - 0) 0 (by omega) (Nat.le_refl _) rfl)
theorem bk_X11_sweeps_0_4 : rr_chk mX11_sweeps [(.iconst 0, 0, 0, 0), (.istore_n 1, 0, 1, 0), (.iconst 0, 0, 0, 0), (.istore_n 2, 0, 2, 0)] 0 4 = true := by decide +kernel
theorem bk_X11_sweeps_4_7 : rr_chk mX11_sweeps [(.iload_n 2, 0, 2, 0), (.bipush 6, 6, 0, 0)] 4 7 = true := by decide +kernel
theorem bk_X11_sweeps_39_40 : rr_chk mX11_sweeps [(.iload_n 1, 0, 1, 0)] 39 40 = true := by decide +kernel
theorem bk_X11_sweeps_10_17 : rr_chk mX11_sweeps [(.iload_n 1, 0, 1, 0), (.aload_n 0, 0, 0, 0), (.iconst 4, 4, 0, 0), (.iconst 3, 3, 0, 0), (.iload_n 2, 0, 2, 0), (.imul, 0, 0, 0), (.iadd, 0, 0, 0)] 10 17 = true := by decide +kernel
theorem bk_X11_sweeps_25_30 : rr_chk mX11_sweeps [(.iconst 0, 0, 0, 0), (.iadd, 0, 0, 0), (.istore_n 1, 0, 1, 0), (.aload_n 0, 0, 0, 0), (.iload_n 2, 0, 2, 0)] 25 30 = true := by decide +kernel
theorem bk_X11_sweeps_33_4 : rr_chk mX11_sweeps [(.iinc 2 1, 1, 2, 0), (.goto (-32), 0, 0, 0)] 33 4 = true := by decide +kernel
theorem bk_X11_sweeps_21_30 : rr_chk mX11_sweeps [(.iconst 1, 1, 0, 0), (.goto 4, 0, 0, 0), (.iadd, 0, 0, 0), (.istore_n 1, 0, 1, 0), (.aload_n 0, 0, 0, 0), (.iload_n 2, 0, 2, 0)] 21 30 = true := by decide +kernel
set_option maxRecDepth 100000 in
set_option maxHeartbeats 4000000 in
theorem m_sweeps (A : Nat → Nat → Int32) (q : p_Q) (hA : A 0 = en q) : rr_C mX11_sweeps 1 [.ref 0] (W_A22 A) 0 0 (some (nI (m_swc q 6))) (W_A22 (va_up A 0 (en (p_sw q 6)))) := by
  refine rr_C.of (n := 1) fX11_sweeps.1 rfl rfl (fun Z hC => ?_)
  show rr_J Z 3 0 0 (rr_MQ Z 0 0 (some (nI (m_swc q 6))) (W_A22 (va_up A 0 (en (p_sw q 6))))) 0 [(0, .ref 0)] [] (W_A22 A)
  refine rr_go hC bk_X11_sweeps_0_4 (l' := [(0, .ref 0), (1, .int 0), (2, .int 0)]) (st' := []) (w' := (W_A22 A)) rfl ?_
  have lp4 : ∀ (j k : Nat), k + j = 6 → 0 ≤ k → rr_J Z 3 0 0 (rr_MQ Z 0 0 (some (nI (m_swc q 6))) (W_A22 (va_up A 0 (en (p_sw q 6))))) 4 [(0, .ref 0), (1, .int (nI (m_swc q k))), (2, .int (nI k))] [] (W_A22 (va_up A 0 (en (p_sw q k)))) := by
    intro j
    induction j with
    | zero =>
      intro k hk4 hlo4
      have hsl := m_swc_le q k
      refine rr_go hC bk_X11_sweeps_4_7 (l' := [(0, .ref 0), (1, .int (nI (m_swc q k))), (2, .int (nI k))]) (st' := [.int 6, .int (nI k)]) (w' := (W_A22 (va_up A 0 (en (p_sw q k))))) rfl ?_
      refine rr_icmp_ge hC (off := 32) (tgt := 39) (by decide +kernel) (fun h7 => ?_) (fun h7 => by rw [rr_ln_le (a := 6) (by omega) (by omega)] at h7; omega)
      rw [rr_ln_le (a := 6) (by omega) (by omega)] at h7
      refine rr_go hC bk_X11_sweeps_39_40 (l' := [(0, .ref 0), (1, .int (nI (m_swc q k))), (2, .int (nI k))]) (st' := [.int (nI (m_swc q k))]) (w' := (W_A22 (va_up A 0 (en (p_sw q k))))) rfl ?_
      exact rr_reti hC (by decide +kernel) (by rw [show k = 6 by omega]) (by rw [show k = 6 by omega]) ⟨Nat.zero_le _, Nat.zero_le _⟩
    | succ j ih =>
      intro k hk4 hlo4
      have hsl := m_swc_le q k
      refine rr_go hC bk_X11_sweeps_4_7 (l' := [(0, .ref 0), (1, .int (nI (m_swc q k))), (2, .int (nI k))]) (st' := [.int 6, .int (nI k)]) (w' := (W_A22 (va_up A 0 (en (p_sw q k))))) rfl ?_
      refine rr_icmp_ge hC (off := 32) (tgt := 39) (by decide +kernel) (fun h7 => by rw [rr_ln_le (a := 6) (by omega) (by omega)] at h7; omega) (fun h7 => ?_)
      rw [rr_ln_le (a := 6) (by omega) (by omega)] at h7
      refine rr_go hC bk_X11_sweeps_10_17 (l' := [(0, .ref 0), (1, .int (nI (m_swc q k))), (2, .int (nI k))]) (st' := [.int (4 + (3 * (nI k))), .ref 0, .int (nI (m_swc q k))]) (w' := (W_A22 (va_up A 0 (en (p_sw q k))))) rfl ?_
      rw [show (3 * (nI k) : Int32) = nI (3 * k) from pk_mul 3 k]
      rw [show (4 + (nI (3 * k)) : Int32) = nI (4 + (3 * k)) from nI_add 4 (3 * k)]
      refine rr_iald hC (4 + (3 * k)) (by decide +kernel) rfl rfl (by omega) rfl ?_
      show rr_J Z 3 0 0 _ 18 [(0, .ref 0), (1, .int (nI (m_swc q k))), (2, .int (nI k))] [.int ((en (p_sw q k)) (4 + (3 * k))), .int (nI (m_swc q k))] (W_A22 (va_up A 0 (en (p_sw q k))))
      rw [show (en (p_sw q k)) (4 + (3 * k)) = (p_sw q k).2.2.2.2 0 k + 1 from en_c _ (show k < 6 by omega)]
      refine rr_if_le hC (off := 7) (tgt := 25) (by decide +kernel) (fun h18 => ?_) (fun h18 => ?_)
      · refine rr_go hC bk_X11_sweeps_25_30 (l' := [(0, .ref 0), (1, .int ((nI (m_swc q k)) + 0)), (2, .int (nI k))]) (st' := [.int (nI k), .ref 0]) (w' := (W_A22 (va_up A 0 (en (p_sw q k))))) rfl ?_
        rw [show ((nI (m_swc q k)) + 0 : Int32) = nI ((m_swc q k) + 0) from nI_add (m_swc q k) 0]
        refine rr_callS hC (by decide +kernel) kl_11_198 fX11_goes (m_goes (fun _ => en (p_sw q k)) (p_sw q k) rfl k (by omega)) rfl rfl [0] rfl rfl (Eq.refl 1) rfl (rest := []) rfl rfl ⟨Nat.zero_le _, Nat.zero_le _⟩ (w2 := (W_A22 (va_up A 0 (en (p_rb (p_sw q k) k))))) rfl ?_
        show rr_J Z 3 0 0 _ 33 [(0, .ref 0), (1, .int (nI ((m_swc q k) + 0))), (2, .int (nI k))] [] (W_A22 (va_up A 0 (en (p_rb (p_sw q k) k))))
        refine rr_go hC bk_X11_sweeps_33_4 (l' := [(0, .ref 0), (1, .int (nI ((m_swc q k) + 0))), (2, .int ((nI k) + 1))]) (st' := []) (w' := (W_A22 (va_up A 0 (en (p_rb (p_sw q k) k))))) rfl ?_
        rw [show ((nI k) + 1 : Int32) = nI (k + 1) from nI_add k 1]
        exact rr_cast (l' := [(0, .ref 0), (1, .int (nI (m_swc q (k + 1)))), (2, .int (nI (k + 1)))]) (by first | (rw [show m_swc q (k + 1) = m_swc q k + 0 from if_neg (Int32.not_lt.mpr h18)]; done) | (rw [show m_swc q (k + 1) = m_swc q k + 1 from if_pos (Int32.not_le.mp h18)]; done)) rfl (w' := (W_A22 (va_up A 0 (en (p_sw q (k + 1)))))) (by rfl) (ih (k + 1) (by omega) (by omega))
      · refine rr_go hC bk_X11_sweeps_21_30 (l' := [(0, .ref 0), (1, .int ((nI (m_swc q k)) + 1)), (2, .int (nI k))]) (st' := [.int (nI k), .ref 0]) (w' := (W_A22 (va_up A 0 (en (p_sw q k))))) rfl ?_
        rw [show ((nI (m_swc q k)) + 1 : Int32) = nI ((m_swc q k) + 1) from nI_add (m_swc q k) 1]
        refine rr_callS hC (by decide +kernel) kl_11_198 fX11_goes (m_goes (fun _ => en (p_sw q k)) (p_sw q k) rfl k (by omega)) rfl rfl [0] rfl rfl (Eq.refl 1) rfl (rest := []) rfl rfl ⟨Nat.zero_le _, Nat.zero_le _⟩ (w2 := (W_A22 (va_up A 0 (en (p_rb (p_sw q k) k))))) rfl ?_
        show rr_J Z 3 0 0 _ 33 [(0, .ref 0), (1, .int (nI ((m_swc q k) + 1))), (2, .int (nI k))] [] (W_A22 (va_up A 0 (en (p_rb (p_sw q k) k))))
        refine rr_go hC bk_X11_sweeps_33_4 (l' := [(0, .ref 0), (1, .int (nI ((m_swc q k) + 1))), (2, .int ((nI k) + 1))]) (st' := []) (w' := (W_A22 (va_up A 0 (en (p_rb (p_sw q k) k))))) rfl ?_
        rw [show ((nI k) + 1 : Int32) = nI (k + 1) from nI_add k 1]
        exact rr_cast (l' := [(0, .ref 0), (1, .int (nI (m_swc q (k + 1)))), (2, .int (nI (k + 1)))]) (by first | (rw [show m_swc q (k + 1) = m_swc q k + 0 from if_neg (Int32.not_lt.mpr h18)]; done) | (rw [show m_swc q (k + 1) = m_swc q k + 1 from if_pos (Int32.not_le.mp h18)]; done)) rfl (w' := (W_A22 (va_up A 0 (en (p_sw q (k + 1)))))) (by rfl) (ih (k + 1) (by omega) (by omega))
  exact rr_cast (l' := [(0, .ref 0), (1, .int (nI (m_swc q 0))), (2, .int (nI 0))]) (by first | rfl | (rfl)) rfl (w' := (W_A22 (va_up A 0 (en (p_sw q 0))))) (by rw [show en (p_sw q 0) = A 0 from hA.symm, va_up_0]) (lp4 (6 - 0) 0 (by omega) (Nat.le_refl _))
