/-! Sightings: clauses 0, hours 1, so 2, inForce 3 -/
def p_lt (f : Nat → Int32) : Nat → Nat
  | 0 => 0
  | i + 1 => max (p_lt f i) ((f i).toNatClampNeg + 1)
theorem p_lt_le {f : Nat → Int32} {n : Nat} (h : ∀ i, i < n → ∃ x : Nat, x ≤ 60 ∧ f i = nI x) : p_lt f n ≤ 61 := by
  induction n with
  | zero => exact Nat.zero_le _
  | succ n ih =>
    obtain ⟨x, hx, e⟩ := h n (by omega)
    have h1 := ih (fun i hi => h i (by omega))
    have h2 : (f n).toNatClampNeg = x := by rw [e]; exact nI_clamp (by omega)
    simp only [p_lt, h2]
    omega
theorem p_lt_s {f : Nat → Int32} {n x : Nat} (hL : p_lt f n ≤ 61) (hx : x ≤ 60) (e : f n = nI x) : (if nI (p_lt f n) - 1 < nI x then nI x else nI (p_lt f n) - 1) = nI (p_lt f (n + 1)) - 1 := by
  have h2 : (f n).toNatClampNeg = x := by rw [e]; exact nI_clamp (by omega)
  simp only [p_lt, h2]
  by_cases h : p_lt f n ≤ x
  · rw [if_pos ((p_l1 (by omega) (by omega)).mpr h), show max (p_lt f n) (x + 1) = x + 1 by omega, nI_pred]
  · rw [if_neg (fun z => h ((p_l1 (by omega) (by omega)).mp z)), show max (p_lt f n) (x + 1) = p_lt f n by omega]
/-- entry i agrees with what is in force in hour h -/
def p_fb (V : Nat → Nat → Int32) (h fo : Int32) (i : Nat) : Bool := !decide (V 1 i = h) || decide (rr_b (!decide (p_bit fo (V 0 i) = 0)) = V 2 i)
def p_fit (V : Nat → Nat → Int32) (sn : Nat) (G : Nat → Nat → Int32) (tc wd cc kc b : Nat) : Bool := p_all (fun h => p_all (p_fb V (nI h) (p_fo G tc wd cc kc b h)) sn) (p_lt (V 1) sn)
def p_bs (P : Nat → Bool) : Nat → Int32
  | 0 => 0
  | b + 1 => if P b = true then p_bs P b ||| ((1 : Int32) <<< (nI b &&& 31)) else p_bs P b
def p_adf (f : Nat → Int32) (fo : Int32) (n k : Nat) : Int32 := if k < n then f k + p_bit fo (nI k) else f k
theorem p_adf_s (f : Nat → Int32) (fo : Int32) (n : Nat) : upd (p_adf f fo n) n (p_adf f fo n n + p_bit fo (nI n)) = p_adf f fo (n + 1) := by
  funext k
  by_cases e : k = n
  · subst e
    rw [pk_us]
    simp [p_adf]
  · rw [pk_un e]
    by_cases e2 : k < n
    · simp [p_adf, e2, show k < n + 1 by omega]
    · simp [p_adf, e2, show ¬ k < n + 1 by omega]
theorem p_adf_0 (f : Nat → Int32) (fo : Int32) : p_adf f fo 0 = f := by
  funext k
  simp [p_adf]
def p_cif (f : Nat → Int32) (F : Nat → Int32) (bs : Int32) : Nat → Nat → Int32
  | 0 => p_zer f 6
  | b + 1 => if p_bit bs (nI b) = 0 then p_cif f F bs b else p_adf (p_cif f F bs b) (F b) 6
def p_prt (f : Nat → Int32) (all : Int32) (k : Nat) : Int32 := if f k < all - f k then all - f k else f k
def p_bta (f : Nat → Int32) (all : Int32) : Nat → Int32 × Int32
  | 0 => (-1, all)
  | k + 1 => if p_prt f all k < (p_bta f all k).2 then (nI k, p_prt f all k) else p_bta f all k
theorem bk_X7_add_0_6 : rr_chk mX7_add [(.aload_n 0, 0, 0, 0), (.getfield 33, 0, 7, 6), (.bipush 8, 8, 0, 0)] 0 6 = true := by decide +kernel
theorem bk_X7_add_9_10 : rr_chk mX7_add [(.iconst 0, 0, 0, 0)] 9 10 = true := by decide +kernel
set_option maxRecDepth 100000 in
set_option maxHeartbeats 4000000 in
theorem c7_addFull (sn : Nat) (V : Nat → Nat → Int32) (q0 q1 : Nat) (x y : Int32) (z : Bool) (hs : 8 ≤ sn) (hs2 : sn ≤ 8) : rr_C mX7_add 0 [.ref 0, .int x, .int y, .int (rr_b z)] (W_V0 (dv (nI sn)) V q0 q1) 0 0 (some (rr_b false)) (W_V0 (dv (nI sn)) V q0 q1) := by
  refine rr_C.of (n := 3) fX7_add.1 rfl rfl (fun Z hC => ?_)
  show rr_J Z 4 0 0 (rr_MQ Z 0 0 (some (rr_b false)) (W_V0 (dv (nI sn)) V q0 q1)) 0 [(0, .ref 0), (1, .int x), (2, .int y), (3, .int (rr_b z))] [] (W_V0 (dv (nI sn)) V q0 q1)
  refine rr_go hC bk_X7_add_0_6 (l' := [(0, .ref 0), (1, .int x), (2, .int y), (3, .int (rr_b z))]) (st' := [.int 8, .int (nI sn)]) (w' := (W_V0 (dv (nI sn)) V q0 q1)) rfl ?_
  refine rr_icmp_lt hC (off := 5) (tgt := 11) (by decide +kernel) (fun h6 => by rw [rr_nl_lt (b := 8) (by omega) (by omega)] at h6; omega) (fun h6 => ?_)
  rw [rr_nl_lt (b := 8) (by omega) (by omega)] at h6
  refine rr_go hC bk_X7_add_9_10 (l' := [(0, .ref 0), (1, .int x), (2, .int y), (3, .int (rr_b z))]) (st' := [.int 0]) (w' := (W_V0 (dv (nI sn)) V q0 q1)) rfl ?_
  exact rr_retz hC (by decide +kernel) (Or.inl rfl) (by rfl) (by rfl) ⟨Nat.zero_le _, Nat.zero_le _⟩
theorem bk_X7_add_11_20 : rr_chk mX7_add [(.aload_n 0, 0, 0, 0), (.getfield 9, 0, 7, 2), (.aload_n 0, 0, 0, 0), (.getfield 33, 0, 7, 6), (.iload_n 1, 0, 1, 0)] 11 20 = true := by decide +kernel
theorem bk_X7_add_21_30 : rr_chk mX7_add [(.aload_n 0, 0, 0, 0), (.getfield 15, 0, 7, 3), (.aload_n 0, 0, 0, 0), (.getfield 33, 0, 7, 6), (.iload_n 2, 0, 2, 0)] 21 30 = true := by decide +kernel
theorem bk_X7_add_31_40 : rr_chk mX7_add [(.aload_n 0, 0, 0, 0), (.getfield 18, 0, 7, 4), (.aload_n 0, 0, 0, 0), (.getfield 33, 0, 7, 6), (.iload_n 3, 0, 3, 0)] 31 40 = true := by decide +kernel
theorem bk_X7_add_41_52 : rr_chk mX7_add [(.aload_n 0, 0, 0, 0), (.dup, 0, 0, 0), (.getfield 33, 0, 7, 6), (.iconst 1, 1, 0, 0), (.iadd, 0, 0, 0), (.putfield 33, 0, 7, 6), (.iconst 1, 1, 0, 0)] 41 52 = true := by decide +kernel
set_option maxRecDepth 100000 in
set_option maxHeartbeats 4000000 in
theorem c7_add (sn : Nat) (V : Nat → Nat → Int32) (q0 q1 : Nat) (x y : Int32) (z : Bool) (hs : sn < 8) : rr_C mX7_add 0 [.ref 0, .int x, .int y, .int (rr_b z)] (W_V0 (dv (nI sn)) V q0 q1) 0 0 (some (rr_b true)) (W_V0 (dv (nI (sn + 1))) (va_up (va_up (va_up V 0 (upd (V 0) sn x)) 1 (upd (V 1) sn y)) 2 (upd (V 2) sn (rr_b z))) q0 q1) := by
  refine rr_C.of (n := 3) fX7_add.1 rfl rfl (fun Z hC => ?_)
  show rr_J Z 4 0 0 (rr_MQ Z 0 0 (some (rr_b true)) (W_V0 (dv (nI (sn + 1))) (va_up (va_up (va_up V 0 (upd (V 0) sn x)) 1 (upd (V 1) sn y)) 2 (upd (V 2) sn (rr_b z))) q0 q1)) 0 [(0, .ref 0), (1, .int x), (2, .int y), (3, .int (rr_b z))] [] (W_V0 (dv (nI sn)) V q0 q1)
  refine rr_go hC bk_X7_add_0_6 (l' := [(0, .ref 0), (1, .int x), (2, .int y), (3, .int (rr_b z))]) (st' := [.int 8, .int (nI sn)]) (w' := (W_V0 (dv (nI sn)) V q0 q1)) rfl ?_
  refine rr_icmp_lt hC (off := 5) (tgt := 11) (by decide +kernel) (fun h6 => ?_) (fun h6 => by rw [rr_nl_lt (b := 8) (by omega) (by omega)] at h6; omega)
  rw [rr_nl_lt (b := 8) (by omega) (by omega)] at h6
  refine rr_go hC bk_X7_add_11_20 (l' := [(0, .ref 0), (1, .int x), (2, .int y), (3, .int (rr_b z))]) (st' := [.int x, .int (nI sn), .ref 1]) (w' := (W_V0 (dv (nI sn)) V q0 q1)) rfl ?_
  refine rr_iast hC sn (by decide +kernel) rfl rfl (by omega) rfl (w' := (W_V0 (dv (nI sn)) (va_up V 0 (upd (V 0) sn x)) q0 q1)) rfl ?_
  show rr_J Z 4 0 0 _ 21 [(0, .ref 0), (1, .int x), (2, .int y), (3, .int (rr_b z))] [] (W_V0 (dv (nI sn)) (va_up V 0 (upd (V 0) sn x)) q0 q1)
  refine rr_go hC bk_X7_add_21_30 (l' := [(0, .ref 0), (1, .int x), (2, .int y), (3, .int (rr_b z))]) (st' := [.int y, .int (nI sn), .ref 2]) (w' := (W_V0 (dv (nI sn)) (va_up V 0 (upd (V 0) sn x)) q0 q1)) rfl ?_
  refine rr_iast hC sn (by decide +kernel) rfl rfl (by omega) rfl (w' := (W_V0 (dv (nI sn)) (va_up (va_up V 0 (upd (V 0) sn x)) 1 (upd (V 1) sn y)) q0 q1)) rfl ?_
  show rr_J Z 4 0 0 _ 31 [(0, .ref 0), (1, .int x), (2, .int y), (3, .int (rr_b z))] [] (W_V0 (dv (nI sn)) (va_up (va_up V 0 (upd (V 0) sn x)) 1 (upd (V 1) sn y)) q0 q1)
  refine rr_go hC bk_X7_add_31_40 (l' := [(0, .ref 0), (1, .int x), (2, .int y), (3, .int (rr_b z))]) (st' := [.int (rr_b z), .int (nI sn), .ref 3]) (w' := (W_V0 (dv (nI sn)) (va_up (va_up V 0 (upd (V 0) sn x)) 1 (upd (V 1) sn y)) q0 q1)) rfl ?_
  refine rr_zast hC sn (by decide +kernel) rfl rfl (by omega) rfl (rr_b01 _) (w' := (W_V0 (dv (nI sn)) (va_up (va_up (va_up V 0 (upd (V 0) sn x)) 1 (upd (V 1) sn y)) 2 (upd (V 2) sn (rr_b z))) q0 q1)) rfl ?_
  show rr_J Z 4 0 0 _ 41 [(0, .ref 0), (1, .int x), (2, .int y), (3, .int (rr_b z))] [] (W_V0 (dv (nI sn)) (va_up (va_up (va_up V 0 (upd (V 0) sn x)) 1 (upd (V 1) sn y)) 2 (upd (V 2) sn (rr_b z))) q0 q1)
  refine rr_go hC bk_X7_add_41_52 (l' := [(0, .ref 0), (1, .int x), (2, .int y), (3, .int (rr_b z))]) (st' := [.int 1]) (w' := (W_V0 (upd (dv (nI sn)) 0 ((nI sn) + 1)) (va_up (va_up (va_up V 0 (upd (V 0) sn x)) 1 (upd (V 1) sn y)) 2 (upd (V 2) sn (rr_b z))) q0 q1)) rfl ?_
  rw [show ((nI sn) + 1 : Int32) = nI (sn + 1) from nI_add sn 1]
  exact rr_retz hC (by decide +kernel) (Or.inr rfl) (by rfl) (by rfl) ⟨Nat.zero_le _, Nat.zero_le _⟩
theorem bk_X7_forget_0_5 : rr_chk mX7_forget [(.aload_n 0, 0, 0, 0), (.iconst 0, 0, 0, 0), (.putfield 33, 0, 7, 6)] 0 5 = true := by decide +kernel
set_option maxRecDepth 100000 in
set_option maxHeartbeats 4000000 in
theorem c7_forget (sn : Nat) (V : Nat → Nat → Int32) (q0 q1 : Nat) : rr_C mX7_forget 0 [.ref 0] (W_V0 (dv (nI sn)) V q0 q1) 0 0 none (W_V0 (dv (nI 0)) V q0 q1) := by
  refine rr_C.of (n := 0) fX7_forget.1 rfl rfl (fun Z hC => ?_)
  show rr_J Z 1 0 0 (rr_MQ Z 0 0 none (W_V0 (dv (nI 0)) V q0 q1)) 0 [(0, .ref 0)] [] (W_V0 (dv (nI sn)) V q0 q1)
  refine rr_go hC bk_X7_forget_0_5 (l' := [(0, .ref 0)]) (st' := []) (w' := (W_V0 (upd (dv (nI sn)) 0 0) V q0 q1)) rfl ?_
  exact rr_retv hC (by decide +kernel) (by rfl) ⟨Nat.zero_le _, Nat.zero_le _⟩
theorem bk_X7_latestHour_0_4 : rr_chk mX7_latestHour [(.iconst (-1), (-1), 0, 0), (.istore_n 1, 0, 1, 0), (.iconst 0, 0, 0, 0), (.istore_n 2, 0, 2, 0)] 0 4 = true := by decide +kernel
theorem bk_X7_latestHour_4_9 : rr_chk mX7_latestHour [(.iload_n 2, 0, 2, 0), (.aload_n 0, 0, 0, 0), (.getfield 33, 0, 7, 6)] 4 9 = true := by decide +kernel
theorem bk_X7_latestHour_29_30 : rr_chk mX7_latestHour [(.iload_n 1, 0, 1, 0)] 29 30 = true := by decide +kernel
theorem bk_X7_latestHour_12_18 : rr_chk mX7_latestHour [(.iload_n 1, 0, 1, 0), (.aload_n 0, 0, 0, 0), (.getfield 15, 0, 7, 3), (.iload_n 2, 0, 2, 0)] 12 18 = true := by decide +kernel
theorem bk_X7_latestHour_22_4 : rr_chk mX7_latestHour [(.istore_n 1, 0, 1, 0), (.iinc 2 1, 1, 2, 0), (.goto (-22), 0, 0, 0)] 22 4 = true := by decide +kernel
set_option maxRecDepth 100000 in
set_option maxHeartbeats 4000000 in
theorem c7_latestHour (sn : Nat) (V : Nat → Nat → Int32) (q0 q1 : Nat) (hs : sn ≤ 8) (hV1 : ∀ i, i < sn → ∃ x : Nat, x ≤ 60 ∧ V 1 i = nI x) : rr_C mX7_latestHour 1 [.ref 0] (W_V0 (dv (nI sn)) V q0 q1) 0 0 (some (nI (p_lt (V 1) sn) - 1)) (W_V0 (dv (nI sn)) V q0 q1) := by
  refine rr_C.of (n := 0) fX7_latestHour.1 rfl rfl (fun Z hC => ?_)
  show rr_J Z 3 0 0 (rr_MQ Z 0 0 (some (nI (p_lt (V 1) sn) - 1)) (W_V0 (dv (nI sn)) V q0 q1)) 0 [(0, .ref 0)] [] (W_V0 (dv (nI sn)) V q0 q1)
  refine rr_go hC bk_X7_latestHour_0_4 (l' := [(0, .ref 0), (1, .int (-1)), (2, .int 0)]) (st' := []) (w' := (W_V0 (dv (nI sn)) V q0 q1)) rfl ?_
  have lp4 : ∀ (j i : Nat), i + j = sn → 0 ≤ i → rr_J Z 3 0 0 (rr_MQ Z 0 0 (some (nI (p_lt (V 1) sn) - 1)) (W_V0 (dv (nI sn)) V q0 q1)) 4 [(0, .ref 0), (1, .int (nI (p_lt (V 1) i) - 1)), (2, .int (nI i))] [] (W_V0 (dv (nI sn)) V q0 q1) := by
    intro j
    induction j with
    | zero =>
      intro i hk4 hlo4
      refine rr_go hC bk_X7_latestHour_4_9 (l' := [(0, .ref 0), (1, .int (nI (p_lt (V 1) i) - 1)), (2, .int (nI i))]) (st' := [.int (nI sn), .int (nI i)]) (w' := (W_V0 (dv (nI sn)) V q0 q1)) rfl ?_
      refine rr_icmp_ge hC (off := 20) (tgt := 29) (by decide +kernel) (fun h9 => ?_) (fun h9 => by rw [rr_nn_le (by omega) (by omega)] at h9; omega)
      rw [rr_nn_le (by omega) (by omega)] at h9
      refine rr_go hC bk_X7_latestHour_29_30 (l' := [(0, .ref 0), (1, .int (nI (p_lt (V 1) i) - 1)), (2, .int (nI i))]) (st' := [.int (nI (p_lt (V 1) i) - 1)]) (w' := (W_V0 (dv (nI sn)) V q0 q1)) rfl ?_
      exact rr_reti hC (by decide +kernel) (by rw [show i = sn by omega]) (by rfl) ⟨Nat.zero_le _, Nat.zero_le _⟩
    | succ j ih =>
      intro i hk4 hlo4
      refine rr_go hC bk_X7_latestHour_4_9 (l' := [(0, .ref 0), (1, .int (nI (p_lt (V 1) i) - 1)), (2, .int (nI i))]) (st' := [.int (nI sn), .int (nI i)]) (w' := (W_V0 (dv (nI sn)) V q0 q1)) rfl ?_
      refine rr_icmp_ge hC (off := 20) (tgt := 29) (by decide +kernel) (fun h9 => by rw [rr_nn_le (by omega) (by omega)] at h9; omega) (fun h9 => ?_)
      rw [rr_nn_le (by omega) (by omega)] at h9
      refine rr_go hC bk_X7_latestHour_12_18 (l' := [(0, .ref 0), (1, .int (nI (p_lt (V 1) i) - 1)), (2, .int (nI i))]) (st' := [.int (nI i), .ref 2, .int (nI (p_lt (V 1) i) - 1)]) (w' := (W_V0 (dv (nI sn)) V q0 q1)) rfl ?_
      refine rr_iald hC i (by decide +kernel) rfl rfl (by omega) rfl ?_
      show rr_J Z 3 0 0 _ 19 [(0, .ref 0), (1, .int (nI (p_lt (V 1) i) - 1)), (2, .int (nI i))] [.int (V 1 i), .int (nI (p_lt (V 1) i) - 1)] (W_V0 (dv (nI sn)) V q0 q1)
      obtain ⟨x, hx, hx2⟩ := hV1 i (by omega)
      refine rr_mmax hC (by decide +kernel) kl_7_67 rfl rfl rfl ⟨Nat.zero_le _, Nat.zero_le _⟩ ?_
      refine rr_go hC bk_X7_latestHour_22_4 (l' := [(0, .ref 0), (1, .int (if nI (p_lt (V 1) i) - 1 < V 1 i then V 1 i else nI (p_lt (V 1) i) - 1)), (2, .int ((nI i) + 1))]) (st' := []) (w' := (W_V0 (dv (nI sn)) V q0 q1)) rfl ?_
      rw [show ((nI i) + 1 : Int32) = nI (i + 1) from nI_add i 1]
      exact rr_cast (l' := [(0, .ref 0), (1, .int (nI (p_lt (V 1) (i + 1)) - 1)), (2, .int (nI (i + 1)))]) (by rw [← p_lt_s (p_lt_le (fun i hi => hV1 i (by omega))) hx hx2, hx2]) rfl (w' := (W_V0 (dv (nI sn)) V q0 q1)) (by rfl) (ih (i + 1) (by omega) (by omega))
  exact rr_cast (l' := [(0, .ref 0), (1, .int (nI (p_lt (V 1) 0) - 1)), (2, .int (nI 0))]) (by first | rfl | (rfl)) rfl (w' := (W_V0 (dv (nI sn)) V q0 q1)) (by rfl) (lp4 (sn - 0) 0 (by omega) (Nat.le_refl _))
theorem bk_X7_fitsBehind_0_2 : rr_chk mX7_fitsBehind [(.iconst 0, 0, 0, 0), (.istore_n 3, 0, 3, 0)] 0 2 = true := by decide +kernel
theorem bk_X7_fitsBehind_2_7 : rr_chk mX7_fitsBehind [(.iload_n 3, 0, 3, 0), (.aload_n 0, 0, 0, 0), (.getfield 33, 0, 7, 6)] 2 7 = true := by decide +kernel
theorem bk_X7_fitsBehind_59_60 : rr_chk mX7_fitsBehind [(.iconst 1, 1, 0, 0)] 59 60 = true := by decide +kernel
theorem bk_X7_fitsBehind_10_16 : rr_chk mX7_fitsBehind [(.iload_n 2, 0, 2, 0), (.aload_n 0, 0, 0, 0), (.getfield 9, 0, 7, 2), (.iload_n 3, 0, 3, 0)] 10 16 = true := by decide +kernel
theorem bk_X7_fitsBehind_17_20 : rr_chk mX7_fitsBehind [(.ishr, 0, 0, 0), (.iconst 1, 1, 0, 0), (.iand, 0, 0, 0)] 17 20 = true := by decide +kernel
theorem bk_X7_fitsBehind_27_35 : rr_chk mX7_fitsBehind [(.iconst 0, 0, 0, 0), (.istore 4, 0, 4, 0), (.aload_n 0, 0, 0, 0), (.getfield 15, 0, 7, 3), (.iload_n 3, 0, 3, 0)] 27 35 = true := by decide +kernel
theorem bk_X7_fitsBehind_36_37 : rr_chk mX7_fitsBehind [(.iload_n 1, 0, 1, 0)] 36 37 = true := by decide +kernel
theorem bk_X7_fitsBehind_53_2 : rr_chk mX7_fitsBehind [(.iinc 3 1, 1, 3, 0), (.goto (-54), 0, 0, 0)] 53 2 = true := by decide +kernel
theorem bk_X7_fitsBehind_40_47 : rr_chk mX7_fitsBehind [(.iload 4, 0, 4, 0), (.aload_n 0, 0, 0, 0), (.getfield 18, 0, 7, 4), (.iload_n 3, 0, 3, 0)] 40 47 = true := by decide +kernel
theorem bk_X7_fitsBehind_51_52 : rr_chk mX7_fitsBehind [(.iconst 0, 0, 0, 0)] 51 52 = true := by decide +kernel
theorem bk_X7_fitsBehind_23_35 : rr_chk mX7_fitsBehind [(.iconst 1, 1, 0, 0), (.goto 4, 0, 0, 0), (.istore 4, 0, 4, 0), (.aload_n 0, 0, 0, 0), (.getfield 15, 0, 7, 3), (.iload_n 3, 0, 3, 0)] 23 35 = true := by decide +kernel
set_option maxRecDepth 100000 in
set_option maxHeartbeats 4000000 in
theorem c7_fitsBehind (sn : Nat) (V : Nat → Nat → Int32) (q0 q1 : Nat) (h fo : Int32) (hs : sn ≤ 8) : rr_C mX7_fitsBehind 0 [.ref 0, .int h, .int fo] (W_V0 (dv (nI sn)) V q0 q1) 0 0 (some (rr_b (p_all (p_fb V h fo) sn))) (W_V0 (dv (nI sn)) V q0 q1) := by
  refine rr_C.of (n := 2) fX7_fitsBehind.1 rfl rfl (fun Z hC => ?_)
  show rr_J Z 5 0 0 (rr_MQ Z 0 0 (some (rr_b (p_all (p_fb V h fo) sn))) (W_V0 (dv (nI sn)) V q0 q1)) 0 [(0, .ref 0), (1, .int h), (2, .int fo)] [] (W_V0 (dv (nI sn)) V q0 q1)
  refine rr_go hC bk_X7_fitsBehind_0_2 (l' := [(0, .ref 0), (1, .int h), (2, .int fo), (3, .int 0)]) (st' := []) (w' := (W_V0 (dv (nI sn)) V q0 q1)) rfl ?_
  have lp2 : ∀ (j i : Nat), i + j = sn → 0 ≤ i → p_all (p_fb V h fo) i = true → rr_J Z 5 0 0 (rr_MQ Z 0 0 (some (rr_b (p_all (p_fb V h fo) sn))) (W_V0 (dv (nI sn)) V q0 q1)) 2 [(0, .ref 0), (1, .int h), (2, .int fo), (3, .int (nI i))] [] (W_V0 (dv (nI sn)) V q0 q1) := by
    intro j
    induction j with
    | zero =>
      intro i hk2 hlo2 hq
      refine rr_go hC bk_X7_fitsBehind_2_7 (l' := [(0, .ref 0), (1, .int h), (2, .int fo), (3, .int (nI i))]) (st' := [.int (nI sn), .int (nI i)]) (w' := (W_V0 (dv (nI sn)) V q0 q1)) rfl ?_
      refine rr_icmp_ge hC (off := 52) (tgt := 59) (by decide +kernel) (fun h7 => ?_) (fun h7 => by rw [rr_nn_le (by omega) (by omega)] at h7; omega)
      rw [rr_nn_le (by omega) (by omega)] at h7
      refine rr_go hC bk_X7_fitsBehind_59_60 (l' := [(0, .ref 0), (1, .int h), (2, .int fo), (3, .int (nI i))]) (st' := [.int 1]) (w' := (W_V0 (dv (nI sn)) V q0 q1)) rfl ?_
      exact rr_retz hC (by decide +kernel) (Or.inr rfl) (by rw [show i = sn by omega] at hq; rw [hq]; rfl) (by rfl) ⟨Nat.zero_le _, Nat.zero_le _⟩
    | succ j ih =>
      intro i hk2 hlo2 hq
      refine rr_go hC bk_X7_fitsBehind_2_7 (l' := [(0, .ref 0), (1, .int h), (2, .int fo), (3, .int (nI i))]) (st' := [.int (nI sn), .int (nI i)]) (w' := (W_V0 (dv (nI sn)) V q0 q1)) rfl ?_
      refine rr_icmp_ge hC (off := 52) (tgt := 59) (by decide +kernel) (fun h7 => by rw [rr_nn_le (by omega) (by omega)] at h7; omega) (fun h7 => ?_)
      rw [rr_nn_le (by omega) (by omega)] at h7
      refine rr_go hC bk_X7_fitsBehind_10_16 (l' := [(0, .ref 0), (1, .int h), (2, .int fo), (3, .int (nI i))]) (st' := [.int (nI i), .ref 1, .int fo]) (w' := (W_V0 (dv (nI sn)) V q0 q1)) rfl ?_
      refine rr_iald hC i (by decide +kernel) rfl rfl (by omega) rfl ?_
      show rr_J Z 5 0 0 _ 17 [(0, .ref 0), (1, .int h), (2, .int fo), (3, .int (nI i))] [.int (V 0 i), .int fo] (W_V0 (dv (nI sn)) V q0 q1)
      refine rr_go hC bk_X7_fitsBehind_17_20 (l' := [(0, .ref 0), (1, .int h), (2, .int fo), (3, .int (nI i))]) (st' := [.int ((fo >>> (V 0 i &&& 31)) &&& 1)]) (w' := (W_V0 (dv (nI sn)) V q0 q1)) rfl ?_
      refine rr_if_eq hC (off := 7) (tgt := 27) (by decide +kernel) (fun h20 => ?_) (fun h20 => ?_)
      · refine rr_go hC bk_X7_fitsBehind_27_35 (l' := [(0, .ref 0), (1, .int h), (2, .int fo), (3, .int (nI i)), (4, .int 0)]) (st' := [.int (nI i), .ref 2]) (w' := (W_V0 (dv (nI sn)) V q0 q1)) rfl ?_
        refine rr_iald hC i (by decide +kernel) rfl rfl (by omega) rfl ?_
        show rr_J Z 5 0 0 _ 36 [(0, .ref 0), (1, .int h), (2, .int fo), (3, .int (nI i)), (4, .int 0)] [.int (V 1 i)] (W_V0 (dv (nI sn)) V q0 q1)
        refine rr_go hC bk_X7_fitsBehind_36_37 (l' := [(0, .ref 0), (1, .int h), (2, .int fo), (3, .int (nI i)), (4, .int 0)]) (st' := [.int h, .int (V 1 i)]) (w' := (W_V0 (dv (nI sn)) V q0 q1)) rfl ?_
        refine rr_icmp_ne hC (off := 16) (tgt := 53) (by decide +kernel) (fun h37 => ?_) (fun h37 => ?_)
        · refine rr_go hC bk_X7_fitsBehind_53_2 (l' := [(0, .ref 0), (1, .int h), (2, .int fo), (3, .int ((nI i) + 1)), (4, .int 0)]) (st' := []) (w' := (W_V0 (dv (nI sn)) V q0 q1)) rfl ?_
          rw [show ((nI i) + 1 : Int32) = nI (i + 1) from nI_add i 1]
          refine rr_dr 4 (l' := [(0, .ref 0), (1, .int h), (2, .int fo), (3, .int (nI (i + 1)))]) rfl ?_
          exact rr_cast (l' := [(0, .ref 0), (1, .int h), (2, .int fo), (3, .int (nI (i + 1)))]) (by rfl) rfl (w' := (W_V0 (dv (nI sn)) V q0 q1)) (by rfl) (ih (i + 1) (by omega) (by omega) (by simp only [p_all, Bool.and_eq_true]; refine ⟨hq, ?_⟩; first | (simp [p_fb, h37]; done) | (simp only [p_fb]; rw [← h48]; simp [p_bit, rr_b, h20])))
        · refine rr_go hC bk_X7_fitsBehind_40_47 (l' := [(0, .ref 0), (1, .int h), (2, .int fo), (3, .int (nI i)), (4, .int 0)]) (st' := [.int (nI i), .ref 3, .int 0]) (w' := (W_V0 (dv (nI sn)) V q0 q1)) rfl ?_
          refine rr_zald hC i (by decide +kernel) rfl rfl (by omega) rfl ?_
          show rr_J Z 5 0 0 _ 48 [(0, .ref 0), (1, .int h), (2, .int fo), (3, .int (nI i)), (4, .int 0)] [.int (V 2 i), .int 0] (W_V0 (dv (nI sn)) V q0 q1)
          refine rr_icmp_eq hC (off := 5) (tgt := 53) (by decide +kernel) (fun h48 => ?_) (fun h48 => ?_)
          · refine rr_go hC bk_X7_fitsBehind_53_2 (l' := [(0, .ref 0), (1, .int h), (2, .int fo), (3, .int ((nI i) + 1)), (4, .int 0)]) (st' := []) (w' := (W_V0 (dv (nI sn)) V q0 q1)) rfl ?_
            rw [show ((nI i) + 1 : Int32) = nI (i + 1) from nI_add i 1]
            refine rr_dr 4 (l' := [(0, .ref 0), (1, .int h), (2, .int fo), (3, .int (nI (i + 1)))]) rfl ?_
            exact rr_cast (l' := [(0, .ref 0), (1, .int h), (2, .int fo), (3, .int (nI (i + 1)))]) (by rfl) rfl (w' := (W_V0 (dv (nI sn)) V q0 q1)) (by rfl) (ih (i + 1) (by omega) (by omega) (by simp only [p_all, Bool.and_eq_true]; refine ⟨hq, ?_⟩; first | (simp [p_fb, h37]; done) | (simp only [p_fb]; rw [← h48]; simp [p_bit, rr_b, h20])))
          · refine rr_go hC bk_X7_fitsBehind_51_52 (l' := [(0, .ref 0), (1, .int h), (2, .int fo), (3, .int (nI i)), (4, .int 0)]) (st' := [.int 0]) (w' := (W_V0 (dv (nI sn)) V q0 q1)) rfl ?_
            exact rr_retz hC (by decide +kernel) (Or.inl rfl) (by rw [p_all_no (k := i) (by omega) (by simp [p_fb, p_bit, rr_b, *])]; rfl) (by rfl) ⟨Nat.zero_le _, Nat.zero_le _⟩
      · refine rr_go hC bk_X7_fitsBehind_23_35 (l' := [(0, .ref 0), (1, .int h), (2, .int fo), (3, .int (nI i)), (4, .int 1)]) (st' := [.int (nI i), .ref 2]) (w' := (W_V0 (dv (nI sn)) V q0 q1)) rfl ?_
        refine rr_iald hC i (by decide +kernel) rfl rfl (by omega) rfl ?_
        show rr_J Z 5 0 0 _ 36 [(0, .ref 0), (1, .int h), (2, .int fo), (3, .int (nI i)), (4, .int 1)] [.int (V 1 i)] (W_V0 (dv (nI sn)) V q0 q1)
        refine rr_go hC bk_X7_fitsBehind_36_37 (l' := [(0, .ref 0), (1, .int h), (2, .int fo), (3, .int (nI i)), (4, .int 1)]) (st' := [.int h, .int (V 1 i)]) (w' := (W_V0 (dv (nI sn)) V q0 q1)) rfl ?_
        refine rr_icmp_ne hC (off := 16) (tgt := 53) (by decide +kernel) (fun h37 => ?_) (fun h37 => ?_)
        · refine rr_go hC bk_X7_fitsBehind_53_2 (l' := [(0, .ref 0), (1, .int h), (2, .int fo), (3, .int ((nI i) + 1)), (4, .int 1)]) (st' := []) (w' := (W_V0 (dv (nI sn)) V q0 q1)) rfl ?_
          rw [show ((nI i) + 1 : Int32) = nI (i + 1) from nI_add i 1]
          refine rr_dr 4 (l' := [(0, .ref 0), (1, .int h), (2, .int fo), (3, .int (nI (i + 1)))]) rfl ?_
          exact rr_cast (l' := [(0, .ref 0), (1, .int h), (2, .int fo), (3, .int (nI (i + 1)))]) (by rfl) rfl (w' := (W_V0 (dv (nI sn)) V q0 q1)) (by rfl) (ih (i + 1) (by omega) (by omega) (by simp only [p_all, Bool.and_eq_true]; refine ⟨hq, ?_⟩; first | (simp [p_fb, h37]; done) | (simp only [p_fb]; rw [← h48]; simp [p_bit, rr_b, h20])))
        · refine rr_go hC bk_X7_fitsBehind_40_47 (l' := [(0, .ref 0), (1, .int h), (2, .int fo), (3, .int (nI i)), (4, .int 1)]) (st' := [.int (nI i), .ref 3, .int 1]) (w' := (W_V0 (dv (nI sn)) V q0 q1)) rfl ?_
          refine rr_zald hC i (by decide +kernel) rfl rfl (by omega) rfl ?_
          show rr_J Z 5 0 0 _ 48 [(0, .ref 0), (1, .int h), (2, .int fo), (3, .int (nI i)), (4, .int 1)] [.int (V 2 i), .int 1] (W_V0 (dv (nI sn)) V q0 q1)
          refine rr_icmp_eq hC (off := 5) (tgt := 53) (by decide +kernel) (fun h48 => ?_) (fun h48 => ?_)
          · refine rr_go hC bk_X7_fitsBehind_53_2 (l' := [(0, .ref 0), (1, .int h), (2, .int fo), (3, .int ((nI i) + 1)), (4, .int 1)]) (st' := []) (w' := (W_V0 (dv (nI sn)) V q0 q1)) rfl ?_
            rw [show ((nI i) + 1 : Int32) = nI (i + 1) from nI_add i 1]
            refine rr_dr 4 (l' := [(0, .ref 0), (1, .int h), (2, .int fo), (3, .int (nI (i + 1)))]) rfl ?_
            exact rr_cast (l' := [(0, .ref 0), (1, .int h), (2, .int fo), (3, .int (nI (i + 1)))]) (by rfl) rfl (w' := (W_V0 (dv (nI sn)) V q0 q1)) (by rfl) (ih (i + 1) (by omega) (by omega) (by simp only [p_all, Bool.and_eq_true]; refine ⟨hq, ?_⟩; first | (simp [p_fb, h37]; done) | (simp only [p_fb]; rw [← h48]; simp [p_bit, rr_b, h20])))
          · refine rr_go hC bk_X7_fitsBehind_51_52 (l' := [(0, .ref 0), (1, .int h), (2, .int fo), (3, .int (nI i)), (4, .int 1)]) (st' := [.int 0]) (w' := (W_V0 (dv (nI sn)) V q0 q1)) rfl ?_
            exact rr_retz hC (by decide +kernel) (Or.inl rfl) (by rw [p_all_no (k := i) (by omega) (by simp [p_fb, p_bit, rr_b, *])]; rfl) (by rfl) ⟨Nat.zero_le _, Nat.zero_le _⟩
  exact rr_cast (l' := [(0, .ref 0), (1, .int h), (2, .int fo), (3, .int (nI 0))]) (by first | rfl | (simp [*])) rfl (w' := (W_V0 (dv (nI sn)) V q0 q1)) (by rfl) (lp2 (sn - 0) 0 (by omega) (Nat.le_refl _) rfl)
theorem bk_X7_fits_0_1 : rr_chk mX7_fits [(.aload_n 0, 0, 0, 0)] 0 1 = true := by decide +kernel
theorem bk_X7_fits_4_10 : rr_chk mX7_fits [(.istore_n 2, 0, 2, 0), (.aload_n 0, 0, 0, 0), (.getfield 29, 0, 7, 1), (.iload_n 1, 0, 1, 0)] 4 10 = true := by decide +kernel
theorem bk_X7_fits_13_15 : rr_chk mX7_fits [(.iconst 0, 0, 0, 0), (.istore_n 3, 0, 3, 0)] 13 15 = true := by decide +kernel
theorem bk_X7_fits_15_17 : rr_chk mX7_fits [(.iload_n 3, 0, 3, 0), (.iload_n 2, 0, 2, 0)] 15 17 = true := by decide +kernel
theorem bk_X7_fits_50_51 : rr_chk mX7_fits [(.iconst 1, 1, 0, 0)] 50 51 = true := by decide +kernel
theorem bk_X7_fits_20_26 : rr_chk mX7_fits [(.aload_n 0, 0, 0, 0), (.iload_n 3, 0, 3, 0), (.aload_n 0, 0, 0, 0), (.getfield 29, 0, 7, 1)] 20 26 = true := by decide +kernel
theorem bk_X7_fits_37_41 : rr_chk mX7_fits [(.aload_n 0, 0, 0, 0), (.getfield 29, 0, 7, 1)] 37 41 = true := by decide +kernel
theorem bk_X7_fits_44_15 : rr_chk mX7_fits [(.iinc 3 1, 1, 3, 0), (.goto (-32), 0, 0, 0)] 44 15 = true := by decide +kernel
theorem bk_X7_fits_35_36 : rr_chk mX7_fits [(.iconst 0, 0, 0, 0)] 35 36 = true := by decide +kernel
set_option maxRecDepth 100000 in
set_option maxHeartbeats 4000000 in
theorem c7_fits (sn : Nat) (V : Nat → Nat → Int32) (hx : Nat) (s5 r1 r2 : Int32) (T : Nat → Nat → Int32) (tc wd cc kc : Nat) (G : Nat → Nat → Int32) (b : Nat) (hb : b < 12) (htc : tc ≤ 12) (hcc : cc ≤ 9) (hkc : kc ≤ 6) (hs : sn ≤ 8) (hV1 : ∀ i, i < sn → ∃ x : Nat, x ≤ 60 ∧ V 1 i = nI x) : rr_CP mX7_fits 4 [.ref 0, .int (nI b)] (W_V (dv (nI sn)) V (sv4 (nI hx) s5 r1 r2) T (gv tc wd cc kc) G) 0 0 (fun r w' => r = some (rr_b (p_fit V sn G tc wd cc kc b)) ∧ ∃ (hx : Nat) (s5 r1 r2 : Int32) (T : Nat → Nat → Int32), w' = W_V (dv (nI sn)) V (sv4 (nI hx) s5 r1 r2) T (gv tc wd cc kc) G) := by
  refine rr_CP.of (n := 1) fX7_fits.1 rfl rfl (fun Z hC => ?_)
  show rr_J Z 4 0 0 (rr_MP Z 0 0 (fun r w' => r = some (rr_b (p_fit V sn G tc wd cc kc b)) ∧ ∃ (hx : Nat) (s5 r1 r2 : Int32) (T : Nat → Nat → Int32), w' = W_V (dv (nI sn)) V (sv4 (nI hx) s5 r1 r2) T (gv tc wd cc kc) G)) 0 [(0, .ref 0), (1, .int (nI b))] [] (W_V (dv (nI sn)) V (sv4 (nI hx) s5 r1 r2) T (gv tc wd cc kc) G)
  have hL := p_lt_le hV1
  refine rr_go hC bk_X7_fits_0_1 (l' := [(0, .ref 0), (1, .int (nI b))]) (st' := [.ref 0]) (w' := (W_V (dv (nI sn)) V (sv4 (nI hx) s5 r1 r2) T (gv tc wd cc kc) G)) rfl ?_
  refine rr_callV hC (by decide +kernel) kl_7_47 fX7_latestHour (c7_latestHour sn V 14 10 (by omega) hV1) rfl rfl [0, 1, 2, 3, 4] rfl rfl (Eq.refl 5) rfl rfl rfl (rest := []) rfl rfl ⟨Nat.zero_le _, Nat.zero_le _⟩ (w2 := (W_V (dv (nI sn)) V (sv4 (nI hx) s5 r1 r2) T (gv tc wd cc kc) G)) rfl ?_
  show rr_J Z 4 0 0 _ 4 [(0, .ref 0), (1, .int (nI b))] [.int (nI (p_lt (V 1) sn) - 1)] (W_V (dv (nI sn)) V (sv4 (nI hx) s5 r1 r2) T (gv tc wd cc kc) G)
  refine rr_go hC bk_X7_fits_4_10 (l' := [(0, .ref 0), (1, .int (nI b)), (2, .int (nI (p_lt (V 1) sn) - 1))]) (st' := [.int (nI b), .ref 5]) (w' := (W_V (dv (nI sn)) V (sv4 (nI hx) s5 r1 r2) T (gv tc wd cc kc) G)) rfl ?_
  refine rr_callV hC (by decide +kernel) kl_7_51 fX6_layAll (c6_layAll hx s5 r1 r2 T tc wd cc kc G b (by omega) (by omega)) rfl rfl [5, 6, 7, 8, 9, 10, 11, 12, 13, 14, 15] rfl rfl (Eq.refl 11) rfl rfl rfl (rest := []) rfl rfl ⟨Nat.zero_le _, Nat.zero_le _⟩ (w2 := (W_V (dv (nI sn)) V (sv4 (nI b) (-1) 0 0) (p_lay (p_rsS T 6) G (min kc cc)) (gv tc wd cc kc) G)) rfl ?_
  show rr_J Z 4 0 0 _ 13 [(0, .ref 0), (1, .int (nI b)), (2, .int (nI (p_lt (V 1) sn) - 1))] [] (W_V (dv (nI sn)) V (sv4 (nI b) (-1) 0 0) (p_lay (p_rsS T 6) G (min kc cc)) (gv tc wd cc kc) G)
  refine rr_cast (l' := [(0, .ref 0), (1, .int (nI b)), (2, .int (nI (p_lt (V 1) sn) - 1))]) rfl rfl (w' := (W_V (dv (nI sn)) V (sv4 (nI (p_it G tc wd kc (p_layq G cc kc b T) 0).1) (p_it G tc wd kc (p_layq G cc kc b T) 0).2.1 (p_it G tc wd kc (p_layq G cc kc b T) 0).2.2.1 (p_it G tc wd kc (p_layq G cc kc b T) 0).2.2.2.1) ((p_it G tc wd kc (p_layq G cc kc b T) 0).2.2.2.2) (gv tc wd cc kc) G)) rfl ?_
  refine rr_go hC bk_X7_fits_13_15 (l' := [(0, .ref 0), (1, .int (nI b)), (2, .int (nI (p_lt (V 1) sn) - 1)), (3, .int 0)]) (st' := []) (w' := (W_V (dv (nI sn)) V (sv4 (nI (p_it G tc wd kc (p_layq G cc kc b T) 0).1) (p_it G tc wd kc (p_layq G cc kc b T) 0).2.1 (p_it G tc wd kc (p_layq G cc kc b T) 0).2.2.1 (p_it G tc wd kc (p_layq G cc kc b T) 0).2.2.2.1) ((p_it G tc wd kc (p_layq G cc kc b T) 0).2.2.2.2) (gv tc wd cc kc) G)) rfl ?_
  have lp15 : ∀ (j h : Nat), h + j = p_lt (V 1) sn → 0 ≤ h → p_all (fun h => p_all (p_fb V (nI h) (p_fo G tc wd cc kc b h)) sn) h = true → rr_J Z 4 0 0 (rr_MP Z 0 0 (fun r w' => r = some (rr_b (p_fit V sn G tc wd cc kc b)) ∧ ∃ (hx : Nat) (s5 r1 r2 : Int32) (T : Nat → Nat → Int32), w' = W_V (dv (nI sn)) V (sv4 (nI hx) s5 r1 r2) T (gv tc wd cc kc) G)) 15 [(0, .ref 0), (1, .int (nI b)), (2, .int (nI (p_lt (V 1) sn) - 1)), (3, .int (nI h))] [] (W_V (dv (nI sn)) V (sv4 (nI (p_it G tc wd kc (p_layq G cc kc b T) h).1) (p_it G tc wd kc (p_layq G cc kc b T) h).2.1 (p_it G tc wd kc (p_layq G cc kc b T) h).2.2.1 (p_it G tc wd kc (p_layq G cc kc b T) h).2.2.2.1) ((p_it G tc wd kc (p_layq G cc kc b T) h).2.2.2.2) (gv tc wd cc kc) G) := by
    intro j
    induction j with
    | zero =>
      intro h hk15 hlo15 hq
      have hq1 : (p_it G tc wd kc (p_layq G cc kc b T) h).1 = b + h := p_it_h G tc wd kc (p_layq G cc kc b T) h
      have hqo : p_ok (p_it G tc wd kc (p_layq G cc kc b T) h).2.2.2.2 cc kc := p_it_ok (p_layq_ok G cc kc b hkc T) h
      refine rr_go hC bk_X7_fits_15_17 (l' := [(0, .ref 0), (1, .int (nI b)), (2, .int (nI (p_lt (V 1) sn) - 1)), (3, .int (nI h))]) (st' := [.int (nI (p_lt (V 1) sn) - 1), .int (nI h)]) (w' := (W_V (dv (nI sn)) V (sv4 (nI (p_it G tc wd kc (p_layq G cc kc b T) h).1) (p_it G tc wd kc (p_layq G cc kc b T) h).2.1 (p_it G tc wd kc (p_layq G cc kc b T) h).2.2.1 (p_it G tc wd kc (p_layq G cc kc b T) h).2.2.2.1) ((p_it G tc wd kc (p_layq G cc kc b T) h).2.2.2.2) (gv tc wd cc kc) G)) rfl ?_
      refine rr_icmp_gt hC (off := 33) (tgt := 50) (by decide +kernel) (fun h17 => ?_) (fun h17 => by  rw [p_l1 (by omega) (by omega)] at h17; omega)
      refine rr_go hC bk_X7_fits_50_51 (l' := [(0, .ref 0), (1, .int (nI b)), (2, .int (nI (p_lt (V 1) sn) - 1)), (3, .int (nI h))]) (st' := [.int 1]) (w' := (W_V (dv (nI sn)) V (sv4 (nI (p_it G tc wd kc (p_layq G cc kc b T) h).1) (p_it G tc wd kc (p_layq G cc kc b T) h).2.1 (p_it G tc wd kc (p_layq G cc kc b T) h).2.2.1 (p_it G tc wd kc (p_layq G cc kc b T) h).2.2.2.1) ((p_it G tc wd kc (p_layq G cc kc b T) h).2.2.2.2) (gv tc wd cc kc) G)) rfl ?_
      exact rr_retzP hC (by decide +kernel) (Or.inr rfl) (by refine ⟨?_, _, _, _, _, _, rfl⟩; unfold p_fit; rw [show h = p_lt (V 1) sn by omega] at hq; rw [hq]; rfl) ⟨Nat.zero_le _, Nat.zero_le _⟩
    | succ j ih =>
      intro h hk15 hlo15 hq
      have hq1 : (p_it G tc wd kc (p_layq G cc kc b T) h).1 = b + h := p_it_h G tc wd kc (p_layq G cc kc b T) h
      have hqo : p_ok (p_it G tc wd kc (p_layq G cc kc b T) h).2.2.2.2 cc kc := p_it_ok (p_layq_ok G cc kc b hkc T) h
      refine rr_go hC bk_X7_fits_15_17 (l' := [(0, .ref 0), (1, .int (nI b)), (2, .int (nI (p_lt (V 1) sn) - 1)), (3, .int (nI h))]) (st' := [.int (nI (p_lt (V 1) sn) - 1), .int (nI h)]) (w' := (W_V (dv (nI sn)) V (sv4 (nI (p_it G tc wd kc (p_layq G cc kc b T) h).1) (p_it G tc wd kc (p_layq G cc kc b T) h).2.1 (p_it G tc wd kc (p_layq G cc kc b T) h).2.2.1 (p_it G tc wd kc (p_layq G cc kc b T) h).2.2.2.1) ((p_it G tc wd kc (p_layq G cc kc b T) h).2.2.2.2) (gv tc wd cc kc) G)) rfl ?_
      refine rr_icmp_gt hC (off := 33) (tgt := 50) (by decide +kernel) (fun h17 => by  rw [p_l1 (by omega) (by omega)] at h17; omega) (fun h17 => ?_)
      refine rr_go hC bk_X7_fits_20_26 (l' := [(0, .ref 0), (1, .int (nI b)), (2, .int (nI (p_lt (V 1) sn) - 1)), (3, .int (nI h))]) (st' := [.ref 5, .int (nI h), .ref 0]) (w' := (W_V (dv (nI sn)) V (sv4 (nI (p_it G tc wd kc (p_layq G cc kc b T) h).1) (p_it G tc wd kc (p_layq G cc kc b T) h).2.1 (p_it G tc wd kc (p_layq G cc kc b T) h).2.2.1 (p_it G tc wd kc (p_layq G cc kc b T) h).2.2.2.1) ((p_it G tc wd kc (p_layq G cc kc b T) h).2.2.2.2) (gv tc wd cc kc) G)) rfl ?_
      refine rr_callV hC (by decide +kernel) kl_7_57 fX6_forceSet (c6_forceSet ((p_it G tc wd kc (p_layq G cc kc b T) h).1) ((p_it G tc wd kc (p_layq G cc kc b T) h).2.1) ((p_it G tc wd kc (p_layq G cc kc b T) h).2.2.1) ((p_it G tc wd kc (p_layq G cc kc b T) h).2.2.2.1) ((p_it G tc wd kc (p_layq G cc kc b T) h).2.2.2.2) tc wd cc kc G (by omega)) rfl rfl [5, 6, 7, 8, 9, 10, 11, 12, 13, 14, 15] rfl rfl (Eq.refl 11) rfl rfl rfl (rest := [.int (nI h), .ref 0]) rfl rfl ⟨Nat.zero_le _, Nat.zero_le _⟩ (w2 := (W_V (dv (nI sn)) V (sv4 (nI (p_it G tc wd kc (p_layq G cc kc b T) h).1) (p_it G tc wd kc (p_layq G cc kc b T) h).2.1 (p_it G tc wd kc (p_layq G cc kc b T) h).2.2.1 (p_it G tc wd kc (p_layq G cc kc b T) h).2.2.2.1) ((p_it G tc wd kc (p_layq G cc kc b T) h).2.2.2.2) (gv tc wd cc kc) G)) rfl ?_
      show rr_J Z 4 0 0 _ 29 [(0, .ref 0), (1, .int (nI b)), (2, .int (nI (p_lt (V 1) sn) - 1)), (3, .int (nI h))] [.int (p_fs ((p_it G tc wd kc (p_layq G cc kc b T) h).2.2.2.2) G kc), .int (nI h), .ref 0] (W_V (dv (nI sn)) V (sv4 (nI (p_it G tc wd kc (p_layq G cc kc b T) h).1) (p_it G tc wd kc (p_layq G cc kc b T) h).2.1 (p_it G tc wd kc (p_layq G cc kc b T) h).2.2.1 (p_it G tc wd kc (p_layq G cc kc b T) h).2.2.2.1) ((p_it G tc wd kc (p_layq G cc kc b T) h).2.2.2.2) (gv tc wd cc kc) G)
      rw [p_fs_T G tc wd cc kc b hkc T h]
      change rr_J Z _ 0 0 _ _ _ (.int (p_fo G tc wd cc kc b h) :: _) _
      refine rr_callV hC (by decide +kernel) kl_7_60 fX7_fitsBehind (c7_fitsBehind sn V 14 10 (nI h) (p_fo G tc wd cc kc b h) (by omega)) rfl rfl [0, 1, 2, 3, 4] rfl rfl (Eq.refl 5) rfl rfl rfl (rest := []) rfl rfl ⟨Nat.zero_le _, Nat.zero_le _⟩ (w2 := (W_V (dv (nI sn)) V (sv4 (nI (p_it G tc wd kc (p_layq G cc kc b T) h).1) (p_it G tc wd kc (p_layq G cc kc b T) h).2.1 (p_it G tc wd kc (p_layq G cc kc b T) h).2.2.1 (p_it G tc wd kc (p_layq G cc kc b T) h).2.2.2.1) ((p_it G tc wd kc (p_layq G cc kc b T) h).2.2.2.2) (gv tc wd cc kc) G)) rfl ?_
      show rr_J Z 4 0 0 _ 32 [(0, .ref 0), (1, .int (nI b)), (2, .int (nI (p_lt (V 1) sn) - 1)), (3, .int (nI h))] [.int (rr_b (p_all (p_fb V (nI h) (p_fo G tc wd cc kc b h)) sn))] (W_V (dv (nI sn)) V (sv4 (nI (p_it G tc wd kc (p_layq G cc kc b T) h).1) (p_it G tc wd kc (p_layq G cc kc b T) h).2.1 (p_it G tc wd kc (p_layq G cc kc b T) h).2.2.1 (p_it G tc wd kc (p_layq G cc kc b T) h).2.2.2.1) ((p_it G tc wd kc (p_layq G cc kc b T) h).2.2.2.2) (gv tc wd cc kc) G)
      refine rr_neb hC (off := 5) (tgt := 37) (by decide +kernel) (fun h32 => ?_) (fun h32 => ?_)
      · refine rr_go hC bk_X7_fits_37_41 (l' := [(0, .ref 0), (1, .int (nI b)), (2, .int (nI (p_lt (V 1) sn) - 1)), (3, .int (nI h))]) (st' := [.ref 5]) (w' := (W_V (dv (nI sn)) V (sv4 (nI (p_it G tc wd kc (p_layq G cc kc b T) h).1) (p_it G tc wd kc (p_layq G cc kc b T) h).2.1 (p_it G tc wd kc (p_layq G cc kc b T) h).2.2.1 (p_it G tc wd kc (p_layq G cc kc b T) h).2.2.2.1) ((p_it G tc wd kc (p_layq G cc kc b T) h).2.2.2.2) (gv tc wd cc kc) G)) rfl ?_
        refine rr_callV hC (by decide +kernel) kl_7_64 fX6_passHour (c6_passQ (p_it G tc wd kc (p_layq G cc kc b T) h) tc wd cc kc G (by omega) (by omega) (by omega) (by omega) hqo) rfl rfl [5, 6, 7, 8, 9, 10, 11, 12, 13, 14, 15] rfl rfl (Eq.refl 11) rfl rfl rfl (rest := []) rfl rfl ⟨Nat.zero_le _, Nat.zero_le _⟩ (w2 := (W_V (dv (nI sn)) V (sv4 (nI (p_pass G tc wd kc (p_it G tc wd kc (p_layq G cc kc b T) h)).1) (p_pass G tc wd kc (p_it G tc wd kc (p_layq G cc kc b T) h)).2.1 (p_pass G tc wd kc (p_it G tc wd kc (p_layq G cc kc b T) h)).2.2.1 (p_pass G tc wd kc (p_it G tc wd kc (p_layq G cc kc b T) h)).2.2.2.1) ((p_pass G tc wd kc (p_it G tc wd kc (p_layq G cc kc b T) h)).2.2.2.2) (gv tc wd cc kc) G)) rfl ?_
        show rr_J Z 4 0 0 _ 44 [(0, .ref 0), (1, .int (nI b)), (2, .int (nI (p_lt (V 1) sn) - 1)), (3, .int (nI h))] [] (W_V (dv (nI sn)) V (sv4 (nI (p_pass G tc wd kc (p_it G tc wd kc (p_layq G cc kc b T) h)).1) (p_pass G tc wd kc (p_it G tc wd kc (p_layq G cc kc b T) h)).2.1 (p_pass G tc wd kc (p_it G tc wd kc (p_layq G cc kc b T) h)).2.2.1 (p_pass G tc wd kc (p_it G tc wd kc (p_layq G cc kc b T) h)).2.2.2.1) ((p_pass G tc wd kc (p_it G tc wd kc (p_layq G cc kc b T) h)).2.2.2.2) (gv tc wd cc kc) G)
        refine rr_go hC bk_X7_fits_44_15 (l' := [(0, .ref 0), (1, .int (nI b)), (2, .int (nI (p_lt (V 1) sn) - 1)), (3, .int ((nI h) + 1))]) (st' := []) (w' := (W_V (dv (nI sn)) V (sv4 (nI (p_pass G tc wd kc (p_it G tc wd kc (p_layq G cc kc b T) h)).1) (p_pass G tc wd kc (p_it G tc wd kc (p_layq G cc kc b T) h)).2.1 (p_pass G tc wd kc (p_it G tc wd kc (p_layq G cc kc b T) h)).2.2.1 (p_pass G tc wd kc (p_it G tc wd kc (p_layq G cc kc b T) h)).2.2.2.1) ((p_pass G tc wd kc (p_it G tc wd kc (p_layq G cc kc b T) h)).2.2.2.2) (gv tc wd cc kc) G)) rfl ?_
        rw [show ((nI h) + 1 : Int32) = nI (h + 1) from nI_add h 1]
        exact rr_cast (l' := [(0, .ref 0), (1, .int (nI b)), (2, .int (nI (p_lt (V 1) sn) - 1)), (3, .int (nI (h + 1)))]) (by rfl) rfl (w' := (W_V (dv (nI sn)) V (sv4 (nI (p_it G tc wd kc (p_layq G cc kc b T) (h + 1)).1) (p_it G tc wd kc (p_layq G cc kc b T) (h + 1)).2.1 (p_it G tc wd kc (p_layq G cc kc b T) (h + 1)).2.2.1 (p_it G tc wd kc (p_layq G cc kc b T) (h + 1)).2.2.2.1) ((p_it G tc wd kc (p_layq G cc kc b T) (h + 1)).2.2.2.2) (gv tc wd cc kc) G)) (by rfl) (ih (h + 1) (by omega) (by omega) (by simp only [p_all, Bool.and_eq_true]; exact ⟨hq, h32⟩))
      · refine rr_go hC bk_X7_fits_35_36 (l' := [(0, .ref 0), (1, .int (nI b)), (2, .int (nI (p_lt (V 1) sn) - 1)), (3, .int (nI h))]) (st' := [.int 0]) (w' := (W_V (dv (nI sn)) V (sv4 (nI (p_it G tc wd kc (p_layq G cc kc b T) h).1) (p_it G tc wd kc (p_layq G cc kc b T) h).2.1 (p_it G tc wd kc (p_layq G cc kc b T) h).2.2.1 (p_it G tc wd kc (p_layq G cc kc b T) h).2.2.2.1) ((p_it G tc wd kc (p_layq G cc kc b T) h).2.2.2.2) (gv tc wd cc kc) G)) rfl ?_
        exact rr_retzP hC (by decide +kernel) (Or.inl rfl) (by refine ⟨?_, _, _, _, _, _, rfl⟩; unfold p_fit; rw [p_all_no (k := h) (by omega) (by assumption)]; rfl) ⟨Nat.zero_le _, Nat.zero_le _⟩
  exact rr_cast (l' := [(0, .ref 0), (1, .int (nI b)), (2, .int (nI (p_lt (V 1) sn) - 1)), (3, .int (nI 0))]) (by first | rfl | (rfl)) rfl (w' := (W_V (dv (nI sn)) V (sv4 (nI (p_it G tc wd kc (p_layq G cc kc b T) 0).1) (p_it G tc wd kc (p_layq G cc kc b T) 0).2.1 (p_it G tc wd kc (p_layq G cc kc b T) 0).2.2.1 (p_it G tc wd kc (p_layq G cc kc b T) 0).2.2.2.1) ((p_it G tc wd kc (p_layq G cc kc b T) 0).2.2.2.2) (gv tc wd cc kc) G)) (by rfl) (lp15 ((p_lt (V 1) sn) - 0) 0 (by omega) (Nat.le_refl _) rfl)
theorem bk_X7_begins_0_4 : rr_chk mX7_begins [(.iconst 0, 0, 0, 0), (.istore_n 1, 0, 1, 0), (.iconst 0, 0, 0, 0), (.istore_n 2, 0, 2, 0)] 0 4 = true := by decide +kernel
theorem bk_X7_begins_4_7 : rr_chk mX7_begins [(.iload_n 2, 0, 2, 0), (.bipush 12, 12, 0, 0)] 4 7 = true := by decide +kernel
theorem bk_X7_begins_40_41 : rr_chk mX7_begins [(.iload_n 1, 0, 1, 0)] 40 41 = true := by decide +kernel
theorem bk_X7_begins_10_14 : rr_chk mX7_begins [(.aload_n 0, 0, 0, 0), (.getfield 25, 0, 7, 0)] 10 14 = true := by decide +kernel
theorem bk_X7_begins_20_22 : rr_chk mX7_begins [(.aload_n 0, 0, 0, 0), (.iload_n 2, 0, 2, 0)] 20 22 = true := by decide +kernel
theorem bk_X7_begins_34_4 : rr_chk mX7_begins [(.iinc 2 1, 1, 2, 0), (.goto (-33), 0, 0, 0)] 34 4 = true := by decide +kernel
theorem bk_X7_begins_28_4 : rr_chk mX7_begins [(.iload_n 1, 0, 1, 0), (.iconst 1, 1, 0, 0), (.iload_n 2, 0, 2, 0), (.ishl, 0, 0, 0), (.ior, 0, 0, 0), (.istore_n 1, 0, 1, 0), (.iinc 2 1, 1, 2, 0), (.goto (-33), 0, 0, 0)] 28 4 = true := by decide +kernel
set_option maxRecDepth 100000 in
set_option maxHeartbeats 4000000 in
theorem c7_begins (sn : Nat) (V : Nat → Nat → Int32) (hx : Nat) (s5 r1 r2 : Int32) (T : Nat → Nat → Int32) (tc wd cc kc : Nat) (G : Nat → Nat → Int32) (htc : tc ≤ 12) (hcc : cc ≤ 9) (hkc : kc ≤ 6) (hs : sn ≤ 8) (hV1 : ∀ i, i < sn → ∃ x : Nat, x ≤ 60 ∧ V 1 i = nI x) : rr_CP mX7_begins 5 [.ref 0] (W_V (dv (nI sn)) V (sv4 (nI hx) s5 r1 r2) T (gv tc wd cc kc) G) 0 0 (fun r w' => r = some (p_bs (p_fit V sn G tc wd cc kc) (if tc = 0 then 0 else 12)) ∧ ∃ (hx : Nat) (s5 r1 r2 : Int32) (T : Nat → Nat → Int32), w' = W_V (dv (nI sn)) V (sv4 (nI hx) s5 r1 r2) T (gv tc wd cc kc) G) := by
  refine rr_CP.of (n := 0) fX7_begins.1 rfl rfl (fun Z hC => ?_)
  show rr_J Z 3 0 0 (rr_MP Z 0 0 (fun r w' => r = some (p_bs (p_fit V sn G tc wd cc kc) (if tc = 0 then 0 else 12)) ∧ ∃ (hx : Nat) (s5 r1 r2 : Int32) (T : Nat → Nat → Int32), w' = W_V (dv (nI sn)) V (sv4 (nI hx) s5 r1 r2) T (gv tc wd cc kc) G)) 0 [(0, .ref 0)] [] (W_V (dv (nI sn)) V (sv4 (nI hx) s5 r1 r2) T (gv tc wd cc kc) G)
  refine rr_go hC bk_X7_begins_0_4 (l' := [(0, .ref 0), (1, .int 0), (2, .int 0)]) (st' := []) (w' := (W_V (dv (nI sn)) V (sv4 (nI hx) s5 r1 r2) T (gv tc wd cc kc) G)) rfl ?_
  have lp4 : ∀ (j b : Nat), b + j = (if tc = 0 then 0 else 12) → 0 ≤ b → ∀ (hx : Nat) (s5 r1 r2 : Int32) (T : Nat → Nat → Int32), rr_J Z 3 0 0 (rr_MP Z 0 0 (fun r w' => r = some (p_bs (p_fit V sn G tc wd cc kc) (if tc = 0 then 0 else 12)) ∧ ∃ (hx : Nat) (s5 r1 r2 : Int32) (T : Nat → Nat → Int32), w' = W_V (dv (nI sn)) V (sv4 (nI hx) s5 r1 r2) T (gv tc wd cc kc) G)) 4 [(0, .ref 0), (1, .int (p_bs (p_fit V sn G tc wd cc kc) b)), (2, .int (nI b))] [] (W_V (dv (nI sn)) V (sv4 (nI hx) s5 r1 r2) T (gv tc wd cc kc) G) := by
    intro j
    induction j with
    | zero =>
      intro b hk4 hlo4 hx s5 r1 r2 T
      have hb12 : b ≤ 12 := by split at hk4 <;> omega
      refine rr_go hC bk_X7_begins_4_7 (l' := [(0, .ref 0), (1, .int (p_bs (p_fit V sn G tc wd cc kc) b)), (2, .int (nI b))]) (st' := [.int 12, .int (nI b)]) (w' := (W_V (dv (nI sn)) V (sv4 (nI hx) s5 r1 r2) T (gv tc wd cc kc) G)) rfl ?_
      refine rr_icmp_ge hC (off := 33) (tgt := 40) (by decide +kernel) (fun h7 => ?_) (fun h7 => ?_)
      · rw [rr_ln_le (a := 12) (by omega) (by omega)] at h7
        refine rr_go hC bk_X7_begins_40_41 (l' := [(0, .ref 0), (1, .int (p_bs (p_fit V sn G tc wd cc kc) b)), (2, .int (nI b))]) (st' := [.int (p_bs (p_fit V sn G tc wd cc kc) b)]) (w' := (W_V (dv (nI sn)) V (sv4 (nI hx) s5 r1 r2) T (gv tc wd cc kc) G)) rfl ?_
        exact rr_retiP hC (by decide +kernel) (by exact ⟨by rw [show b = (if tc = 0 then 0 else 12) from hk4], _, _, _, _, _, rfl⟩) ⟨Nat.zero_le _, Nat.zero_le _⟩
      · rw [rr_ln_le (a := 12) (by omega) (by omega)] at h7
        refine rr_go hC bk_X7_begins_10_14 (l' := [(0, .ref 0), (1, .int (p_bs (p_fit V sn G tc wd cc kc) b)), (2, .int (nI b))]) (st' := [.ref 9]) (w' := (W_V (dv (nI sn)) V (sv4 (nI hx) s5 r1 r2) T (gv tc wd cc kc) G)) rfl ?_
        refine rr_callV hC (by decide +kernel) kl_7_37 fX8_isTold (c8_isTold tc wd cc kc G (by omega)) rfl rfl [9, 10, 11, 12, 13, 14, 15] rfl rfl (Eq.refl 7) rfl rfl rfl (rest := []) rfl rfl ⟨Nat.zero_le _, Nat.zero_le _⟩ (w2 := (W_V (dv (nI sn)) V (sv4 (nI hx) s5 r1 r2) T (gv tc wd cc kc) G)) rfl ?_
        show rr_J Z 3 0 0 _ 17 [(0, .ref 0), (1, .int (p_bs (p_fit V sn G tc wd cc kc) b)), (2, .int (nI b))] [.int (rr_b (decide (0 < tc)))] (W_V (dv (nI sn)) V (sv4 (nI hx) s5 r1 r2) T (gv tc wd cc kc) G)
        refine rr_eqb hC (off := 23) (tgt := 40) (by decide +kernel) (fun h17 => ?_) (fun h17 => by replace h17 := of_decide_eq_true h17; split at hk4 <;> omega)
        replace h17 := of_decide_eq_false h17
        refine rr_go hC bk_X7_begins_40_41 (l' := [(0, .ref 0), (1, .int (p_bs (p_fit V sn G tc wd cc kc) b)), (2, .int (nI b))]) (st' := [.int (p_bs (p_fit V sn G tc wd cc kc) b)]) (w' := (W_V (dv (nI sn)) V (sv4 (nI hx) s5 r1 r2) T (gv tc wd cc kc) G)) rfl ?_
        exact rr_retiP hC (by decide +kernel) (by exact ⟨by rw [show b = (if tc = 0 then 0 else 12) from hk4], _, _, _, _, _, rfl⟩) ⟨Nat.zero_le _, Nat.zero_le _⟩
    | succ j ih =>
      intro b hk4 hlo4 hx s5 r1 r2 T
      have hb12 : b ≤ 12 := by split at hk4 <;> omega
      refine rr_go hC bk_X7_begins_4_7 (l' := [(0, .ref 0), (1, .int (p_bs (p_fit V sn G tc wd cc kc) b)), (2, .int (nI b))]) (st' := [.int 12, .int (nI b)]) (w' := (W_V (dv (nI sn)) V (sv4 (nI hx) s5 r1 r2) T (gv tc wd cc kc) G)) rfl ?_
      refine rr_icmp_ge hC (off := 33) (tgt := 40) (by decide +kernel) (fun h7 => by rw [rr_ln_le (a := 12) (by omega) (by omega)] at h7; split at hk4 <;> omega) (fun h7 => ?_)
      rw [rr_ln_le (a := 12) (by omega) (by omega)] at h7
      refine rr_go hC bk_X7_begins_10_14 (l' := [(0, .ref 0), (1, .int (p_bs (p_fit V sn G tc wd cc kc) b)), (2, .int (nI b))]) (st' := [.ref 9]) (w' := (W_V (dv (nI sn)) V (sv4 (nI hx) s5 r1 r2) T (gv tc wd cc kc) G)) rfl ?_
      refine rr_callV hC (by decide +kernel) kl_7_37 fX8_isTold (c8_isTold tc wd cc kc G (by omega)) rfl rfl [9, 10, 11, 12, 13, 14, 15] rfl rfl (Eq.refl 7) rfl rfl rfl (rest := []) rfl rfl ⟨Nat.zero_le _, Nat.zero_le _⟩ (w2 := (W_V (dv (nI sn)) V (sv4 (nI hx) s5 r1 r2) T (gv tc wd cc kc) G)) rfl ?_
      show rr_J Z 3 0 0 _ 17 [(0, .ref 0), (1, .int (p_bs (p_fit V sn G tc wd cc kc) b)), (2, .int (nI b))] [.int (rr_b (decide (0 < tc)))] (W_V (dv (nI sn)) V (sv4 (nI hx) s5 r1 r2) T (gv tc wd cc kc) G)
      refine rr_eqb hC (off := 23) (tgt := 40) (by decide +kernel) (fun h17 => by replace h17 := of_decide_eq_false h17; split at hk4 <;> omega) (fun h17 => ?_)
      replace h17 := of_decide_eq_true h17
      refine rr_go hC bk_X7_begins_20_22 (l' := [(0, .ref 0), (1, .int (p_bs (p_fit V sn G tc wd cc kc) b)), (2, .int (nI b))]) (st' := [.int (nI b), .ref 0]) (w' := (W_V (dv (nI sn)) V (sv4 (nI hx) s5 r1 r2) T (gv tc wd cc kc) G)) rfl ?_
      refine rr_callVP hC (by decide +kernel) kl_7_43 fX7_fits (c7_fits sn V hx s5 r1 r2 T tc wd cc kc G b (by omega) (by omega) (by omega) (by omega) (by omega) hV1) rfl rfl [0, 1, 2, 3, 4, 5, 6, 7, 8, 9, 10, 11, 12, 13, 14, 15] rfl rfl rfl rfl rfl (rest := []) rfl rfl ⟨Nat.zero_le _, Nat.zero_le _⟩ (by intro r_ w_ h_; obtain ⟨rfl, hx_, s5_, r1_, r2_, T_, rfl⟩ := h_; exact Eq.refl 16) (fun r_ w_ h_ => ?_)
      obtain ⟨rfl, hx_, s5_, r1_, r2_, T_, rfl⟩ := h_
      refine rr_cast (l' := [(0, .ref 0), (1, .int (p_bs (p_fit V sn G tc wd cc kc) b)), (2, .int (nI b))]) rfl (st' := [.int (rr_b (p_fit V sn G tc wd cc kc b))]) rfl (w' := (W_V (dv (nI sn)) V (sv4 (nI hx_) s5_ r1_ r2_) T_ (gv tc wd cc kc) G)) rfl ?_
      refine rr_eqb hC (off := 9) (tgt := 34) (by decide +kernel) (fun h25 => ?_) (fun h25 => ?_)
      · refine rr_go hC bk_X7_begins_34_4 (l' := [(0, .ref 0), (1, .int (p_bs (p_fit V sn G tc wd cc kc) b)), (2, .int ((nI b) + 1))]) (st' := []) (w' := (W_V (dv (nI sn)) V (sv4 (nI hx_) s5_ r1_ r2_) T_ (gv tc wd cc kc) G)) rfl ?_
        rw [show ((nI b) + 1 : Int32) = nI (b + 1) from nI_add b 1]
        exact rr_cast (l' := [(0, .ref 0), (1, .int (p_bs (p_fit V sn G tc wd cc kc) (b + 1))), (2, .int (nI (b + 1)))]) (by simp [p_bs, *]) rfl (w' := (W_V (dv (nI sn)) V (sv4 (nI hx_) s5_ r1_ r2_) T_ (gv tc wd cc kc) G)) (by rfl) (ih (b + 1) (by omega) (by omega) hx_ s5_ r1_ r2_ T_)
      · refine rr_go hC bk_X7_begins_28_4 (l' := [(0, .ref 0), (1, .int ((p_bs (p_fit V sn G tc wd cc kc) b) ||| (1 <<< (nI b &&& 31)))), (2, .int ((nI b) + 1))]) (st' := []) (w' := (W_V (dv (nI sn)) V (sv4 (nI hx_) s5_ r1_ r2_) T_ (gv tc wd cc kc) G)) rfl ?_
        rw [show ((nI b) + 1 : Int32) = nI (b + 1) from nI_add b 1]
        exact rr_cast (l' := [(0, .ref 0), (1, .int (p_bs (p_fit V sn G tc wd cc kc) (b + 1))), (2, .int (nI (b + 1)))]) (by simp [p_bs, *]) rfl (w' := (W_V (dv (nI sn)) V (sv4 (nI hx_) s5_ r1_ r2_) T_ (gv tc wd cc kc) G)) (by rfl) (ih (b + 1) (by omega) (by omega) hx_ s5_ r1_ r2_ T_)
  exact rr_cast (l' := [(0, .ref 0), (1, .int (p_bs (p_fit V sn G tc wd cc kc) 0)), (2, .int (nI 0))]) (by first | rfl | (simp [p_bs, *])) rfl (w' := (W_V (dv (nI sn)) V (sv4 (nI hx) s5 r1 r2) T (gv tc wd cc kc) G)) (by rfl) (lp4 ((if tc = 0 then 0 else 12) - 0) 0 (by omega) (Nat.le_refl _) hx s5 r1 r2 T)
theorem bk_X7_forceBehind_0_5 : rr_chk mX7_forceBehind [(.aload_n 0, 0, 0, 0), (.getfield 29, 0, 7, 1), (.iload_n 1, 0, 1, 0)] 0 5 = true := by decide +kernel
theorem bk_X7_forceBehind_8_10 : rr_chk mX7_forceBehind [(.iconst 0, 0, 0, 0), (.istore_n 3, 0, 3, 0)] 8 10 = true := by decide +kernel
theorem bk_X7_forceBehind_10_12 : rr_chk mX7_forceBehind [(.iload_n 3, 0, 3, 0), (.iload_n 2, 0, 2, 0)] 10 12 = true := by decide +kernel
theorem bk_X7_forceBehind_28_32 : rr_chk mX7_forceBehind [(.aload_n 0, 0, 0, 0), (.getfield 29, 0, 7, 1)] 28 32 = true := by decide +kernel
theorem bk_X7_forceBehind_15_19 : rr_chk mX7_forceBehind [(.aload_n 0, 0, 0, 0), (.getfield 29, 0, 7, 1)] 15 19 = true := by decide +kernel
theorem bk_X7_forceBehind_22_10 : rr_chk mX7_forceBehind [(.iinc 3 1, 1, 3, 0), (.goto (-15), 0, 0, 0)] 22 10 = true := by decide +kernel
set_option maxRecDepth 100000 in
set_option maxHeartbeats 4000000 in
theorem c7_forceBehind (sn : Nat) (V : Nat → Nat → Int32) (hx : Nat) (s5 r1 r2 : Int32) (T : Nat → Nat → Int32) (tc wd cc kc : Nat) (G : Nat → Nat → Int32) (b h : Nat) (hb : b < 12) (hh : h ≤ 60) (htc : tc ≤ 12) (hcc : cc ≤ 9) (hkc : kc ≤ 6) : rr_CP mX7_forceBehind 4 [.ref 0, .int (nI b), .int (nI h)] (W_V (dv (nI sn)) V (sv4 (nI hx) s5 r1 r2) T (gv tc wd cc kc) G) 0 0 (fun r w' => r = some (p_fo G tc wd cc kc b h) ∧ ∃ (hx : Nat) (s5 r1 r2 : Int32) (T : Nat → Nat → Int32), w' = W_V (dv (nI sn)) V (sv4 (nI hx) s5 r1 r2) T (gv tc wd cc kc) G) := by
  refine rr_CP.of (n := 2) fX7_forceBehind.1 rfl rfl (fun Z hC => ?_)
  show rr_J Z 4 0 0 (rr_MP Z 0 0 (fun r w' => r = some (p_fo G tc wd cc kc b h) ∧ ∃ (hx : Nat) (s5 r1 r2 : Int32) (T : Nat → Nat → Int32), w' = W_V (dv (nI sn)) V (sv4 (nI hx) s5 r1 r2) T (gv tc wd cc kc) G)) 0 [(0, .ref 0), (1, .int (nI b)), (2, .int (nI h))] [] (W_V (dv (nI sn)) V (sv4 (nI hx) s5 r1 r2) T (gv tc wd cc kc) G)
  refine rr_go hC bk_X7_forceBehind_0_5 (l' := [(0, .ref 0), (1, .int (nI b)), (2, .int (nI h))]) (st' := [.int (nI b), .ref 5]) (w' := (W_V (dv (nI sn)) V (sv4 (nI hx) s5 r1 r2) T (gv tc wd cc kc) G)) rfl ?_
  refine rr_callV hC (by decide +kernel) kl_7_51 fX6_layAll (c6_layAll hx s5 r1 r2 T tc wd cc kc G b (by omega) (by omega)) rfl rfl [5, 6, 7, 8, 9, 10, 11, 12, 13, 14, 15] rfl rfl (Eq.refl 11) rfl rfl rfl (rest := []) rfl rfl ⟨Nat.zero_le _, Nat.zero_le _⟩ (w2 := (W_V (dv (nI sn)) V (sv4 (nI b) (-1) 0 0) (p_lay (p_rsS T 6) G (min kc cc)) (gv tc wd cc kc) G)) rfl ?_
  show rr_J Z 4 0 0 _ 8 [(0, .ref 0), (1, .int (nI b)), (2, .int (nI h))] [] (W_V (dv (nI sn)) V (sv4 (nI b) (-1) 0 0) (p_lay (p_rsS T 6) G (min kc cc)) (gv tc wd cc kc) G)
  refine rr_cast (l' := [(0, .ref 0), (1, .int (nI b)), (2, .int (nI h))]) rfl rfl (w' := (W_V (dv (nI sn)) V (sv4 (nI (p_it G tc wd kc (p_layq G cc kc b T) 0).1) (p_it G tc wd kc (p_layq G cc kc b T) 0).2.1 (p_it G tc wd kc (p_layq G cc kc b T) 0).2.2.1 (p_it G tc wd kc (p_layq G cc kc b T) 0).2.2.2.1) ((p_it G tc wd kc (p_layq G cc kc b T) 0).2.2.2.2) (gv tc wd cc kc) G)) rfl ?_
  refine rr_go hC bk_X7_forceBehind_8_10 (l' := [(0, .ref 0), (1, .int (nI b)), (2, .int (nI h)), (3, .int 0)]) (st' := []) (w' := (W_V (dv (nI sn)) V (sv4 (nI (p_it G tc wd kc (p_layq G cc kc b T) 0).1) (p_it G tc wd kc (p_layq G cc kc b T) 0).2.1 (p_it G tc wd kc (p_layq G cc kc b T) 0).2.2.1 (p_it G tc wd kc (p_layq G cc kc b T) 0).2.2.2.1) ((p_it G tc wd kc (p_layq G cc kc b T) 0).2.2.2.2) (gv tc wd cc kc) G)) rfl ?_
  have lp10 : ∀ (j t : Nat), t + j = h → 0 ≤ t → rr_J Z 4 0 0 (rr_MP Z 0 0 (fun r w' => r = some (p_fo G tc wd cc kc b h) ∧ ∃ (hx : Nat) (s5 r1 r2 : Int32) (T : Nat → Nat → Int32), w' = W_V (dv (nI sn)) V (sv4 (nI hx) s5 r1 r2) T (gv tc wd cc kc) G)) 10 [(0, .ref 0), (1, .int (nI b)), (2, .int (nI h)), (3, .int (nI t))] [] (W_V (dv (nI sn)) V (sv4 (nI (p_it G tc wd kc (p_layq G cc kc b T) t).1) (p_it G tc wd kc (p_layq G cc kc b T) t).2.1 (p_it G tc wd kc (p_layq G cc kc b T) t).2.2.1 (p_it G tc wd kc (p_layq G cc kc b T) t).2.2.2.1) ((p_it G tc wd kc (p_layq G cc kc b T) t).2.2.2.2) (gv tc wd cc kc) G) := by
    intro j
    induction j with
    | zero =>
      intro t hk10 hlo10
      have hq1 : (p_it G tc wd kc (p_layq G cc kc b T) t).1 = b + t := p_it_h G tc wd kc (p_layq G cc kc b T) t
      have hqo : p_ok (p_it G tc wd kc (p_layq G cc kc b T) t).2.2.2.2 cc kc := p_it_ok (p_layq_ok G cc kc b hkc T) t
      refine rr_go hC bk_X7_forceBehind_10_12 (l' := [(0, .ref 0), (1, .int (nI b)), (2, .int (nI h)), (3, .int (nI t))]) (st' := [.int (nI h), .int (nI t)]) (w' := (W_V (dv (nI sn)) V (sv4 (nI (p_it G tc wd kc (p_layq G cc kc b T) t).1) (p_it G tc wd kc (p_layq G cc kc b T) t).2.1 (p_it G tc wd kc (p_layq G cc kc b T) t).2.2.1 (p_it G tc wd kc (p_layq G cc kc b T) t).2.2.2.1) ((p_it G tc wd kc (p_layq G cc kc b T) t).2.2.2.2) (gv tc wd cc kc) G)) rfl ?_
      refine rr_icmp_ge hC (off := 16) (tgt := 28) (by decide +kernel) (fun h12 => ?_) (fun h12 => by rw [rr_nn_le (by omega) (by omega)] at h12; omega)
      rw [rr_nn_le (by omega) (by omega)] at h12
      refine rr_go hC bk_X7_forceBehind_28_32 (l' := [(0, .ref 0), (1, .int (nI b)), (2, .int (nI h)), (3, .int (nI t))]) (st' := [.ref 5]) (w' := (W_V (dv (nI sn)) V (sv4 (nI (p_it G tc wd kc (p_layq G cc kc b T) t).1) (p_it G tc wd kc (p_layq G cc kc b T) t).2.1 (p_it G tc wd kc (p_layq G cc kc b T) t).2.2.1 (p_it G tc wd kc (p_layq G cc kc b T) t).2.2.2.1) ((p_it G tc wd kc (p_layq G cc kc b T) t).2.2.2.2) (gv tc wd cc kc) G)) rfl ?_
      refine rr_callV hC (by decide +kernel) kl_7_57 fX6_forceSet (c6_forceSet ((p_it G tc wd kc (p_layq G cc kc b T) t).1) ((p_it G tc wd kc (p_layq G cc kc b T) t).2.1) ((p_it G tc wd kc (p_layq G cc kc b T) t).2.2.1) ((p_it G tc wd kc (p_layq G cc kc b T) t).2.2.2.1) ((p_it G tc wd kc (p_layq G cc kc b T) t).2.2.2.2) tc wd cc kc G (by omega)) rfl rfl [5, 6, 7, 8, 9, 10, 11, 12, 13, 14, 15] rfl rfl (Eq.refl 11) rfl rfl rfl (rest := []) rfl rfl ⟨Nat.zero_le _, Nat.zero_le _⟩ (w2 := (W_V (dv (nI sn)) V (sv4 (nI (p_it G tc wd kc (p_layq G cc kc b T) t).1) (p_it G tc wd kc (p_layq G cc kc b T) t).2.1 (p_it G tc wd kc (p_layq G cc kc b T) t).2.2.1 (p_it G tc wd kc (p_layq G cc kc b T) t).2.2.2.1) ((p_it G tc wd kc (p_layq G cc kc b T) t).2.2.2.2) (gv tc wd cc kc) G)) rfl ?_
      show rr_J Z 4 0 0 _ 35 [(0, .ref 0), (1, .int (nI b)), (2, .int (nI h)), (3, .int (nI t))] [.int (p_fs ((p_it G tc wd kc (p_layq G cc kc b T) t).2.2.2.2) G kc)] (W_V (dv (nI sn)) V (sv4 (nI (p_it G tc wd kc (p_layq G cc kc b T) t).1) (p_it G tc wd kc (p_layq G cc kc b T) t).2.1 (p_it G tc wd kc (p_layq G cc kc b T) t).2.2.1 (p_it G tc wd kc (p_layq G cc kc b T) t).2.2.2.1) ((p_it G tc wd kc (p_layq G cc kc b T) t).2.2.2.2) (gv tc wd cc kc) G)
      exact rr_retiP hC (by decide +kernel) (by refine ⟨?_, _, _, _, _, _, rfl⟩; rw [show t = h by omega, p_fs_T G tc wd cc kc b hkc T h]; rfl) ⟨Nat.zero_le _, Nat.zero_le _⟩
    | succ j ih =>
      intro t hk10 hlo10
      have hq1 : (p_it G tc wd kc (p_layq G cc kc b T) t).1 = b + t := p_it_h G tc wd kc (p_layq G cc kc b T) t
      have hqo : p_ok (p_it G tc wd kc (p_layq G cc kc b T) t).2.2.2.2 cc kc := p_it_ok (p_layq_ok G cc kc b hkc T) t
      refine rr_go hC bk_X7_forceBehind_10_12 (l' := [(0, .ref 0), (1, .int (nI b)), (2, .int (nI h)), (3, .int (nI t))]) (st' := [.int (nI h), .int (nI t)]) (w' := (W_V (dv (nI sn)) V (sv4 (nI (p_it G tc wd kc (p_layq G cc kc b T) t).1) (p_it G tc wd kc (p_layq G cc kc b T) t).2.1 (p_it G tc wd kc (p_layq G cc kc b T) t).2.2.1 (p_it G tc wd kc (p_layq G cc kc b T) t).2.2.2.1) ((p_it G tc wd kc (p_layq G cc kc b T) t).2.2.2.2) (gv tc wd cc kc) G)) rfl ?_
      refine rr_icmp_ge hC (off := 16) (tgt := 28) (by decide +kernel) (fun h12 => by rw [rr_nn_le (by omega) (by omega)] at h12; omega) (fun h12 => ?_)
      rw [rr_nn_le (by omega) (by omega)] at h12
      refine rr_go hC bk_X7_forceBehind_15_19 (l' := [(0, .ref 0), (1, .int (nI b)), (2, .int (nI h)), (3, .int (nI t))]) (st' := [.ref 5]) (w' := (W_V (dv (nI sn)) V (sv4 (nI (p_it G tc wd kc (p_layq G cc kc b T) t).1) (p_it G tc wd kc (p_layq G cc kc b T) t).2.1 (p_it G tc wd kc (p_layq G cc kc b T) t).2.2.1 (p_it G tc wd kc (p_layq G cc kc b T) t).2.2.2.1) ((p_it G tc wd kc (p_layq G cc kc b T) t).2.2.2.2) (gv tc wd cc kc) G)) rfl ?_
      refine rr_callV hC (by decide +kernel) kl_7_64 fX6_passHour (c6_passQ (p_it G tc wd kc (p_layq G cc kc b T) t) tc wd cc kc G (by omega) (by omega) (by omega) (by omega) hqo) rfl rfl [5, 6, 7, 8, 9, 10, 11, 12, 13, 14, 15] rfl rfl (Eq.refl 11) rfl rfl rfl (rest := []) rfl rfl ⟨Nat.zero_le _, Nat.zero_le _⟩ (w2 := (W_V (dv (nI sn)) V (sv4 (nI (p_pass G tc wd kc (p_it G tc wd kc (p_layq G cc kc b T) t)).1) (p_pass G tc wd kc (p_it G tc wd kc (p_layq G cc kc b T) t)).2.1 (p_pass G tc wd kc (p_it G tc wd kc (p_layq G cc kc b T) t)).2.2.1 (p_pass G tc wd kc (p_it G tc wd kc (p_layq G cc kc b T) t)).2.2.2.1) ((p_pass G tc wd kc (p_it G tc wd kc (p_layq G cc kc b T) t)).2.2.2.2) (gv tc wd cc kc) G)) rfl ?_
      show rr_J Z 4 0 0 _ 22 [(0, .ref 0), (1, .int (nI b)), (2, .int (nI h)), (3, .int (nI t))] [] (W_V (dv (nI sn)) V (sv4 (nI (p_pass G tc wd kc (p_it G tc wd kc (p_layq G cc kc b T) t)).1) (p_pass G tc wd kc (p_it G tc wd kc (p_layq G cc kc b T) t)).2.1 (p_pass G tc wd kc (p_it G tc wd kc (p_layq G cc kc b T) t)).2.2.1 (p_pass G tc wd kc (p_it G tc wd kc (p_layq G cc kc b T) t)).2.2.2.1) ((p_pass G tc wd kc (p_it G tc wd kc (p_layq G cc kc b T) t)).2.2.2.2) (gv tc wd cc kc) G)
      refine rr_go hC bk_X7_forceBehind_22_10 (l' := [(0, .ref 0), (1, .int (nI b)), (2, .int (nI h)), (3, .int ((nI t) + 1))]) (st' := []) (w' := (W_V (dv (nI sn)) V (sv4 (nI (p_pass G tc wd kc (p_it G tc wd kc (p_layq G cc kc b T) t)).1) (p_pass G tc wd kc (p_it G tc wd kc (p_layq G cc kc b T) t)).2.1 (p_pass G tc wd kc (p_it G tc wd kc (p_layq G cc kc b T) t)).2.2.1 (p_pass G tc wd kc (p_it G tc wd kc (p_layq G cc kc b T) t)).2.2.2.1) ((p_pass G tc wd kc (p_it G tc wd kc (p_layq G cc kc b T) t)).2.2.2.2) (gv tc wd cc kc) G)) rfl ?_
      rw [show ((nI t) + 1 : Int32) = nI (t + 1) from nI_add t 1]
      exact rr_cast (l' := [(0, .ref 0), (1, .int (nI b)), (2, .int (nI h)), (3, .int (nI (t + 1)))]) (by rfl) rfl (w' := (W_V (dv (nI sn)) V (sv4 (nI (p_it G tc wd kc (p_layq G cc kc b T) (t + 1)).1) (p_it G tc wd kc (p_layq G cc kc b T) (t + 1)).2.1 (p_it G tc wd kc (p_layq G cc kc b T) (t + 1)).2.2.1 (p_it G tc wd kc (p_layq G cc kc b T) (t + 1)).2.2.2.1) ((p_it G tc wd kc (p_layq G cc kc b T) (t + 1)).2.2.2.2) (gv tc wd cc kc) G)) (by rfl) (ih (t + 1) (by omega) (by omega))
  exact rr_cast (l' := [(0, .ref 0), (1, .int (nI b)), (2, .int (nI h)), (3, .int (nI 0))]) (by first | rfl | (rfl)) rfl (w' := (W_V (dv (nI sn)) V (sv4 (nI (p_it G tc wd kc (p_layq G cc kc b T) 0).1) (p_it G tc wd kc (p_layq G cc kc b T) 0).2.1 (p_it G tc wd kc (p_layq G cc kc b T) 0).2.2.1 (p_it G tc wd kc (p_layq G cc kc b T) 0).2.2.2.1) ((p_it G tc wd kc (p_layq G cc kc b T) 0).2.2.2.2) (gv tc wd cc kc) G)) (by rfl) (lp10 (h - 0) 0 (by omega) (Nat.le_refl _))
theorem bk_X7_addForce_0_2 : rr_chk mX7_addForce [(.iconst 0, 0, 0, 0), (.istore_n 2, 0, 2, 0)] 0 2 = true := by decide +kernel
theorem bk_X7_addForce_2_5 : rr_chk mX7_addForce [(.iload_n 2, 0, 2, 0), (.bipush 6, 6, 0, 0)] 2 5 = true := by decide +kernel
theorem bk_X7_addForce_8_14 : rr_chk mX7_addForce [(.aload_n 0, 0, 0, 0), (.getfield 22, 0, 7, 5), (.iload_n 2, 0, 2, 0), (.dup2, 0, 0, 0)] 8 14 = true := by decide +kernel
theorem bk_X7_addForce_15_21 : rr_chk mX7_addForce [(.iload_n 1, 0, 1, 0), (.iload_n 2, 0, 2, 0), (.ishr, 0, 0, 0), (.iconst 1, 1, 0, 0), (.iand, 0, 0, 0), (.iadd, 0, 0, 0)] 15 21 = true := by decide +kernel
theorem bk_X7_addForce_22_2 : rr_chk mX7_addForce [(.iinc 2 1, 1, 2, 0), (.goto (-23), 0, 0, 0)] 22 2 = true := by decide +kernel
set_option maxRecDepth 100000 in
set_option maxHeartbeats 4000000 in
theorem c7_addForce (sn : Nat) (V : Nat → Nat → Int32) (q0 q1 : Nat) (fo : Int32) : rr_C mX7_addForce 0 [.ref 0, .int fo] (W_V0 (dv (nI sn)) V q0 q1) 0 0 none (W_V0 (dv (nI sn)) (va_up V 3 (p_adf (V 3) fo 6)) q0 q1) := by
  refine rr_C.of (n := 1) fX7_addForce.1 rfl rfl (fun Z hC => ?_)
  show rr_J Z 3 0 0 (rr_MQ Z 0 0 none (W_V0 (dv (nI sn)) (va_up V 3 (p_adf (V 3) fo 6)) q0 q1)) 0 [(0, .ref 0), (1, .int fo)] [] (W_V0 (dv (nI sn)) V q0 q1)
  refine rr_go hC bk_X7_addForce_0_2 (l' := [(0, .ref 0), (1, .int fo), (2, .int 0)]) (st' := []) (w' := (W_V0 (dv (nI sn)) V q0 q1)) rfl ?_
  have lp2 : ∀ (j k : Nat), k + j = 6 → 0 ≤ k → rr_J Z 3 0 0 (rr_MQ Z 0 0 none (W_V0 (dv (nI sn)) (va_up V 3 (p_adf (V 3) fo 6)) q0 q1)) 2 [(0, .ref 0), (1, .int fo), (2, .int (nI k))] [] (W_V0 (dv (nI sn)) (va_up V 3 (p_adf (V 3) fo k)) q0 q1) := by
    intro j
    induction j with
    | zero =>
      intro k hk2 hlo2
      refine rr_go hC bk_X7_addForce_2_5 (l' := [(0, .ref 0), (1, .int fo), (2, .int (nI k))]) (st' := [.int 6, .int (nI k)]) (w' := (W_V0 (dv (nI sn)) (va_up V 3 (p_adf (V 3) fo k)) q0 q1)) rfl ?_
      refine rr_icmp_ge hC (off := 23) (tgt := 28) (by decide +kernel) (fun h5 => ?_) (fun h5 => by rw [rr_ln_le (a := 6) (by omega) (by omega)] at h5; omega)
      rw [rr_ln_le (a := 6) (by omega) (by omega)] at h5
      exact rr_retv hC (by decide +kernel) (by rw [show k = 6 by omega]) ⟨Nat.zero_le _, Nat.zero_le _⟩
    | succ j ih =>
      intro k hk2 hlo2
      refine rr_go hC bk_X7_addForce_2_5 (l' := [(0, .ref 0), (1, .int fo), (2, .int (nI k))]) (st' := [.int 6, .int (nI k)]) (w' := (W_V0 (dv (nI sn)) (va_up V 3 (p_adf (V 3) fo k)) q0 q1)) rfl ?_
      refine rr_icmp_ge hC (off := 23) (tgt := 28) (by decide +kernel) (fun h5 => by rw [rr_ln_le (a := 6) (by omega) (by omega)] at h5; omega) (fun h5 => ?_)
      rw [rr_ln_le (a := 6) (by omega) (by omega)] at h5
      refine rr_go hC bk_X7_addForce_8_14 (l' := [(0, .ref 0), (1, .int fo), (2, .int (nI k))]) (st' := [.int (nI k), .ref 4, .int (nI k), .ref 4]) (w' := (W_V0 (dv (nI sn)) (va_up V 3 (p_adf (V 3) fo k)) q0 q1)) rfl ?_
      refine rr_iald hC k (by decide +kernel) rfl rfl (by omega) rfl ?_
      show rr_J Z 3 0 0 _ 15 [(0, .ref 0), (1, .int fo), (2, .int (nI k))] [.int ((p_adf (V 3) fo k) k), .int (nI k), .ref 4] (W_V0 (dv (nI sn)) (va_up V 3 (p_adf (V 3) fo k)) q0 q1)
      refine rr_go hC bk_X7_addForce_15_21 (l' := [(0, .ref 0), (1, .int fo), (2, .int (nI k))]) (st' := [.int (((p_adf (V 3) fo k) k) + ((fo >>> (nI k &&& 31)) &&& 1)), .int (nI k), .ref 4]) (w' := (W_V0 (dv (nI sn)) (va_up V 3 (p_adf (V 3) fo k)) q0 q1)) rfl ?_
      refine rr_iast hC k (by decide +kernel) rfl rfl (by omega) rfl (w' := (W_V0 (dv (nI sn)) (va_up V 3 (upd (p_adf (V 3) fo k) k (((p_adf (V 3) fo k) k) + ((fo >>> (nI k &&& 31)) &&& 1)))) q0 q1)) rfl ?_
      show rr_J Z 3 0 0 _ 22 [(0, .ref 0), (1, .int fo), (2, .int (nI k))] [] (W_V0 (dv (nI sn)) (va_up V 3 (upd (p_adf (V 3) fo k) k (((p_adf (V 3) fo k) k) + ((fo >>> (nI k &&& 31)) &&& 1)))) q0 q1)
      refine rr_go hC bk_X7_addForce_22_2 (l' := [(0, .ref 0), (1, .int fo), (2, .int ((nI k) + 1))]) (st' := []) (w' := (W_V0 (dv (nI sn)) (va_up V 3 (upd (p_adf (V 3) fo k) k (((p_adf (V 3) fo k) k) + ((fo >>> (nI k &&& 31)) &&& 1)))) q0 q1)) rfl ?_
      rw [show ((nI k) + 1 : Int32) = nI (k + 1) from nI_add k 1]
      exact rr_cast (l' := [(0, .ref 0), (1, .int fo), (2, .int (nI (k + 1)))]) (by rfl) rfl (w' := (W_V0 (dv (nI sn)) (va_up V 3 (p_adf (V 3) fo (k + 1))) q0 q1)) (by rw [← p_adf_s]; rfl) (ih (k + 1) (by omega) (by omega))
  exact rr_cast (l' := [(0, .ref 0), (1, .int fo), (2, .int (nI 0))]) (by first | rfl | (rfl)) rfl (w' := (W_V0 (dv (nI sn)) (va_up V 3 (p_adf (V 3) fo 0)) q0 q1)) (by rw [p_adf_0]; rfl) (lp2 (6 - 0) 0 (by omega) (Nat.le_refl _))
theorem bk_X7_countInForce_0_2 : rr_chk mX7_countInForce [(.iconst 0, 0, 0, 0), (.istore_n 3, 0, 3, 0)] 0 2 = true := by decide +kernel
theorem bk_X7_countInForce_2_5 : rr_chk mX7_countInForce [(.iload_n 3, 0, 3, 0), (.bipush 6, 6, 0, 0)] 2 5 = true := by decide +kernel
theorem bk_X7_countInForce_21_23 : rr_chk mX7_countInForce [(.iconst 0, 0, 0, 0), (.istore_n 3, 0, 3, 0)] 21 23 = true := by decide +kernel
theorem bk_X7_countInForce_23_26 : rr_chk mX7_countInForce [(.iload_n 3, 0, 3, 0), (.bipush 12, 12, 0, 0)] 23 26 = true := by decide +kernel
theorem bk_X7_countInForce_29_34 : rr_chk mX7_countInForce [(.iload_n 1, 0, 1, 0), (.iload_n 3, 0, 3, 0), (.ishr, 0, 0, 0), (.iconst 1, 1, 0, 0), (.iand, 0, 0, 0)] 29 34 = true := by decide +kernel
theorem bk_X7_countInForce_47_23 : rr_chk mX7_countInForce [(.iinc 3 1, 1, 3, 0), (.goto (-27), 0, 0, 0)] 47 23 = true := by decide +kernel
theorem bk_X7_countInForce_37_41 : rr_chk mX7_countInForce [(.aload_n 0, 0, 0, 0), (.aload_n 0, 0, 0, 0), (.iload_n 3, 0, 3, 0), (.iload_n 2, 0, 2, 0)] 37 41 = true := by decide +kernel
theorem bk_X7_countInForce_8_14 : rr_chk mX7_countInForce [(.aload_n 0, 0, 0, 0), (.getfield 22, 0, 7, 5), (.iload_n 3, 0, 3, 0), (.iconst 0, 0, 0, 0)] 8 14 = true := by decide +kernel
theorem bk_X7_countInForce_15_2 : rr_chk mX7_countInForce [(.iinc 3 1, 1, 3, 0), (.goto (-16), 0, 0, 0)] 15 2 = true := by decide +kernel
set_option maxRecDepth 100000 in
set_option maxHeartbeats 4000000 in
theorem c7_countInForce (sn : Nat) (V : Nat → Nat → Int32) (hx : Nat) (s5 r1 r2 : Int32) (T : Nat → Nat → Int32) (tc wd cc kc : Nat) (G : Nat → Nat → Int32) (bs : Int32) (h : Nat) (hh : h ≤ 60) (htc : tc ≤ 12) (hcc : cc ≤ 9) (hkc : kc ≤ 6) : rr_CP mX7_countInForce 5 [.ref 0, .int bs, .int (nI h)] (W_V (dv (nI sn)) V (sv4 (nI hx) s5 r1 r2) T (gv tc wd cc kc) G) 0 0 (fun r w' => r = none ∧ ∃ (hx : Nat) (s5 r1 r2 : Int32) (T : Nat → Nat → Int32), w' = W_V (dv (nI sn)) (va_up V 3 (p_cif (V 3) (fun b => p_fo G tc wd cc kc b h) bs 12)) (sv4 (nI hx) s5 r1 r2) T (gv tc wd cc kc) G) := by
  refine rr_CP.of (n := 2) fX7_countInForce.1 rfl rfl (fun Z hC => ?_)
  show rr_J Z 4 0 0 (rr_MP Z 0 0 (fun r w' => r = none ∧ ∃ (hx : Nat) (s5 r1 r2 : Int32) (T : Nat → Nat → Int32), w' = W_V (dv (nI sn)) (va_up V 3 (p_cif (V 3) (fun b => p_fo G tc wd cc kc b h) bs 12)) (sv4 (nI hx) s5 r1 r2) T (gv tc wd cc kc) G)) 0 [(0, .ref 0), (1, .int bs), (2, .int (nI h))] [] (W_V (dv (nI sn)) V (sv4 (nI hx) s5 r1 r2) T (gv tc wd cc kc) G)
  refine rr_go hC bk_X7_countInForce_0_2 (l' := [(0, .ref 0), (1, .int bs), (2, .int (nI h)), (3, .int 0)]) (st' := []) (w' := (W_V (dv (nI sn)) V (sv4 (nI hx) s5 r1 r2) T (gv tc wd cc kc) G)) rfl ?_
  have lp2 : ∀ (j k : Nat), k + j = 6 → 0 ≤ k → rr_J Z 4 0 0 (rr_MP Z 0 0 (fun r w' => r = none ∧ ∃ (hx : Nat) (s5 r1 r2 : Int32) (T : Nat → Nat → Int32), w' = W_V (dv (nI sn)) (va_up V 3 (p_cif (V 3) (fun b => p_fo G tc wd cc kc b h) bs 12)) (sv4 (nI hx) s5 r1 r2) T (gv tc wd cc kc) G)) 2 [(0, .ref 0), (1, .int bs), (2, .int (nI h)), (3, .int (nI k))] [] (W_V (dv (nI sn)) (va_up V 3 (p_zer (V 3) k)) (sv4 (nI hx) s5 r1 r2) T (gv tc wd cc kc) G) := by
    intro j
    induction j with
    | zero =>
      intro k hk2 hlo2
      refine rr_go hC bk_X7_countInForce_2_5 (l' := [(0, .ref 0), (1, .int bs), (2, .int (nI h)), (3, .int (nI k))]) (st' := [.int 6, .int (nI k)]) (w' := (W_V (dv (nI sn)) (va_up V 3 (p_zer (V 3) k)) (sv4 (nI hx) s5 r1 r2) T (gv tc wd cc kc) G)) rfl ?_
      refine rr_icmp_ge hC (off := 16) (tgt := 21) (by decide +kernel) (fun h5 => ?_) (fun h5 => by rw [rr_ln_le (a := 6) (by omega) (by omega)] at h5; omega)
      rw [rr_ln_le (a := 6) (by omega) (by omega)] at h5
      refine rr_go hC bk_X7_countInForce_21_23 (l' := [(0, .ref 0), (1, .int bs), (2, .int (nI h)), (3, .int 0)]) (st' := []) (w' := (W_V (dv (nI sn)) (va_up V 3 (p_zer (V 3) k)) (sv4 (nI hx) s5 r1 r2) T (gv tc wd cc kc) G)) rfl ?_
      have lp23 : ∀ (j b : Nat), b + j = 12 → 0 ≤ b → ∀ (hx : Nat) (s5 r1 r2 : Int32) (T : Nat → Nat → Int32), rr_J Z 4 0 0 (rr_MP Z 0 0 (fun r w' => r = none ∧ ∃ (hx : Nat) (s5 r1 r2 : Int32) (T : Nat → Nat → Int32), w' = W_V (dv (nI sn)) (va_up V 3 (p_cif (V 3) (fun b => p_fo G tc wd cc kc b h) bs 12)) (sv4 (nI hx) s5 r1 r2) T (gv tc wd cc kc) G)) 23 [(0, .ref 0), (1, .int bs), (2, .int (nI h)), (3, .int (nI b))] [] (W_V (dv (nI sn)) (va_up V 3 (p_cif (V 3) (fun b => p_fo G tc wd cc kc b h) bs b)) (sv4 (nI hx) s5 r1 r2) T (gv tc wd cc kc) G) := by
        intro j
        induction j with
        | zero =>
          intro b hk23 hlo23 hx s5 r1 r2 T
          refine rr_go hC bk_X7_countInForce_23_26 (l' := [(0, .ref 0), (1, .int bs), (2, .int (nI h)), (3, .int (nI b))]) (st' := [.int 12, .int (nI b)]) (w' := (W_V (dv (nI sn)) (va_up V 3 (p_cif (V 3) (fun b => p_fo G tc wd cc kc b h) bs b)) (sv4 (nI hx) s5 r1 r2) T (gv tc wd cc kc) G)) rfl ?_
          refine rr_icmp_ge hC (off := 27) (tgt := 53) (by decide +kernel) (fun h26 => ?_) (fun h26 => by rw [rr_ln_le (a := 12) (by omega) (by omega)] at h26; omega)
          rw [rr_ln_le (a := 12) (by omega) (by omega)] at h26
          exact rr_retvP hC (by decide +kernel) (by rw [show b = 12 by omega]; exact ⟨rfl, _, _, _, _, _, rfl⟩) ⟨Nat.zero_le _, Nat.zero_le _⟩
        | succ j ih =>
          intro b hk23 hlo23 hx s5 r1 r2 T
          refine rr_go hC bk_X7_countInForce_23_26 (l' := [(0, .ref 0), (1, .int bs), (2, .int (nI h)), (3, .int (nI b))]) (st' := [.int 12, .int (nI b)]) (w' := (W_V (dv (nI sn)) (va_up V 3 (p_cif (V 3) (fun b => p_fo G tc wd cc kc b h) bs b)) (sv4 (nI hx) s5 r1 r2) T (gv tc wd cc kc) G)) rfl ?_
          refine rr_icmp_ge hC (off := 27) (tgt := 53) (by decide +kernel) (fun h26 => by rw [rr_ln_le (a := 12) (by omega) (by omega)] at h26; omega) (fun h26 => ?_)
          rw [rr_ln_le (a := 12) (by omega) (by omega)] at h26
          refine rr_go hC bk_X7_countInForce_29_34 (l' := [(0, .ref 0), (1, .int bs), (2, .int (nI h)), (3, .int (nI b))]) (st' := [.int ((bs >>> (nI b &&& 31)) &&& 1)]) (w' := (W_V (dv (nI sn)) (va_up V 3 (p_cif (V 3) (fun b => p_fo G tc wd cc kc b h) bs b)) (sv4 (nI hx) s5 r1 r2) T (gv tc wd cc kc) G)) rfl ?_
          refine rr_if_eq hC (off := 13) (tgt := 47) (by decide +kernel) (fun h34 => ?_) (fun h34 => ?_)
          · refine rr_go hC bk_X7_countInForce_47_23 (l' := [(0, .ref 0), (1, .int bs), (2, .int (nI h)), (3, .int ((nI b) + 1))]) (st' := []) (w' := (W_V (dv (nI sn)) (va_up V 3 (p_cif (V 3) (fun b => p_fo G tc wd cc kc b h) bs b)) (sv4 (nI hx) s5 r1 r2) T (gv tc wd cc kc) G)) rfl ?_
            rw [show ((nI b) + 1 : Int32) = nI (b + 1) from nI_add b 1]
            exact rr_cast (l' := [(0, .ref 0), (1, .int bs), (2, .int (nI h)), (3, .int (nI (b + 1)))]) (by rfl) rfl (w' := (W_V (dv (nI sn)) (va_up V 3 (p_cif (V 3) (fun b => p_fo G tc wd cc kc b h) bs (b + 1))) (sv4 (nI hx) s5 r1 r2) T (gv tc wd cc kc) G)) (by simp only [p_cif]; first | rw [if_pos (show p_bit bs (nI b) = 0 from h34)] | rw [if_neg (show ¬ p_bit bs (nI b) = 0 from h34)]) (ih (b + 1) (by omega) (by omega) hx s5 r1 r2 T)
          · refine rr_go hC bk_X7_countInForce_37_41 (l' := [(0, .ref 0), (1, .int bs), (2, .int (nI h)), (3, .int (nI b))]) (st' := [.int (nI h), .int (nI b), .ref 0, .ref 0]) (w' := (W_V (dv (nI sn)) (va_up V 3 (p_cif (V 3) (fun b => p_fo G tc wd cc kc b h) bs b)) (sv4 (nI hx) s5 r1 r2) T (gv tc wd cc kc) G)) rfl ?_
            refine rr_callVP hC (by decide +kernel) kl_7_73 fX7_forceBehind (c7_forceBehind sn (va_up V 3 (p_cif (V 3) (fun b => p_fo G tc wd cc kc b h) bs b)) hx s5 r1 r2 T tc wd cc kc G b h (by omega) (by omega) (by omega) (by omega) (by omega)) rfl rfl [0, 1, 2, 3, 4, 5, 6, 7, 8, 9, 10, 11, 12, 13, 14, 15] rfl rfl rfl rfl rfl (rest := [.ref 0]) rfl rfl ⟨Nat.zero_le _, Nat.zero_le _⟩ (by intro r_ w_ h_; obtain ⟨rfl, hx_, s5_, r1_, r2_, T_, rfl⟩ := h_; exact Eq.refl 16) (fun r_ w_ h_ => ?_)
            obtain ⟨rfl, hx_, s5_, r1_, r2_, T_, rfl⟩ := h_
            refine rr_cast (l' := [(0, .ref 0), (1, .int bs), (2, .int (nI h)), (3, .int (nI b))]) rfl (st' := [.int (p_fo G tc wd cc kc b h), .ref 0]) rfl (w' := (W_V (dv (nI sn)) (va_up V 3 (p_cif (V 3) (fun b => p_fo G tc wd cc kc b h) bs b)) (sv4 (nI hx_) s5_ r1_ r2_) T_ (gv tc wd cc kc) G)) rfl ?_
            refine rr_callV hC (by decide +kernel) kl_7_76 fX7_addForce (c7_addForce sn (va_up V 3 (p_cif (V 3) (fun b => p_fo G tc wd cc kc b h) bs b)) 14 10 (p_fo G tc wd cc kc b h)) rfl rfl [0, 1, 2, 3, 4] rfl rfl (Eq.refl 5) rfl rfl rfl (rest := []) rfl rfl ⟨Nat.zero_le _, Nat.zero_le _⟩ (w2 := (W_V (dv (nI sn)) (va_up V 3 (p_adf (p_cif (V 3) (fun b => p_fo G tc wd cc kc b h) bs b) (p_fo G tc wd cc kc b h) 6)) (sv4 (nI hx_) s5_ r1_ r2_) T_ (gv tc wd cc kc) G)) rfl ?_
            show rr_J Z 4 0 0 _ 47 [(0, .ref 0), (1, .int bs), (2, .int (nI h)), (3, .int (nI b))] [] (W_V (dv (nI sn)) (va_up V 3 (p_adf (p_cif (V 3) (fun b => p_fo G tc wd cc kc b h) bs b) (p_fo G tc wd cc kc b h) 6)) (sv4 (nI hx_) s5_ r1_ r2_) T_ (gv tc wd cc kc) G)
            refine rr_go hC bk_X7_countInForce_47_23 (l' := [(0, .ref 0), (1, .int bs), (2, .int (nI h)), (3, .int ((nI b) + 1))]) (st' := []) (w' := (W_V (dv (nI sn)) (va_up V 3 (p_adf (p_cif (V 3) (fun b => p_fo G tc wd cc kc b h) bs b) (p_fo G tc wd cc kc b h) 6)) (sv4 (nI hx_) s5_ r1_ r2_) T_ (gv tc wd cc kc) G)) rfl ?_
            rw [show ((nI b) + 1 : Int32) = nI (b + 1) from nI_add b 1]
            exact rr_cast (l' := [(0, .ref 0), (1, .int bs), (2, .int (nI h)), (3, .int (nI (b + 1)))]) (by rfl) rfl (w' := (W_V (dv (nI sn)) (va_up V 3 (p_cif (V 3) (fun b => p_fo G tc wd cc kc b h) bs (b + 1))) (sv4 (nI hx_) s5_ r1_ r2_) T_ (gv tc wd cc kc) G)) (by simp only [p_cif]; first | rw [if_pos (show p_bit bs (nI b) = 0 from h34)] | rw [if_neg (show ¬ p_bit bs (nI b) = 0 from h34)]) (ih (b + 1) (by omega) (by omega) hx_ s5_ r1_ r2_ T_)
      exact rr_cast (l' := [(0, .ref 0), (1, .int bs), (2, .int (nI h)), (3, .int (nI 0))]) (by first | rfl | (rfl)) rfl (w' := (W_V (dv (nI sn)) (va_up V 3 (p_cif (V 3) (fun b => p_fo G tc wd cc kc b h) bs 0)) (sv4 (nI hx) s5 r1 r2) T (gv tc wd cc kc) G)) (by rw [show k = 6 by omega]; rfl) (lp23 (12 - 0) 0 (by omega) (Nat.le_refl _) hx s5 r1 r2 T)
    | succ j ih =>
      intro k hk2 hlo2
      refine rr_go hC bk_X7_countInForce_2_5 (l' := [(0, .ref 0), (1, .int bs), (2, .int (nI h)), (3, .int (nI k))]) (st' := [.int 6, .int (nI k)]) (w' := (W_V (dv (nI sn)) (va_up V 3 (p_zer (V 3) k)) (sv4 (nI hx) s5 r1 r2) T (gv tc wd cc kc) G)) rfl ?_
      refine rr_icmp_ge hC (off := 16) (tgt := 21) (by decide +kernel) (fun h5 => by rw [rr_ln_le (a := 6) (by omega) (by omega)] at h5; omega) (fun h5 => ?_)
      rw [rr_ln_le (a := 6) (by omega) (by omega)] at h5
      refine rr_go hC bk_X7_countInForce_8_14 (l' := [(0, .ref 0), (1, .int bs), (2, .int (nI h)), (3, .int (nI k))]) (st' := [.int 0, .int (nI k), .ref 4]) (w' := (W_V (dv (nI sn)) (va_up V 3 (p_zer (V 3) k)) (sv4 (nI hx) s5 r1 r2) T (gv tc wd cc kc) G)) rfl ?_
      refine rr_iast hC k (by decide +kernel) rfl rfl (by omega) rfl (w' := (W_V (dv (nI sn)) (va_up V 3 (upd (p_zer (V 3) k) k 0)) (sv4 (nI hx) s5 r1 r2) T (gv tc wd cc kc) G)) rfl ?_
      show rr_J Z 4 0 0 _ 15 [(0, .ref 0), (1, .int bs), (2, .int (nI h)), (3, .int (nI k))] [] (W_V (dv (nI sn)) (va_up V 3 (upd (p_zer (V 3) k) k 0)) (sv4 (nI hx) s5 r1 r2) T (gv tc wd cc kc) G)
      refine rr_go hC bk_X7_countInForce_15_2 (l' := [(0, .ref 0), (1, .int bs), (2, .int (nI h)), (3, .int ((nI k) + 1))]) (st' := []) (w' := (W_V (dv (nI sn)) (va_up V 3 (upd (p_zer (V 3) k) k 0)) (sv4 (nI hx) s5 r1 r2) T (gv tc wd cc kc) G)) rfl ?_
      rw [show ((nI k) + 1 : Int32) = nI (k + 1) from nI_add k 1]
      exact rr_cast (l' := [(0, .ref 0), (1, .int bs), (2, .int (nI h)), (3, .int (nI (k + 1)))]) (by rfl) rfl (w' := (W_V (dv (nI sn)) (va_up V 3 (p_zer (V 3) (k + 1))) (sv4 (nI hx) s5 r1 r2) T (gv tc wd cc kc) G)) (by rfl) (ih (k + 1) (by omega) (by omega))
  exact rr_cast (l' := [(0, .ref 0), (1, .int bs), (2, .int (nI h)), (3, .int (nI 0))]) (by first | rfl | (rfl)) rfl (w' := (W_V (dv (nI sn)) (va_up V 3 (p_zer (V 3) 0)) (sv4 (nI hx) s5 r1 r2) T (gv tc wd cc kc) G)) (by rfl) (lp2 (6 - 0) 0 (by omega) (Nat.le_refl _))
theorem bk_X7_bestToAsk_0_7 : rr_chk mX7_bestToAsk [(.iconst (-1), (-1), 0, 0), (.istore_n 2, 0, 2, 0), (.iload_n 1, 0, 1, 0), (.istore_n 3, 0, 3, 0), (.iconst 0, 0, 0, 0), (.istore 4, 0, 4, 0)] 0 7 = true := by decide +kernel
theorem bk_X7_bestToAsk_7_16 : rr_chk mX7_bestToAsk [(.iload 4, 0, 4, 0), (.aload_n 0, 0, 0, 0), (.getfield 25, 0, 7, 0), (.getfield 79, 0, 8, 9)] 7 16 = true := by decide +kernel
theorem bk_X7_bestToAsk_58_59 : rr_chk mX7_bestToAsk [(.iload_n 2, 0, 2, 0)] 58 59 = true := by decide +kernel
theorem bk_X7_bestToAsk_19_25 : rr_chk mX7_bestToAsk [(.aload_n 0, 0, 0, 0), (.getfield 22, 0, 7, 5), (.iload 4, 0, 4, 0)] 19 25 = true := by decide +kernel
theorem bk_X7_bestToAsk_26_33 : rr_chk mX7_bestToAsk [(.iload_n 1, 0, 1, 0), (.aload_n 0, 0, 0, 0), (.getfield 22, 0, 7, 5), (.iload 4, 0, 4, 0)] 26 33 = true := by decide +kernel
theorem bk_X7_bestToAsk_34_35 : rr_chk mX7_bestToAsk [(.isub, 0, 0, 0)] 34 35 = true := by decide +kernel
theorem bk_X7_bestToAsk_38_43 : rr_chk mX7_bestToAsk [(.istore 5, 0, 5, 0), (.iload 5, 0, 5, 0), (.iload_n 3, 0, 3, 0)] 38 43 = true := by decide +kernel
theorem bk_X7_bestToAsk_52_7 : rr_chk mX7_bestToAsk [(.iinc 4 1, 1, 4, 0), (.goto (-48), 0, 0, 0)] 52 7 = true := by decide +kernel
theorem bk_X7_bestToAsk_46_7 : rr_chk mX7_bestToAsk [(.iload 5, 0, 5, 0), (.istore_n 3, 0, 3, 0), (.iload 4, 0, 4, 0), (.istore_n 2, 0, 2, 0), (.iinc 4 1, 1, 4, 0), (.goto (-48), 0, 0, 0)] 46 7 = true := by decide +kernel
set_option maxRecDepth 100000 in
set_option maxHeartbeats 4000000 in
theorem c7_bestToAsk (sn : Nat) (V : Nat → Nat → Int32) (hx : Nat) (s5 r1 r2 : Int32) (T : Nat → Nat → Int32) (tc wd cc kc : Nat) (G : Nat → Nat → Int32) (all : Int32) (hkc : kc ≤ 6) : rr_C mX7_bestToAsk 1 [.ref 0, .int all] (W_V (dv (nI sn)) V (sv4 (nI hx) s5 r1 r2) T (gv tc wd cc kc) G) 0 0 (some ((p_bta (V 3) all kc).1)) (W_V (dv (nI sn)) V (sv4 (nI hx) s5 r1 r2) T (gv tc wd cc kc) G) := by
  refine rr_C.of (n := 1) fX7_bestToAsk.1 rfl rfl (fun Z hC => ?_)
  show rr_J Z 6 0 0 (rr_MQ Z 0 0 (some ((p_bta (V 3) all kc).1)) (W_V (dv (nI sn)) V (sv4 (nI hx) s5 r1 r2) T (gv tc wd cc kc) G)) 0 [(0, .ref 0), (1, .int all)] [] (W_V (dv (nI sn)) V (sv4 (nI hx) s5 r1 r2) T (gv tc wd cc kc) G)
  refine rr_go hC bk_X7_bestToAsk_0_7 (l' := [(0, .ref 0), (1, .int all), (2, .int (-1)), (3, .int all), (4, .int 0)]) (st' := []) (w' := (W_V (dv (nI sn)) V (sv4 (nI hx) s5 r1 r2) T (gv tc wd cc kc) G)) rfl ?_
  have lp7 : ∀ (j k : Nat), k + j = kc → 0 ≤ k → rr_J Z 6 0 0 (rr_MQ Z 0 0 (some ((p_bta (V 3) all kc).1)) (W_V (dv (nI sn)) V (sv4 (nI hx) s5 r1 r2) T (gv tc wd cc kc) G)) 7 [(0, .ref 0), (1, .int all), (2, .int ((p_bta (V 3) all k).1)), (3, .int ((p_bta (V 3) all k).2)), (4, .int (nI k))] [] (W_V (dv (nI sn)) V (sv4 (nI hx) s5 r1 r2) T (gv tc wd cc kc) G) := by
    intro j
    induction j with
    | zero =>
      intro k hk7 hlo7
      refine rr_go hC bk_X7_bestToAsk_7_16 (l' := [(0, .ref 0), (1, .int all), (2, .int ((p_bta (V 3) all k).1)), (3, .int ((p_bta (V 3) all k).2)), (4, .int (nI k))]) (st' := [.int (nI kc), .int (nI k)]) (w' := (W_V (dv (nI sn)) V (sv4 (nI hx) s5 r1 r2) T (gv tc wd cc kc) G)) rfl ?_
      refine rr_icmp_ge hC (off := 42) (tgt := 58) (by decide +kernel) (fun h16 => ?_) (fun h16 => by rw [rr_nn_le (by omega) (by omega)] at h16; omega)
      rw [rr_nn_le (by omega) (by omega)] at h16
      refine rr_go hC bk_X7_bestToAsk_58_59 (l' := [(0, .ref 0), (1, .int all), (2, .int ((p_bta (V 3) all k).1)), (3, .int ((p_bta (V 3) all k).2)), (4, .int (nI k))]) (st' := [.int ((p_bta (V 3) all k).1)]) (w' := (W_V (dv (nI sn)) V (sv4 (nI hx) s5 r1 r2) T (gv tc wd cc kc) G)) rfl ?_
      exact rr_reti hC (by decide +kernel) (by rw [show k = kc by omega]) (by rfl) ⟨Nat.zero_le _, Nat.zero_le _⟩
    | succ j ih =>
      intro k hk7 hlo7
      refine rr_go hC bk_X7_bestToAsk_7_16 (l' := [(0, .ref 0), (1, .int all), (2, .int ((p_bta (V 3) all k).1)), (3, .int ((p_bta (V 3) all k).2)), (4, .int (nI k))]) (st' := [.int (nI kc), .int (nI k)]) (w' := (W_V (dv (nI sn)) V (sv4 (nI hx) s5 r1 r2) T (gv tc wd cc kc) G)) rfl ?_
      refine rr_icmp_ge hC (off := 42) (tgt := 58) (by decide +kernel) (fun h16 => by rw [rr_nn_le (by omega) (by omega)] at h16; omega) (fun h16 => ?_)
      rw [rr_nn_le (by omega) (by omega)] at h16
      refine rr_go hC bk_X7_bestToAsk_19_25 (l' := [(0, .ref 0), (1, .int all), (2, .int ((p_bta (V 3) all k).1)), (3, .int ((p_bta (V 3) all k).2)), (4, .int (nI k))]) (st' := [.int (nI k), .ref 4]) (w' := (W_V (dv (nI sn)) V (sv4 (nI hx) s5 r1 r2) T (gv tc wd cc kc) G)) rfl ?_
      refine rr_iald hC k (by decide +kernel) rfl rfl (by omega) rfl ?_
      show rr_J Z 6 0 0 _ 26 [(0, .ref 0), (1, .int all), (2, .int ((p_bta (V 3) all k).1)), (3, .int ((p_bta (V 3) all k).2)), (4, .int (nI k))] [.int (V 3 k)] (W_V (dv (nI sn)) V (sv4 (nI hx) s5 r1 r2) T (gv tc wd cc kc) G)
      refine rr_go hC bk_X7_bestToAsk_26_33 (l' := [(0, .ref 0), (1, .int all), (2, .int ((p_bta (V 3) all k).1)), (3, .int ((p_bta (V 3) all k).2)), (4, .int (nI k))]) (st' := [.int (nI k), .ref 4, .int all, .int (V 3 k)]) (w' := (W_V (dv (nI sn)) V (sv4 (nI hx) s5 r1 r2) T (gv tc wd cc kc) G)) rfl ?_
      refine rr_iald hC k (by decide +kernel) rfl rfl (by omega) rfl ?_
      show rr_J Z 6 0 0 _ 34 [(0, .ref 0), (1, .int all), (2, .int ((p_bta (V 3) all k).1)), (3, .int ((p_bta (V 3) all k).2)), (4, .int (nI k))] [.int (V 3 k), .int all, .int (V 3 k)] (W_V (dv (nI sn)) V (sv4 (nI hx) s5 r1 r2) T (gv tc wd cc kc) G)
      refine rr_go hC bk_X7_bestToAsk_34_35 (l' := [(0, .ref 0), (1, .int all), (2, .int ((p_bta (V 3) all k).1)), (3, .int ((p_bta (V 3) all k).2)), (4, .int (nI k))]) (st' := [.int (all - (V 3 k)), .int (V 3 k)]) (w' := (W_V (dv (nI sn)) V (sv4 (nI hx) s5 r1 r2) T (gv tc wd cc kc) G)) rfl ?_
      refine rr_mmax hC (by decide +kernel) kl_7_67 rfl rfl rfl ⟨Nat.zero_le _, Nat.zero_le _⟩ ?_
      refine rr_go hC bk_X7_bestToAsk_38_43 (l' := [(0, .ref 0), (1, .int all), (2, .int ((p_bta (V 3) all k).1)), (3, .int ((p_bta (V 3) all k).2)), (4, .int (nI k)), (5, .int (if V 3 k < all - (V 3 k) then all - (V 3 k) else V 3 k))]) (st' := [.int ((p_bta (V 3) all k).2), .int (if V 3 k < all - (V 3 k) then all - (V 3 k) else V 3 k)]) (w' := (W_V (dv (nI sn)) V (sv4 (nI hx) s5 r1 r2) T (gv tc wd cc kc) G)) rfl ?_
      refine rr_icmp_ge hC (off := 9) (tgt := 52) (by decide +kernel) (fun h43 => ?_) (fun h43 => ?_)
      · refine rr_go hC bk_X7_bestToAsk_52_7 (l' := [(0, .ref 0), (1, .int all), (2, .int ((p_bta (V 3) all k).1)), (3, .int ((p_bta (V 3) all k).2)), (4, .int ((nI k) + 1)), (5, .int (if V 3 k < all - (V 3 k) then all - (V 3 k) else V 3 k))]) (st' := []) (w' := (W_V (dv (nI sn)) V (sv4 (nI hx) s5 r1 r2) T (gv tc wd cc kc) G)) rfl ?_
        rw [show ((nI k) + 1 : Int32) = nI (k + 1) from nI_add k 1]
        refine rr_dr 5 (l' := [(0, .ref 0), (1, .int all), (2, .int ((p_bta (V 3) all k).1)), (3, .int ((p_bta (V 3) all k).2)), (4, .int (nI (k + 1)))]) rfl ?_
        exact rr_cast (l' := [(0, .ref 0), (1, .int all), (2, .int ((p_bta (V 3) all (k + 1)).1)), (3, .int ((p_bta (V 3) all (k + 1)).2)), (4, .int (nI (k + 1)))]) (by first | (rw [show p_bta (V 3) all (k + 1) = p_bta (V 3) all k from if_neg (by unfold p_prt; exact Int32.not_lt.mpr h43)]; done) | (rw [show p_bta (V 3) all (k + 1) = (nI k, p_prt (V 3) all k) from if_pos (by unfold p_prt; exact Int32.not_le.mp h43)]; rfl)) rfl (w' := (W_V (dv (nI sn)) V (sv4 (nI hx) s5 r1 r2) T (gv tc wd cc kc) G)) (by rfl) (ih (k + 1) (by omega) (by omega))
      · refine rr_go hC bk_X7_bestToAsk_46_7 (l' := [(0, .ref 0), (1, .int all), (2, .int (nI k)), (3, .int (if V 3 k < all - (V 3 k) then all - (V 3 k) else V 3 k)), (4, .int ((nI k) + 1)), (5, .int (if V 3 k < all - (V 3 k) then all - (V 3 k) else V 3 k))]) (st' := []) (w' := (W_V (dv (nI sn)) V (sv4 (nI hx) s5 r1 r2) T (gv tc wd cc kc) G)) rfl ?_
        rw [show ((nI k) + 1 : Int32) = nI (k + 1) from nI_add k 1]
        refine rr_dr 5 (l' := [(0, .ref 0), (1, .int all), (2, .int (nI k)), (3, .int (if V 3 k < all - (V 3 k) then all - (V 3 k) else V 3 k)), (4, .int (nI (k + 1)))]) rfl ?_
        exact rr_cast (l' := [(0, .ref 0), (1, .int all), (2, .int ((p_bta (V 3) all (k + 1)).1)), (3, .int ((p_bta (V 3) all (k + 1)).2)), (4, .int (nI (k + 1)))]) (by first | (rw [show p_bta (V 3) all (k + 1) = p_bta (V 3) all k from if_neg (by unfold p_prt; exact Int32.not_lt.mpr h43)]; done) | (rw [show p_bta (V 3) all (k + 1) = (nI k, p_prt (V 3) all k) from if_pos (by unfold p_prt; exact Int32.not_le.mp h43)]; rfl)) rfl (w' := (W_V (dv (nI sn)) V (sv4 (nI hx) s5 r1 r2) T (gv tc wd cc kc) G)) (by rfl) (ih (k + 1) (by omega) (by omega))
  exact rr_cast (l' := [(0, .ref 0), (1, .int all), (2, .int ((p_bta (V 3) all 0).1)), (3, .int ((p_bta (V 3) all 0).2)), (4, .int (nI 0))]) (by first | rfl | (rfl)) rfl (w' := (W_V (dv (nI sn)) V (sv4 (nI hx) s5 r1 r2) T (gv tc wd cc kc) G)) (by rfl) (lp7 (kc - 0) 0 (by omega) (Nat.le_refl _))
