/-! plain instructions as a function; a run of them is one row -/
def rr_bin (f : Int32 → Int32 → Int32) (l : List (Nat × Value)) (st : List Value) (w : rr_A) : Option rr_S := match st with
  | .int y :: .int x :: st => some (l, .int (f x y) :: st, w)
  | _ => none
def rr_binL (f : Int64 → Int64 → Int64) (l : List (Nat × Value)) (st : List Value) (w : rr_A) : Option rr_S := match st with
  | .long y :: .long x :: st => some (l, .long (f x y) :: st, w)
  | _ => none
def rr_ild (a : Nat) (l : List (Nat × Value)) (st : List Value) (w : rr_A) : Option rr_S := match rr_lg l a with
  | some (.int v) => some (l, .int v :: st, w)
  | _ => none
def rr_lld (a : Nat) (l : List (Nat × Value)) (st : List Value) (w : rr_A) : Option rr_S := match rr_lg l a with
  | some (.long v) => some (l, .long v :: st, w)
  | _ => none
def rr_ald (a : Nat) (l : List (Nat × Value)) (st : List Value) (w : rr_A) : Option rr_S := match rr_lg l a with
  | some (.ref v) => some (l, .ref v :: st, w)
  | _ => none
def rr_ist (a : Nat) (l : List (Nat × Value)) (st : List Value) (w : rr_A) : Option rr_S := match st with
  | .int v :: st => match rr_lc l a with
    | true => some (rr_ls l a (.int v), st, w)
    | false => none
  | _ => none
def rr_lst (a : Nat) (l : List (Nat × Value)) (st : List Value) (w : rr_A) : Option rr_S := match st with
  | .long v :: st => match rr_lc l a with
    | true => some (rr_ls (rr_lf l (a + 1)) a (.long v), st, w)
    | false => none
  | _ => none
def rr_ast (a : Nat) (l : List (Nat × Value)) (st : List Value) (w : rr_A) : Option rr_S := match st with
  | .ref v :: st => match rr_lc l a with
    | true => some (rr_ls l a (.ref v), st, w)
    | false => none
  | _ => none
def rr_inc (a : Nat) (c : Int32) (l : List (Nat × Value)) (st : List Value) (w : rr_A) : Option rr_S := match rr_lg l a with
  | some (.int v) => match rr_lc l a with
    | true => some (rr_ls l a (.int (v + c)), st, w)
    | false => none
  | _ => none
def rr_get (a b : Nat) (l : List (Nat × Value)) (st : List Value) (w : rr_A) : Option rr_S := match st with
  | .ref i :: st => match w[i]? with
    | some (.inr (ci, fs)) => match Nat.beq ci a with
      | true => match fs[b]? with
        | some v => some (l, v :: st, w)
        | none => none
      | false => none
    | _ => none
  | _ => none
def rr_01 (c v : Int32) : Bool := match decide (c = 0) with
  | true => true
  | false => decide (v = 0) || decide (v = 1)
def rr_put (a b : Nat) (c : Int32) (l : List (Nat × Value)) (st : List Value) (w : rr_A) : Option rr_S := match st with
  | .int v :: .ref i :: st => match w[i]? with
    | some (.inr (ci, fs)) => match Nat.beq ci a, Nat.blt b fs.length, rr_01 c v with
      | true, true, true => some (l, st, w.set i (.inr (ci, fs.set b (.int v))))
      | _, _, _ => none
    | _ => none
  | _ => none
def rr_aln (l : List (Nat × Value)) (st : List Value) (w : rr_A) : Option rr_S := match st with
  | .ref i :: st => match w[i]? with
    | some (.inl (_, n, _)) => some (l, .int (nI n) :: st, w)
    | _ => none
  | _ => none
/-- an array's place a, known by its number -/
def rr_iald0 (a : Nat) (l : List (Nat × Value)) (st : List Value) (w : rr_A) : Option rr_S := match st with
  | .int x :: .ref i :: st => match w[i]? with
    | some (.inl (true, n, f)) => match decide (x = nI a), Nat.blt a n, Nat.blt a 1000 with
      | true, true, true => some (l, .int (f a) :: st, w)
      | _, _, _ => none
    | _ => none
  | _ => none
def rr_iast0 (a : Nat) (l : List (Nat × Value)) (st : List Value) (w : rr_A) : Option rr_S := match st with
  | .int v :: .int x :: .ref i :: st => match w[i]? with
    | some (.inl (true, n, f)) => match decide (x = nI a), Nat.blt a n, Nat.blt a 1000 with
      | true, true, true => some (l, st, w.set i (.inl (true, n, upd f a v)))
      | _, _, _ => none
    | _ => none
  | _ => none
def rr_dup2 (l : List (Nat × Value)) (st : List Value) (w : rr_A) : Option rr_S := match st with
  | .int y :: .ref x :: st => some (l, .int y :: .ref x :: .int y :: .ref x :: st, w)
  | _ => none
def rr_dup1 (l : List (Nat × Value)) (st : List Value) (w : rr_A) : Option rr_S := match st with
  | .int y :: st => some (l, .int y :: .int y :: st, w)
  | .ref y :: st => some (l, .ref y :: .ref y :: st, w)
  | _ => none
def rr_pop1 (l : List (Nat × Value)) (st : List Value) (w : rr_A) : Option rr_S := match st with
  | .int _ :: st => some (l, st, w)
  | _ => none
def rr_div0 (l : List (Nat × Value)) (st : List Value) (w : rr_A) : Option rr_S := match st with
  | .int y :: .int x :: st => match decide (y = 0) with
    | true => none
    | false => some (l, .int (x / y) :: st, w)
  | _ => none
def rr_rem0 (l : List (Nat × Value)) (st : List Value) (w : rr_A) : Option rr_S := match st with
  | .int y :: .int x :: st => match decide (y = 0) with
    | true => none
    | false => some (l, .int (x - x / y * y) :: st, w)
  | _ => none
def rr_ldiv0 (l : List (Nat × Value)) (st : List Value) (w : rr_A) : Option rr_S := match st with
  | .long y :: .long x :: st => match decide (y = 0) with
    | true => none
    | false => some (l, .long (x / y) :: st, w)
  | _ => none
def rr_i2l (l : List (Nat × Value)) (st : List Value) (w : rr_A) : Option rr_S := match st with
  | .int x :: st => some (l, .long x.toInt64 :: st, w)
  | _ => none
def rr_l2i (l : List (Nat × Value)) (st : List Value) (w : rr_A) : Option rr_S := match st with
  | .long x :: st => some (l, .int x.toInt32 :: st, w)
  | _ => none
def rr_st (x : rr_I) (l : List (Nat × Value)) (st : List Value) (w : rr_A) : Option rr_S := match x.1 with
  | .iconst _ => some (l, .int x.2.1 :: st, w)
  | .bipush _ => some (l, .int x.2.1 :: st, w)
  | .sipush _ => some (l, .int x.2.1 :: st, w)
  | .ldc _ => some (l, .int x.2.1 :: st, w)
  | .ldc_w _ => some (l, .int x.2.1 :: st, w)
  | .ldc2_w _ => some (l, .long x.2.1.toInt64 :: st, w)
  | .iload_n _ => rr_ild x.2.2.1 l st w
  | .iload _ => rr_ild x.2.2.1 l st w
  | .lload_n _ => rr_lld x.2.2.1 l st w
  | .aload_n _ => rr_ald x.2.2.1 l st w
  | .aload _ => rr_ald x.2.2.1 l st w
  | .istore_n _ => rr_ist x.2.2.1 l st w
  | .istore _ => rr_ist x.2.2.1 l st w
  | .lstore_n _ => rr_lst x.2.2.1 l st w
  | .astore_n _ => rr_ast x.2.2.1 l st w
  | .iinc _ _ => rr_inc x.2.2.1 x.2.1 l st w
  | .iadd => rr_bin (fun a b => a + b) l st w
  | .isub => rr_bin (fun a b => a - b) l st w
  | .imul => rr_bin (fun a b => a * b) l st w
  | .iand => rr_bin (fun a b => a &&& b) l st w
  | .ior => rr_bin (fun a b => a ||| b) l st w
  | .ixor => rr_bin (fun a b => a ^^^ b) l st w
  | .ishl => rr_bin (fun a b => a <<< (b &&& 31)) l st w
  | .ishr => rr_bin (fun a b => a >>> (b &&& 31)) l st w
  | .iushr => rr_bin (fun a b => (a.toUInt32 >>> (b.toUInt32 &&& Int32.toUInt32 31)).toInt32) l st w
  | .idiv => rr_div0 l st w
  | .irem => rr_rem0 l st w
  | .ladd => rr_binL (fun a b => a + b) l st w
  | .lmul => rr_binL (fun a b => a * b) l st w
  | .land => rr_binL (fun a b => a &&& b) l st w
  | .ldiv => rr_ldiv0 l st w
  | .i2l => rr_i2l l st w
  | .l2i => rr_l2i l st w
  | .dup => rr_dup1 l st w
  | .dup2 => rr_dup2 l st w
  | .pop => rr_pop1 l st w
  | .goto _ => some (l, st, w)
  | .getfield _ => rr_get x.2.2.1 x.2.2.2 l st w
  | .putfield _ => rr_put x.2.2.1 x.2.2.2 x.2.1 l st w
  | .arraylength => rr_aln l st w
  | .iaload => rr_iald0 x.2.2.1 l st w
  | .iastore => rr_iast0 x.2.2.1 l st w
  | _ => none
def rr_len (i : Instr) : Nat := match i with
  | .bipush _ => 2
  | .iload _ => 2
  | .aload _ => 2
  | .istore _ => 2
  | .ldc _ => 2
  | .sipush _ => 3
  | .ldc_w _ => 3
  | .ldc2_w _ => 3
  | .iinc _ _ => 3
  | .getfield _ => 3
  | .putfield _ => 3
  | .goto _ => 3
  | _ => 1
def rr_pc (i : Instr) (pc : Nat) : Nat := match i with
  | .goto off => ((pc : Int) + off).toNat
  | i => pc + rr_len i
/-- the operands are what the class file says -/
def rr_ok (o nL : Nat) (x : rr_I) : Bool := match x.1 with
  | .iconst n => decide (Int32.ofInt n = x.2.1)
  | .bipush n => decide ((Int8.ofInt n).toInt32 = x.2.1)
  | .sipush n => decide ((Int16.ofInt n).toInt32 = x.2.1)
  | .ldc i => rr_K.elem (o, i, x.2.1)
  | .ldc_w i => rr_K.elem (o, i, x.2.1)
  | .ldc2_w i => rr_L.elem (o, i, x.2.1)
  | .iload_n n => decide (n.val = x.2.2.1)
  | .iload n => decide (n = x.2.2.1)
  | .lload_n n => decide (n.val = x.2.2.1)
  | .aload_n n => decide (n.val = x.2.2.1)
  | .aload n => decide (n = x.2.2.1)
  | .istore_n n => decide (n.val = x.2.2.1) && decide (x.2.2.1 < nL)
  | .istore n => decide (n = x.2.2.1) && decide (x.2.2.1 < nL)
  | .lstore_n n => decide (n.val = x.2.2.1) && decide (x.2.2.1 + 1 < nL)
  | .astore_n n => decide (n.val = x.2.2.1) && decide (x.2.2.1 < nL)
  | .iinc i n => decide (i = x.2.2.1) && (decide (Int32.ofInt n = x.2.1) && decide (x.2.2.1 < nL))
  | .getfield i => rr_F.elem (o, i, x.2.2.1, x.2.2.2)
  | .putfield i => rr_F.elem (o, i, x.2.2.1, x.2.2.2) && (match vwCl[x.2.2.1]? with
    | some r => !(r.2.1 x.2.2.2).2.2.2 && (match rr_ty x.2.2.1 x.2.2.2 with
      | .int => decide (x.2.1 = 0)
      | .boolean => decide (x.2.1 = 1)
      | _ => false)
    | none => false)
  | _ => true
def rr_d1 (cc : ByteArray) (pc : Nat) (i : Instr) : Bool := decide (decode cc pc = .ok (i, rr_len i)) && (match i with
  | .goto off => decide (0 ≤ (pc : Int) + off)
  | _ => true)
theorem rr_nb1 {v : Int32} (h : v = 0 ∨ v = 1) : narrow .boolean (.int v) = .int v ∧ fits .boolean (.int v) = true := by
  rcases h with rfl | rfl <;> exact ⟨by decide +kernel, by decide +kernel⟩
section RR1
variable {M : rr_M} {d mc ms : Nat} {Z : rr_Z} {nL cells slots : Nat} {Q : State → Prop} {pc : Nat} {l l' : List (Nat × Value)} {st st' : List Value} {w w' : rr_A}
set_option maxHeartbeats 4000000 in
theorem rr_1 (hC : rr_X M d mc ms Z) (x : rr_I) (hd : rr_d1 M.2.2.1 pc x.1 = true) (hk : rr_ok M.1 nL x = true) (h : rr_st x l st w = some (l', st', w')) (k : rr_J Z nL cells slots Q (rr_pc x.1 pc) l' st' w') : rr_J Z nL cells slots Q pc l st w := by
  obtain ⟨p, lc, e, R, s, m, args, below, meth, c, D, cI, cZ, A, r0, n0⟩ := Z
  obtain ⟨hx, hb, hml, hown, hts, hlocks, hret, hname, hK, hN, hA, hR⟩ := hC
  obtain ⟨i, v, a, b⟩ := x
  unfold rr_d1 at hd
  rw [Bool.and_eq_true, decide_eq_true_eq] at hd
  obtain ⟨hd, hgo⟩ := hd
  intro r H locs ls hr hP hD hS hl
  specialize k r
  cases i
  case iconst n =>
    cases h
    exact lv_iconst hx hb hd (of_decide_eq_true hk) (k H locs ls hr hP hD hS hl)
  case bipush n =>
    cases h
    exact lv_bipush hx hb hd (of_decide_eq_true hk) (k H locs ls hr hP hD hS hl)
  case sipush n =>
    cases h
    exact lv_sipush hx hb hd (of_decide_eq_true hk) (k H locs ls hr hP hD hS hl)
  case ldc n =>
    cases h
    exact lv_ldc hx hb hown (hts _ (rr_K_ok hk)) hd (k H locs ls hr hP hD hS hl)
  case ldc_w n =>
    cases h
    exact lv_ldcw hx hb hown (hts _ (rr_K_ok hk)) hd (k H locs ls hr hP hD hS hl)
  case ldc2_w n =>
    cases h
    exact lv_ldc2 hx hb hown (hts _ (rr_L_ok hk)) hd (k H locs ls hr hP hD hS hl)
  case iload_n n =>
    have e1 : n.val = a := of_decide_eq_true hk
    simp only [rr_st, rr_ild] at h
    split at h
    · rename_i v hv
      cases h
      exact lv_iload_n hx hb hd e1 (rr_lat hl hv) (k H locs ls hr hP hD hS hl)
    · cases h
  case iload n =>
    have e1 : n = a := of_decide_eq_true hk
    subst e1
    simp only [rr_st, rr_ild] at h
    split at h
    · rename_i v hv
      cases h
      exact lv_iload hx hb hd (rr_lat hl hv) (k H locs ls hr hP hD hS hl)
    · cases h
  case lload_n n =>
    have e1 : n.val = a := of_decide_eq_true hk
    simp only [rr_st, rr_lld] at h
    split at h
    · rename_i v hv
      cases h
      exact lv_lload_n hx hb hd e1 (rr_lat hl hv) (k H locs ls hr hP hD hS hl)
    · cases h
  case aload_n n =>
    have e1 : n.val = a := of_decide_eq_true hk
    simp only [rr_st, rr_ald] at h
    split at h
    · rename_i v hv
      cases h
      exact lv_aload_n hx hb hd e1 (rr_lat hl hv) (k H locs ls hr hP hD hS hl)
    · cases h
  case aload n =>
    have e1 : n = a := of_decide_eq_true hk
    subst e1
    simp only [rr_st, rr_ald] at h
    split at h
    · rename_i v hv
      cases h
      exact lv_aload hx hb hd (rr_lat hl hv) (k H locs ls hr hP hD hS hl)
    · cases h
  case istore_n n =>
    simp only [rr_ok, Bool.and_eq_true, decide_eq_true_eq] at hk
    simp only [rr_st, rr_ist] at h
    split at h
    · split at h
      · rename_i hc
        cases h
        exact lv_istore_n hx hb hd hk.1 hl hk.2 rfl (fun ls' hl' => k H locs ls' hr hP hD hS (rr_store (v := .int _) hc hl'))
      · cases h
    · cases h
  case istore n =>
    simp only [rr_ok, Bool.and_eq_true, decide_eq_true_eq] at hk
    obtain ⟨e1, hk⟩ := hk
    subst e1
    simp only [rr_st, rr_ist] at h
    split at h
    · split at h
      · rename_i hc
        cases h
        exact lv_istore hx hb hd hl hk rfl (fun ls' hl' => k H locs ls' hr hP hD hS (rr_store (v := .int _) hc hl'))
      · cases h
    · cases h
  case lstore_n n =>
    simp only [rr_ok, Bool.and_eq_true, decide_eq_true_eq] at hk
    simp only [rr_st, rr_lst] at h
    split at h
    · split at h
      · rename_i hc
        cases h
        exact lv_lstore_n hx hb hd hk.1 hl hk.2 rfl (fun ls' hl' => k H locs ls' hr hP hD hS (rr_store2 (v := .long _) hc hl'))
      · cases h
    · cases h
  case astore_n n =>
    simp only [rr_ok, Bool.and_eq_true, decide_eq_true_eq] at hk
    simp only [rr_st, rr_ast] at h
    split at h
    · split at h
      · rename_i hc
        cases h
        exact lv_astore_n hx hb hd hk.1 hl hk.2 rfl (fun ls' hl' => k H locs ls' hr hP hD hS (rr_store (v := .ref _) hc hl'))
      · cases h
    · cases h
  case iinc i n =>
    simp only [rr_ok, Bool.and_eq_true, decide_eq_true_eq] at hk
    obtain ⟨e1, e2, hk⟩ := hk
    subst e1
    subst e2
    simp only [rr_st, rr_inc] at h
    split at h
    · rename_i v hv
      split at h
      · rename_i hc
        cases h
        obtain ⟨q, hq⟩ := List.getElem?_of_mem (List.mem_map.mpr ⟨(i, .int v), rr_lg_mem hv, rfl⟩ : (i, rr_cv r (.int v)) ∈ rr_cl r l)
        exact lv_iinc hx hb hd hl (k := q) hq rfl hk rfl (fun ls' hl' => k H locs ls' hr hP hD hS (rr_store (v := .int _) hc hl'))
      · cases h
    · cases h
  case iadd =>
    simp only [rr_st, rr_bin] at h
    split at h
    · cases h
      exact lv_iadd hx hb hd (k H locs ls hr hP hD hS hl)
    · cases h
  case isub =>
    simp only [rr_st, rr_bin] at h
    split at h
    · cases h
      exact lv_isub hx hb hd (k H locs ls hr hP hD hS hl)
    · cases h
  case imul =>
    simp only [rr_st, rr_bin] at h
    split at h
    · cases h
      exact lv_imul hx hb hd (k H locs ls hr hP hD hS hl)
    · cases h
  case iand =>
    simp only [rr_st, rr_bin] at h
    split at h
    · cases h
      exact lv_iand hx hb hd (k H locs ls hr hP hD hS hl)
    · cases h
  case ior =>
    simp only [rr_st, rr_bin] at h
    split at h
    · cases h
      exact lv_ior hx hb hd (k H locs ls hr hP hD hS hl)
    · cases h
  case ixor =>
    simp only [rr_st, rr_bin] at h
    split at h
    · cases h
      exact lv_ixor hx hb hd (k H locs ls hr hP hD hS hl)
    · cases h
  case ishl =>
    simp only [rr_st, rr_bin] at h
    split at h
    · cases h
      exact lv_ishl hx hb hd (k H locs ls hr hP hD hS hl)
    · cases h
  case ishr =>
    simp only [rr_st, rr_bin] at h
    split at h
    · cases h
      exact lv_ishr hx hb hd (k H locs ls hr hP hD hS hl)
    · cases h
  case iushr =>
    simp only [rr_st, rr_bin] at h
    split at h
    · cases h
      exact lv_iushr hx hb hd rfl (k H locs ls hr hP hD hS hl)
    · cases h
  case idiv =>
    simp only [rr_st, rr_div0] at h
    split at h
    · split at h
      · cases h
      · rename_i hc
        cases h
        exact lv_idiv hx hb hd (of_decide_eq_false hc) (k H locs ls hr hP hD hS hl)
    · cases h
  case irem =>
    simp only [rr_st, rr_rem0] at h
    split at h
    · split at h
      · cases h
      · rename_i hc
        cases h
        exact lv_irem hx hb hd (of_decide_eq_false hc) (k H locs ls hr hP hD hS hl)
    · cases h
  case ladd =>
    simp only [rr_st, rr_binL] at h
    split at h
    · cases h
      exact lv_ladd hx hb hd (k H locs ls hr hP hD hS hl)
    · cases h
  case lmul =>
    simp only [rr_st, rr_binL] at h
    split at h
    · cases h
      exact lv_lmul hx hb hd (k H locs ls hr hP hD hS hl)
    · cases h
  case land =>
    simp only [rr_st, rr_binL] at h
    split at h
    · cases h
      exact lv_land hx hb hd (k H locs ls hr hP hD hS hl)
    · cases h
  case ldiv =>
    simp only [rr_st, rr_ldiv0] at h
    split at h
    · split at h
      · cases h
      · rename_i hc
        cases h
        exact lv_ldiv hx hb hd (of_decide_eq_false hc) (k H locs ls hr hP hD hS hl)
    · cases h
  case i2l =>
    simp only [rr_st, rr_i2l] at h
    split at h
    · cases h
      exact lv_i2l hx hb hd rfl (k H locs ls hr hP hD hS hl)
    · cases h
  case l2i =>
    simp only [rr_st, rr_l2i] at h
    split at h
    · cases h
      exact lv_l2i hx hb hd rfl (k H locs ls hr hP hD hS hl)
    · cases h
  case dup =>
    simp only [rr_st, rr_dup1] at h
    split at h
    · cases h
      exact lv_dup hx hb hd rfl (k H locs ls hr hP hD hS hl)
    · cases h
      exact lv_dup hx hb hd rfl (k H locs ls hr hP hD hS hl)
    · cases h
  case dup2 =>
    simp only [rr_st, rr_dup2] at h
    split at h
    · cases h
      exact lv_dup2_11 hx hb hd rfl rfl (k H locs ls hr hP hD hS hl)
    · cases h
  case pop =>
    simp only [rr_st, rr_pop1] at h
    split at h
    · cases h
      exact lv_pop hx hb hd rfl (k H locs ls hr hP hD hS hl)
    · cases h
  case goto off =>
    cases h
    have h0 : 0 ≤ (pc : Int) + off := of_decide_eq_true hgo
    exact lv_goto hx hb hd (by show (pc : Int) + off = ((((pc : Int) + off).toNat : Nat) : Int); omega) (k H locs ls hr hP hD hS hl)
  case getfield n =>
    obtain ⟨q, hq, hlt, hin⟩ := rr_F_ok hk
    simp only [rr_st, rr_get] at h
    split at h
    · split at h
      · rename_i i st _ ci fs hw
        split at h
        · rename_i hci
          have e1 := Nat.eq_of_beq_eq_true hci
          subst e1
          split at h
          · rename_i v hv
            cases h
            exact va_get (C := q.1) (T := q.2.1) (N := q.2.2) hx hb hts (rr_lays hq) hown hK hP i (rr_cw_at hw) hq b hlt (hts _ hin) (fun _ h9 => h9) (v := rr_cv r v) (by simp [hv]) hd (k H locs ls hr hP hD hS hl)
          · cases h
        · cases h
      · cases h
    · cases h
  case putfield n =>
    simp only [rr_ok, Bool.and_eq_true] at hk
    obtain ⟨hk, hk2⟩ := hk
    obtain ⟨q, hq, hlt, hin⟩ := rr_F_ok hk
    rw [hq] at hk2
    simp only [Bool.and_eq_true, Bool.not_eq_true'] at hk2
    obtain ⟨hk3, hk4⟩ := hk2
    simp only [rr_st, rr_put] at h
    split at h
    · split at h
      · rename_i z i st _ ci fs hw
        split at h
        · rename_i hci hbl h01
          cases h
          have e1 := Nat.eq_of_beq_eq_true hci
          subst e1
          have hbl2 : b < (fs.map (rr_cv r)).length := by
            rw [List.length_map]
            simpa using hbl
          have hty := rr_ty_ok hq b hlt
          have hnf : narrow (rr_ty ci b) (.int z) = .int z ∧ fits (rr_ty ci b) (.int z) = true := by
            cases hT : rr_ty ci b <;> rw [hT] at hk4 <;> first | (cases hk4; done) | skip
            · exact ⟨rfl, rfl⟩
            · have e2 : v = 1 := of_decide_eq_true hk4
              subst e2
              refine rr_nb1 ?_
              have e3 : (decide (z = 0) || decide (z = 1)) = true := h01
              simpa using e3
          refine va_put (C := q.1) (T := q.2.1) (N := q.2.2) hx hb hts (rr_lays hq) (rr_ty ci) (rr_ty_ok hq) (rr_nm hq) hown hK hP hD hS i (rr_cw_at hw) hq b hlt (hts _ hin) (fun _ h9 => h9) hk3 hty hnf.1 hnf.2 hbl2 hd (fun H1 locs1 hP1 hD1 hS1 => ?_)
          have e4 : rr_cw cI cZ r (w.set i (.inr (ci, fs.set b (.int z)))) = (rr_cw cI cZ r w).set i (r i, .inr (ci, (fs.map (rr_cv r)).set b (.int z))) := by
            rw [rr_cw_set]
            simp [rr_ce, List.map_set, rr_cv]
          exact k H1 locs1 ls (by rw [List.length_set]; exact hr) (by rw [e4]; exact hP1) (by rw [e4]; exact hD1) hS1 hl
        · cases h
      · cases h
    · cases h
  case arraylength =>
    simp only [rr_st, rr_aln] at h
    split at h
    · split at h
      · rename_i i st _ t n f hw
        cases h
        cases t with
        | true => exact va_alen hx hb hK hP i 0 (rr_cw_at hw) (ty := .int) rfl rfl hd (k H locs ls hr hP hD hS hl)
        | false => exact va_alen hx hb hK hP i 1 (rr_cw_at hw) (ty := .boolean) rfl rfl hd (k H locs ls hr hP hD hS hl)
      · cases h
    · cases h
  case iaload =>
    simp only [rr_st, rr_iald0] at h
    split at h
    · split at h
      · rename_i x i st _ n f hw
        split at h
        · rename_i h1 h2 h3
          cases h
          have e1 : x = nI a := of_decide_eq_true h1
          have h2' : a < n := by simpa using h2
          have h3' : a < 1000 := by simpa using h3
          have e2 : x.toNatClampNeg = a := by rw [e1]; exact nI_clamp (by omega)
          have hin : vp_in x n := by
            rw [vp_in_iff, e1, nI_toInt (by omega)]
            omega
          refine va_iald hx hb hK hP i 0 (rr_cw_at hw) rfl hin hd ?_
          rw [e2]
          exact k H locs ls hr hP hD hS hl
        · cases h
      · cases h
    · cases h
  case iastore =>
    simp only [rr_st, rr_iast0] at h
    split at h
    · split at h
      · rename_i y x i st _ n f hw
        split at h
        · rename_i h1 h2 h3
          cases h
          have e1 : x = nI a := of_decide_eq_true h1
          have h2' : a < n := by simpa using h2
          have h3' : a < 1000 := by simpa using h3
          have e2 : x.toNatClampNeg = a := by rw [e1]; exact nI_clamp (by omega)
          have hin : vp_in x n := by
            rw [vp_in_iff, e1, nI_toInt (by omega)]
            omega
          refine va_iast hx hb hK hP hD hS i 0 (rr_cw_at hw) rfl hin hd (fun H1 locs1 hP1 hD1 hS1 => ?_)
          rw [e2] at hP1 hD1
          have e4 : rr_cw cI cZ r (w.set i (.inl (true, n, upd f a y))) = (rr_cw cI cZ r w).set i (r i, .inl (cI, n, .inl (upd f a y))) := by
            rw [rr_cw_set]; rfl
          exact k H1 locs1 ls (by rw [List.length_set]; exact hr) (by rw [e4]; exact hP1) (by rw [e4]; exact hD1) hS1 hl
        · cases h
      · cases h
    · cases h
  all_goals (cases h; done)
end RR1
def rr_run (xs : List rr_I) (l : List (Nat × Value)) (st : List Value) (w : rr_A) : Option rr_S := match xs with
  | [] => some (l, st, w)
  | x :: xs => match rr_st x l st w with
    | some (l, st, w) => rr_run xs l st w
    | none => none
def rr_chk (M : rr_M) (xs : List rr_I) (pc pc' : Nat) : Bool := match xs with
  | [] => decide (pc = pc')
  | x :: xs => rr_d1 M.2.2.1 pc x.1 && (rr_ok M.1 M.2.2.2.1 x && rr_chk M xs (rr_pc x.1 pc) pc')
theorem rr_go {M : rr_M} {d mc ms : Nat} {Z : rr_Z} {cells slots : Nat} {Q : State → Prop} {pc pc' : Nat} {l l' : List (Nat × Value)} {st st' : List Value} {w w' : rr_A} (hC : rr_X M d mc ms Z) {xs : List rr_I} (hk : rr_chk M xs pc pc' = true) (h : rr_run xs l st w = some (l', st', w')) (k : rr_J Z M.2.2.2.1 cells slots Q pc' l' st' w') : rr_J Z M.2.2.2.1 cells slots Q pc l st w := by
  induction xs generalizing pc l st w with
  | nil =>
    have e : pc = pc' := of_decide_eq_true hk
    subst e
    cases h
    exact k
  | cons x xs ih =>
    simp only [rr_chk, Bool.and_eq_true] at hk
    obtain ⟨h1, h2, h3⟩ := hk
    simp only [rr_run] at h
    split at h
    · rename_i l1 st1 w1 h4
      exact rr_1 hC x h1 h2 h4 (ih h3 h)
    · cases h
