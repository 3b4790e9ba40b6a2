/-! Dice, Past, Images, Book -/
def dv (v : Int32) (i : Nat) : Int32 := match i with
  | 0 => v
  | _ => 0
def pv (nx ct : Nat) (i : Nat) : Int32 := match i with
  | 0 => nI nx
  | _ => nI ct
def p_lcg (v : Int32) : Int32 := Int64.toInt32 (((Int32.toInt64 v * Int32.toInt64 1103515245) + Int32.toInt64 12345) &&& Int32.toInt64 2147483647)
theorem p_lcg_nat (v : Int32) : p_lcg v = nI (p_lcg v).toNatClampNeg := by
  have key : ∀ x : Int64, ∃ a : Nat, a < 2 ^ 31 ∧ Int64.toInt32 (x &&& Int32.toInt64 2147483647) = nI a := by
    intro x
    have hm : (Int32.toInt64 2147483647).toBitVec = BitVec.ofNat 64 (2 ^ 31 - 1) := by decide +kernel
    refine ⟨x.toBitVec.toNat % 2 ^ 31, Nat.mod_lt _ (by decide), ?_⟩
    apply Int32.toBitVec_inj.mp
    apply BitVec.eq_of_toNat_eq
    have e1 : (Int64.toInt32 (x &&& Int32.toInt64 2147483647)).toBitVec = (x &&& Int32.toInt64 2147483647).toBitVec.signExtend 32 := rfl
    rw [e1, Int64.toBitVec_and, hm]
    rw [show (nI (x.toBitVec.toNat % 2 ^ 31)).toBitVec.toNat = x.toBitVec.toNat % 2 ^ 31 from pk_tn (by have := Nat.mod_lt x.toBitVec.toNat (show 0 < 2 ^ 31 by decide); omega)]
    rw [BitVec.signExtend_eq_setWidth_of_le _ (by decide), BitVec.toNat_setWidth, BitVec.toNat_and, BitVec.toNat_ofNat]
    rw [show (2 ^ 31 - 1) % 2 ^ 64 = 2 ^ 31 - 1 by decide, Nat.and_two_pow_sub_one_eq_mod]
    exact Nat.mod_eq_of_lt (by have := Nat.mod_lt x.toBitVec.toNat (show 0 < 2 ^ 31 by decide); omega)
  obtain ⟨a, ha, e⟩ := key ((Int32.toInt64 v * Int32.toInt64 1103515245) + Int32.toInt64 12345)
  have e2 : p_lcg v = nI a := e
  rw [e2, nI_clamp ha]
def p_dr (v : Int32) (m : Nat) : Nat := ((p_lcg v).toNatClampNeg / 65536) % m
theorem p_lcg_lt (v : Int32) : (p_lcg v).toNatClampNeg < 2 ^ 31 := by
  have h := Int32.toInt_lt (p_lcg v)
  show (p_lcg v).toInt.toNat < 2 ^ 31
  omega
theorem p_lcg_def (v : Int32) : Int64.toInt32 (((Int32.toInt64 v * Int32.toInt64 1103515245) + Int32.toInt64 12345) &&& Int32.toInt64 2147483647) = p_lcg v := rfl
def p_drw (x : Int32) (m : Nat) : Int32 := (x / 65536) - (x / 65536) / nI m * nI m
theorem p_drw_eq (a m : Nat) (ha : a < 2 ^ 31) (hm : 0 < m) (hm2 : m ≤ 16) : p_drw (nI a) m = nI (a / 65536 % m) := by
  unfold p_drw
  have e1 : nI a / 65536 = nI (a / 65536) := rr_divl ha (by decide) (by decide)
  have h1 : a / 65536 ≤ a := Nat.div_le_self _ _
  rw [e1]
  exact rr_remn (by omega) hm (by omega)
theorem p_drw_dr (v : Int32) (m : Nat) (hm : 0 < m) (hm2 : m ≤ 16) : p_drw (p_lcg v) m = nI (p_dr v m) := by
  rw [p_lcg_nat v, p_drw_eq _ _ (p_lcg_lt v) hm hm2]
  unfold p_dr
  rfl
theorem bk_X1_next_0_22 : rr_chk mX1_next [(.aload_n 0, 0, 0, 0), (.aload_n 0, 0, 0, 0), (.getfield 7, 0, 1, 0), (.i2l, 0, 0, 0), (.ldc2_w 13, 1103515245, 0, 0), (.lmul, 0, 0, 0), (.ldc2_w 15, 12345, 0, 0), (.ladd, 0, 0, 0), (.ldc2_w 17, 2147483647, 0, 0), (.land, 0, 0, 0), (.l2i, 0, 0, 0), (.putfield 7, 0, 1, 0)] 0 22 = true := by decide +kernel
theorem bk_X1_next_22_23 : rr_chk mX1_next [(.iload_n 1, 0, 1, 0)] 22 23 = true := by decide +kernel
theorem bk_X1_next_26_34 : rr_chk mX1_next [(.aload_n 0, 0, 0, 0), (.getfield 7, 0, 1, 0), (.ldc 19, 65536, 0, 0), (.idiv, 0, 0, 0), (.iload_n 1, 0, 1, 0)] 26 34 = true := by decide +kernel
theorem bk_X1_next_35_39 : rr_chk mX1_next [(.goto 4, 0, 0, 0)] 35 39 = true := by decide +kernel
set_option maxRecDepth 100000 in
set_option maxHeartbeats 4000000 in
theorem c1_next0 (v : Int32) (m : Nat) (hm : 0 < m) (hm2 : m ≤ 16) : rr_C mX1_next 0 [.ref 0, .int (nI m)] (W_D (dv v)) 0 0 (some (p_drw (p_lcg v) m)) (W_D (dv (p_lcg v))) := by
  refine rr_C.of (n := 1) fX1_next.1 rfl rfl (fun Z hC => ?_)
  show rr_J Z 2 0 0 (rr_MQ Z 0 0 (some (p_drw (p_lcg v) m)) (W_D (dv (p_lcg v)))) 0 [(0, .ref 0), (1, .int (nI m))] [] (W_D (dv v))
  refine rr_go hC bk_X1_next_0_22 (l' := [(0, .ref 0), (1, .int (nI m))]) (st' := []) (w' := (W_D (upd (dv v) 0 (Int64.toInt32 ((((Int32.toInt64 v) * (Int32.toInt64 1103515245)) + (Int32.toInt64 12345)) &&& (Int32.toInt64 2147483647)))))) rfl ?_
  rw [p_lcg_def]
  generalize p_lcg v = y
  show rr_J Z 2 0 0 (rr_MQ Z 0 0 (some (p_drw y m)) (W_D (dv y))) 22 [(0, .ref 0), (1, .int (nI m))] [] (W_D (dv y))
  refine rr_go hC bk_X1_next_22_23 (l' := [(0, .ref 0), (1, .int (nI m))]) (st' := [.int (nI m)]) (w' := (W_D (dv y))) rfl ?_
  refine rr_if_le hC (off := 15) (tgt := 38) (by decide +kernel) (fun h23 => by rw [rr_nl_le (b := 0) (by omega) (by omega)] at h23; omega) (fun h23 => ?_)
  rw [rr_nl_le (b := 0) (by omega) (by omega)] at h23
  refine rr_go hC bk_X1_next_26_34 (l' := [(0, .ref 0), (1, .int (nI m))]) (st' := [.int (nI m), .int (y / 65536)]) (w' := (W_D (dv y))) rfl ?_
  refine rr_irem hC (by decide +kernel) (by rw [rr_nl_eq (b := 0) (by omega) (by omega)]; omega) ?_
  show rr_J Z 2 0 0 _ 35 [(0, .ref 0), (1, .int (nI m))] [.int ((y / 65536) - (y / 65536) / (nI m) * (nI m))] (W_D (dv y))
  refine rr_go hC bk_X1_next_35_39 (l' := [(0, .ref 0), (1, .int (nI m))]) (st' := [.int ((y / 65536) - (y / 65536) / (nI m) * (nI m))]) (w' := (W_D (dv y))) rfl ?_
  exact rr_reti hC (by decide +kernel) (by rfl) (by rfl) ⟨Nat.zero_le _, Nat.zero_le _⟩
theorem c1_next (v : Int32) (m : Nat) (hm : 0 < m) (hm2 : m ≤ 16) : rr_C mX1_next 0 [.ref 0, .int (nI m)] (W_D (dv v)) 0 0 (some (nI (p_dr v m))) (W_D (dv (p_lcg v))) := by
  rw [← p_drw_dr v m hm hm2]
  exact c1_next0 v m hm hm2
theorem bk_X3_add_0_12 : rr_chk mX3_add [(.aload_n 1, 0, 1, 0), (.aload_n 0, 0, 0, 0), (.getfield 11, 0, 3, 0), (.aload_n 0, 0, 0, 0), (.getfield 17, 0, 3, 1), (.bipush 22, 22, 0, 0), (.imul, 0, 0, 0)] 0 12 = true := by decide +kernel
theorem bk_X3_add_15_24 : rr_chk mX3_add [(.aload_n 0, 0, 0, 0), (.aload_n 0, 0, 0, 0), (.getfield 17, 0, 3, 1), (.iconst 1, 1, 0, 0), (.iadd, 0, 0, 0), (.bipush 30, 30, 0, 0)] 15 24 = true := by decide +kernel
theorem bk_X3_add_25_34 : rr_chk mX3_add [(.putfield 17, 0, 3, 1), (.aload_n 0, 0, 0, 0), (.getfield 25, 0, 3, 2), (.bipush 30, 30, 0, 0)] 25 34 = true := by decide +kernel
theorem bk_X3_add_37_47 : rr_chk mX3_add [(.aload_n 0, 0, 0, 0), (.dup, 0, 0, 0), (.getfield 25, 0, 3, 2), (.iconst 1, 1, 0, 0), (.iadd, 0, 0, 0), (.putfield 25, 0, 3, 2)] 37 47 = true := by decide +kernel
set_option maxRecDepth 100000 in
set_option maxHeartbeats 4000000 in
theorem c3_add (nx ct : Nat) (R : Nat → Nat → Int32) (hh : Nat) (ss p1 p2 : Int32) (S : Nat → Nat → Int32) (tc wd cc kc : Nat) (G : Nat → Nat → Int32) (hnx : nx < 30) (hct : ct ≤ 30) : rr_C mX3_add 2 [.ref 0, .ref 2] (W_P (pv nx ct) R (sv4 (nI hh) ss p1 p2) S (gv tc wd cc kc) G) 0 0 none (W_P (pv ((nx + 1) % 30) (min (ct + 1) 30)) (va_up R 0 (p_sav (R 0) (nx * 22) (nI hh) ss p1 p2 S)) (sv4 (nI hh) ss p1 p2) S (gv tc wd cc kc) G) := by
  refine rr_C.of (n := 1) fX3_add.1 rfl rfl (fun Z hC => ?_)
  show rr_J Z 2 0 0 (rr_MQ Z 0 0 none (W_P (pv ((nx + 1) % 30) (min (ct + 1) 30)) (va_up R 0 (p_sav (R 0) (nx * 22) (nI hh) ss p1 p2 S)) (sv4 (nI hh) ss p1 p2) S (gv tc wd cc kc) G)) 0 [(0, .ref 0), (1, .ref 2)] [] (W_P (pv nx ct) R (sv4 (nI hh) ss p1 p2) S (gv tc wd cc kc) G)
  refine rr_go hC bk_X3_add_0_12 (l' := [(0, .ref 0), (1, .ref 2)]) (st' := [.int ((nI nx) * 22), .ref 1, .ref 2]) (w' := (W_P (pv nx ct) R (sv4 (nI hh) ss p1 p2) S (gv tc wd cc kc) G)) rfl ?_
  rw [show ((nI nx) * 22 : Int32) = nI (nx * 22) from pk_mul nx 22]
  refine rr_callV hC (by decide +kernel) kl_3_21 fX6_save (c6_save660 (nI hh) ss p1 p2 S 11 (fun _ => R 0) (nx * 22) (by omega)) rfl rfl [2, 3, 4, 5, 1] rfl rfl (Eq.refl 5) rfl rfl rfl (rest := []) rfl rfl ⟨Nat.zero_le _, Nat.zero_le _⟩ (w2 := (W_P (pv nx ct) (va_up R 0 (p_sav (R 0) (nx * 22) (nI hh) ss p1 p2 S)) (sv4 (nI hh) ss p1 p2) S (gv tc wd cc kc) G)) rfl ?_
  show rr_J Z 2 0 0 _ 15 [(0, .ref 0), (1, .ref 2)] [] (W_P (pv nx ct) (va_up R 0 (p_sav (R 0) (nx * 22) (nI hh) ss p1 p2 S)) (sv4 (nI hh) ss p1 p2) S (gv tc wd cc kc) G)
  refine rr_go hC bk_X3_add_15_24 (l' := [(0, .ref 0), (1, .ref 2)]) (st' := [.int 30, .int ((nI nx) + 1), .ref 0]) (w' := (W_P (pv nx ct) (va_up R 0 (p_sav (R 0) (nx * 22) (nI hh) ss p1 p2 S)) (sv4 (nI hh) ss p1 p2) S (gv tc wd cc kc) G)) rfl ?_
  rw [show ((nI nx) + 1 : Int32) = nI (nx + 1) from nI_add nx 1]
  refine rr_irem hC (by decide +kernel) (by decide) ?_
  rw [rr_reml (d := 30) (by omega) (by omega) (by omega)]
  show rr_J Z 2 0 0 _ 25 [(0, .ref 0), (1, .ref 2)] [.int (nI ((nx + 1) % 30)), .ref 0] (W_P (pv nx ct) (va_up R 0 (p_sav (R 0) (nx * 22) (nI hh) ss p1 p2 S)) (sv4 (nI hh) ss p1 p2) S (gv tc wd cc kc) G)
  refine rr_go hC bk_X3_add_25_34 (l' := [(0, .ref 0), (1, .ref 2)]) (st' := [.int 30, .int (nI ct)]) (w' := (W_P (upd (pv nx ct) 0 (nI ((nx + 1) % 30))) (va_up R 0 (p_sav (R 0) (nx * 22) (nI hh) ss p1 p2 S)) (sv4 (nI hh) ss p1 p2) S (gv tc wd cc kc) G)) rfl ?_
  refine rr_icmp_ge hC (off := 13) (tgt := 47) (by decide +kernel) (fun h34 => ?_) (fun h34 => ?_)
  · rw [rr_ln_le (a := 30) (by omega) (by omega)] at h34
    exact rr_retv hC (by decide +kernel) (by first | rfl | (rw [show min (ct + 1) 30 = ct + 1 by omega]; rfl) | (rw [show min (ct + 1) 30 = ct by omega]; rfl)) ⟨Nat.zero_le _, Nat.zero_le _⟩
  · rw [rr_ln_le (a := 30) (by omega) (by omega)] at h34
    refine rr_go hC bk_X3_add_37_47 (l' := [(0, .ref 0), (1, .ref 2)]) (st' := []) (w' := (W_P (upd (upd (pv nx ct) 0 (nI ((nx + 1) % 30))) 1 ((nI ct) + 1)) (va_up R 0 (p_sav (R 0) (nx * 22) (nI hh) ss p1 p2 S)) (sv4 (nI hh) ss p1 p2) S (gv tc wd cc kc) G)) rfl ?_
    rw [show ((nI ct) + 1 : Int32) = nI (ct + 1) from nI_add ct 1]
    exact rr_retv hC (by decide +kernel) (by first | rfl | (rw [show min (ct + 1) 30 = ct + 1 by omega]; rfl) | (rw [show min (ct + 1) 30 = ct by omega]; rfl)) ⟨Nat.zero_le _, Nat.zero_le _⟩
theorem bk_X3_restore_0_2 : rr_chk mX3_restore [(.iload_n 2, 0, 2, 0), (.iconst 1, 1, 0, 0)] 0 2 = true := by decide +kernel
theorem bk_X3_restore_5_10 : rr_chk mX3_restore [(.iload_n 2, 0, 2, 0), (.aload_n 0, 0, 0, 0), (.getfield 25, 0, 3, 2)] 5 10 = true := by decide +kernel
theorem bk_X3_restore_14_26 : rr_chk mX3_restore [(.aload_n 0, 0, 0, 0), (.aload_n 0, 0, 0, 0), (.getfield 17, 0, 3, 1), (.bipush 30, 30, 0, 0), (.iadd, 0, 0, 0), (.iload_n 2, 0, 2, 0), (.isub, 0, 0, 0), (.bipush 30, 30, 0, 0)] 14 26 = true := by decide +kernel
theorem bk_X3_restore_27_52 : rr_chk mX3_restore [(.putfield 17, 0, 3, 1), (.aload_n 0, 0, 0, 0), (.dup, 0, 0, 0), (.getfield 25, 0, 3, 2), (.iload_n 2, 0, 2, 0), (.isub, 0, 0, 0), (.putfield 25, 0, 3, 2), (.aload_n 1, 0, 1, 0), (.aload_n 0, 0, 0, 0), (.getfield 11, 0, 3, 0), (.aload_n 0, 0, 0, 0), (.getfield 17, 0, 3, 1), (.bipush 22, 22, 0, 0), (.imul, 0, 0, 0)] 27 52 = true := by decide +kernel
set_option maxRecDepth 100000 in
set_option maxHeartbeats 4000000 in
theorem c3_restore (nx ct : Nat) (R : Nat → Nat → Int32) (hh : Nat) (ss p1 p2 : Int32) (S : Nat → Nat → Int32) (tc wd cc kc : Nat) (G : Nat → Nat → Int32) (n : Nat) (hnx : nx < 30) (hct : ct ≤ 30) (hn1 : 1 ≤ n) (hn : n ≤ ct) : rr_C mX3_restore 2 [.ref 0, .ref 2, .int (nI n)] (W_P (pv nx ct) R (sv4 (nI hh) ss p1 p2) S (gv tc wd cc kc) G) 0 0 none (W_P (pv (((nx + 30) - n) % 30) (ct - n)) R (sv4 (R 0 ((((nx + 30) - n) % 30) * 22)) (R 0 ((((nx + 30) - n) % 30) * 22 + 1)) (R 0 ((((nx + 30) - n) % 30) * 22 + 2)) (R 0 ((((nx + 30) - n) % 30) * 22 + 3))) (p_lod S (R 0) ((((nx + 30) - n) % 30) * 22)) (gv tc wd cc kc) G) := by
  refine rr_C.of (n := 2) fX3_restore.1 rfl rfl (fun Z hC => ?_)
  show rr_J Z 3 0 0 (rr_MQ Z 0 0 none (W_P (pv (((nx + 30) - n) % 30) (ct - n)) R (sv4 (R 0 ((((nx + 30) - n) % 30) * 22)) (R 0 ((((nx + 30) - n) % 30) * 22 + 1)) (R 0 ((((nx + 30) - n) % 30) * 22 + 2)) (R 0 ((((nx + 30) - n) % 30) * 22 + 3))) (p_lod S (R 0) ((((nx + 30) - n) % 30) * 22)) (gv tc wd cc kc) G)) 0 [(0, .ref 0), (1, .ref 2), (2, .int (nI n))] [] (W_P (pv nx ct) R (sv4 (nI hh) ss p1 p2) S (gv tc wd cc kc) G)
  refine rr_go hC bk_X3_restore_0_2 (l' := [(0, .ref 0), (1, .ref 2), (2, .int (nI n))]) (st' := [.int 1, .int (nI n)]) (w' := (W_P (pv nx ct) R (sv4 (nI hh) ss p1 p2) S (gv tc wd cc kc) G)) rfl ?_
  refine rr_icmp_lt hC (off := 11) (tgt := 13) (by decide +kernel) (fun h2 => by rw [rr_nl_lt (b := 1) (by omega) (by omega)] at h2; omega) (fun h2 => ?_)
  rw [rr_nl_lt (b := 1) (by omega) (by omega)] at h2
  refine rr_go hC bk_X3_restore_5_10 (l' := [(0, .ref 0), (1, .ref 2), (2, .int (nI n))]) (st' := [.int (nI ct), .int (nI n)]) (w' := (W_P (pv nx ct) R (sv4 (nI hh) ss p1 p2) S (gv tc wd cc kc) G)) rfl ?_
  refine rr_icmp_le hC (off := 4) (tgt := 14) (by decide +kernel) (fun h10 => ?_) (fun h10 => by rw [rr_nn_le (by omega) (by omega)] at h10; omega)
  rw [rr_nn_le (by omega) (by omega)] at h10
  refine rr_go hC bk_X3_restore_14_26 (l' := [(0, .ref 0), (1, .ref 2), (2, .int (nI n))]) (st' := [.int 30, .int (((nI nx) + 30) - (nI n)), .ref 0]) (w' := (W_P (pv nx ct) R (sv4 (nI hh) ss p1 p2) S (gv tc wd cc kc) G)) rfl ?_
  rw [show ((nI nx) + 30 : Int32) = nI (nx + 30) from nI_add nx 30]
  rw [show ((nI (nx + 30)) - (nI n) : Int32) = nI ((nx + 30) - n) from pk_sub (a := nx + 30) (b := n) (by omega)]
  refine rr_irem hC (by decide +kernel) (by decide) ?_
  rw [rr_reml (d := 30) (by omega) (by omega) (by omega)]
  show rr_J Z 3 0 0 _ 27 [(0, .ref 0), (1, .ref 2), (2, .int (nI n))] [.int (nI (((nx + 30) - n) % 30)), .ref 0] (W_P (pv nx ct) R (sv4 (nI hh) ss p1 p2) S (gv tc wd cc kc) G)
  refine rr_go hC bk_X3_restore_27_52 (l' := [(0, .ref 0), (1, .ref 2), (2, .int (nI n))]) (st' := [.int ((nI (((nx + 30) - n) % 30)) * 22), .ref 1, .ref 2]) (w' := (W_P (upd (upd (pv nx ct) 0 (nI (((nx + 30) - n) % 30))) 1 ((nI ct) - (nI n))) R (sv4 (nI hh) ss p1 p2) S (gv tc wd cc kc) G)) rfl ?_
  rw [show ((nI (((nx + 30) - n) % 30)) * 22 : Int32) = nI ((((nx + 30) - n) % 30) * 22) from pk_mul (((nx + 30) - n) % 30) 22]
  rw [show ((nI ct) - (nI n) : Int32) = nI (ct - n) from pk_sub (a := ct) (b := n) (by omega)]
  refine rr_callV hC (by decide +kernel) kl_3_28 fX6_load (c6_load660 (nI hh) ss p1 p2 S 11 (fun _ => R 0) ((((nx + 30) - n) % 30) * 22) (by omega)) rfl rfl [2, 3, 4, 5, 1] rfl rfl (Eq.refl 5) rfl rfl rfl (rest := []) rfl rfl ⟨Nat.zero_le _, Nat.zero_le _⟩ (w2 := (W_P (upd (upd (pv nx ct) 0 (nI (((nx + 30) - n) % 30))) 1 (nI (ct - n))) R (sv4 (R 0 ((((nx + 30) - n) % 30) * 22)) (R 0 (((((nx + 30) - n) % 30) * 22) + 1)) (R 0 (((((nx + 30) - n) % 30) * 22) + 2)) (R 0 (((((nx + 30) - n) % 30) * 22) + 3))) (p_lod S (R 0) ((((nx + 30) - n) % 30) * 22)) (gv tc wd cc kc) G)) rfl ?_
  show rr_J Z 3 0 0 _ 55 [(0, .ref 0), (1, .ref 2), (2, .int (nI n))] [] (W_P (upd (upd (pv nx ct) 0 (nI (((nx + 30) - n) % 30))) 1 (nI (ct - n))) R (sv4 (R 0 ((((nx + 30) - n) % 30) * 22)) (R 0 (((((nx + 30) - n) % 30) * 22) + 1)) (R 0 (((((nx + 30) - n) % 30) * 22) + 2)) (R 0 (((((nx + 30) - n) % 30) * 22) + 3))) (p_lod S (R 0) ((((nx + 30) - n) % 30) * 22)) (gv tc wd cc kc) G)
  exact rr_retv hC (by decide +kernel) (by rfl) ⟨Nat.zero_le _, Nat.zero_le _⟩
theorem bk_X3_forget_0_10 : rr_chk mX3_forget [(.aload_n 0, 0, 0, 0), (.iconst 0, 0, 0, 0), (.putfield 17, 0, 3, 1), (.aload_n 0, 0, 0, 0), (.iconst 0, 0, 0, 0), (.putfield 25, 0, 3, 2)] 0 10 = true := by decide +kernel
set_option maxRecDepth 100000 in
set_option maxHeartbeats 4000000 in
theorem c3_forget (nx ct : Nat) (R : Nat → Nat → Int32) : rr_C mX3_forget 0 [.ref 0] (W_P0 (pv nx ct) R) 0 0 none (W_P0 (pv 0 0) R) := by
  refine rr_C.of (n := 0) fX3_forget.1 rfl rfl (fun Z hC => ?_)
  show rr_J Z 1 0 0 (rr_MQ Z 0 0 none (W_P0 (pv 0 0) R)) 0 [(0, .ref 0)] [] (W_P0 (pv nx ct) R)
  refine rr_go hC bk_X3_forget_0_10 (l' := [(0, .ref 0)]) (st' := []) (w' := (W_P0 (upd (upd (pv nx ct) 0 0) 1 0) R)) rfl ?_
  exact rr_retv hC (by decide +kernel) (by rfl) ⟨Nat.zero_le _, Nat.zero_le _⟩
theorem bk_X2_has_0_1 : rr_chk mX2_has [(.iload_n 1, 0, 1, 0)] 0 1 = true := by decide +kernel
theorem bk_X2_has_4_6 : rr_chk mX2_has [(.iload_n 1, 0, 1, 0), (.iconst 2, 2, 0, 0)] 4 6 = true := by decide +kernel
theorem bk_X2_has_9_14 : rr_chk mX2_has [(.aload_n 0, 0, 0, 0), (.getfield 20, 0, 2, 2), (.iload_n 1, 0, 1, 0)] 9 14 = true := by decide +kernel
theorem bk_X2_has_22_23 : rr_chk mX2_has [(.iconst 0, 0, 0, 0)] 22 23 = true := by decide +kernel
theorem bk_X2_has_18_23 : rr_chk mX2_has [(.iconst 1, 1, 0, 0), (.goto 4, 0, 0, 0)] 18 23 = true := by decide +kernel
set_option maxRecDepth 100000 in
set_option maxHeartbeats 4000000 in
theorem c2_has (I : Nat → Nat → Int32) (i : Nat) (hi : i < 2) : rr_C mX2_has 0 [.ref 0, .int (nI i)] (W_I0 I) 0 0 (some (rr_b (!decide (I 2 i = 0)))) (W_I0 I) := by
  refine rr_C.of (n := 1) fX2_has.1 rfl rfl (fun Z hC => ?_)
  show rr_J Z 2 0 0 (rr_MQ Z 0 0 (some (rr_b (!decide (I 2 i = 0)))) (W_I0 I)) 0 [(0, .ref 0), (1, .int (nI i))] [] (W_I0 I)
  refine rr_go hC bk_X2_has_0_1 (l' := [(0, .ref 0), (1, .int (nI i))]) (st' := [.int (nI i)]) (w' := (W_I0 I)) rfl ?_
  refine rr_if_lt hC (off := 21) (tgt := 22) (by decide +kernel) (fun h1 => by rw [rr_nl_lt (b := 0) (by omega) (by omega)] at h1; omega) (fun h1 => ?_)
  rw [rr_nl_lt (b := 0) (by omega) (by omega)] at h1
  refine rr_go hC bk_X2_has_4_6 (l' := [(0, .ref 0), (1, .int (nI i))]) (st' := [.int 2, .int (nI i)]) (w' := (W_I0 I)) rfl ?_
  refine rr_icmp_ge hC (off := 16) (tgt := 22) (by decide +kernel) (fun h6 => by rw [rr_ln_le (a := 2) (by omega) (by omega)] at h6; omega) (fun h6 => ?_)
  rw [rr_ln_le (a := 2) (by omega) (by omega)] at h6
  refine rr_go hC bk_X2_has_9_14 (l' := [(0, .ref 0), (1, .int (nI i))]) (st' := [.int (nI i), .ref 3]) (w' := (W_I0 I)) rfl ?_
  refine rr_zald hC i (by decide +kernel) rfl rfl (by omega) rfl ?_
  show rr_J Z 2 0 0 _ 15 [(0, .ref 0), (1, .int (nI i))] [.int (I 2 i)] (W_I0 I)
  refine rr_if_eq hC (off := 7) (tgt := 22) (by decide +kernel) (fun h15 => ?_) (fun h15 => ?_)
  · refine rr_go hC bk_X2_has_22_23 (l' := [(0, .ref 0), (1, .int (nI i))]) (st' := [.int 0]) (w' := (W_I0 I)) rfl ?_
    exact rr_retz hC (by decide +kernel) (Or.inl rfl) (by simp [rr_b, *]) (by rfl) ⟨Nat.zero_le _, Nat.zero_le _⟩
  · refine rr_go hC bk_X2_has_18_23 (l' := [(0, .ref 0), (1, .int (nI i))]) (st' := [.int 1]) (w' := (W_I0 I)) rfl ?_
    exact rr_retz hC (by decide +kernel) (Or.inr rfl) (by simp [rr_b, *]) (by rfl) ⟨Nat.zero_le _, Nat.zero_le _⟩
theorem bk_X2_take_0_1 : rr_chk mX2_take [(.iload_n 1, 0, 1, 0)] 0 1 = true := by decide +kernel
theorem bk_X2_take_4_6 : rr_chk mX2_take [(.iload_n 1, 0, 1, 0), (.iconst 2, 2, 0, 0)] 4 6 = true := by decide +kernel
theorem bk_X2_take_9_18 : rr_chk mX2_take [(.aload_n 2, 0, 2, 0), (.aload_n 0, 0, 0, 0), (.getfield 11, 0, 2, 0), (.iload_n 1, 0, 1, 0), (.bipush 22, 22, 0, 0), (.imul, 0, 0, 0)] 9 18 = true := by decide +kernel
theorem bk_X2_take_21_30 : rr_chk mX2_take [(.aload_n 0, 0, 0, 0), (.getfield 17, 0, 2, 1), (.iload_n 1, 0, 1, 0), (.aload_n 3, 0, 3, 0), (.getfield 28, 0, 1, 0)] 21 30 = true := by decide +kernel
theorem bk_X2_take_31_37 : rr_chk mX2_take [(.aload_n 0, 0, 0, 0), (.getfield 20, 0, 2, 2), (.iload_n 1, 0, 1, 0), (.iconst 1, 1, 0, 0)] 31 37 = true := by decide +kernel
set_option maxRecDepth 100000 in
set_option maxHeartbeats 4000000 in
theorem c2_take (I : Nat → Nat → Int32) (hh : Nat) (ss p1 p2 : Int32) (S : Nat → Nat → Int32) (v : Int32) (tc wd cc kc : Nat) (G : Nat → Nat → Int32) (i : Nat) (hi : i < 2) : rr_C mX2_take 2 [.ref 0, .int (nI i), .ref 4, .ref 8] (W_I I (sv4 (nI hh) ss p1 p2) S (dv v) (gv tc wd cc kc) G) 0 0 none (W_I (va_up (va_up (va_up I 0 (p_sav (I 0) (i * 22) (nI hh) ss p1 p2 S)) 1 (upd (I 1) i v)) 2 (upd (I 2) i 1)) (sv4 (nI hh) ss p1 p2) S (dv v) (gv tc wd cc kc) G) := by
  refine rr_C.of (n := 3) fX2_take.1 rfl rfl (fun Z hC => ?_)
  show rr_J Z 4 0 0 (rr_MQ Z 0 0 none (W_I (va_up (va_up (va_up I 0 (p_sav (I 0) (i * 22) (nI hh) ss p1 p2 S)) 1 (upd (I 1) i v)) 2 (upd (I 2) i 1)) (sv4 (nI hh) ss p1 p2) S (dv v) (gv tc wd cc kc) G)) 0 [(0, .ref 0), (1, .int (nI i)), (2, .ref 4), (3, .ref 8)] [] (W_I I (sv4 (nI hh) ss p1 p2) S (dv v) (gv tc wd cc kc) G)
  refine rr_go hC bk_X2_take_0_1 (l' := [(0, .ref 0), (1, .int (nI i)), (2, .ref 4), (3, .ref 8)]) (st' := [.int (nI i)]) (w' := (W_I I (sv4 (nI hh) ss p1 p2) S (dv v) (gv tc wd cc kc) G)) rfl ?_
  refine rr_if_lt hC (off := 37) (tgt := 38) (by decide +kernel) (fun h1 => by rw [rr_nl_lt (b := 0) (by omega) (by omega)] at h1; omega) (fun h1 => ?_)
  rw [rr_nl_lt (b := 0) (by omega) (by omega)] at h1
  refine rr_go hC bk_X2_take_4_6 (l' := [(0, .ref 0), (1, .int (nI i)), (2, .ref 4), (3, .ref 8)]) (st' := [.int 2, .int (nI i)]) (w' := (W_I I (sv4 (nI hh) ss p1 p2) S (dv v) (gv tc wd cc kc) G)) rfl ?_
  refine rr_icmp_ge hC (off := 32) (tgt := 38) (by decide +kernel) (fun h6 => by rw [rr_ln_le (a := 2) (by omega) (by omega)] at h6; omega) (fun h6 => ?_)
  rw [rr_ln_le (a := 2) (by omega) (by omega)] at h6
  refine rr_go hC bk_X2_take_9_18 (l' := [(0, .ref 0), (1, .int (nI i)), (2, .ref 4), (3, .ref 8)]) (st' := [.int ((nI i) * 22), .ref 1, .ref 4]) (w' := (W_I I (sv4 (nI hh) ss p1 p2) S (dv v) (gv tc wd cc kc) G)) rfl ?_
  rw [show ((nI i) * 22 : Int32) = nI (i * 22) from pk_mul i 22]
  refine rr_callV hC (by decide +kernel) kl_2_24 fX6_save (c6_save44 (nI hh) ss p1 p2 S 14 (fun _ => I 0) (i * 22) (by omega)) rfl rfl [4, 5, 6, 7, 1] rfl rfl (Eq.refl 5) rfl rfl rfl (rest := []) rfl rfl ⟨Nat.zero_le _, Nat.zero_le _⟩ (w2 := (W_I (va_up I 0 (p_sav (I 0) (i * 22) (nI hh) ss p1 p2 S)) (sv4 (nI hh) ss p1 p2) S (dv v) (gv tc wd cc kc) G)) rfl ?_
  show rr_J Z 4 0 0 _ 21 [(0, .ref 0), (1, .int (nI i)), (2, .ref 4), (3, .ref 8)] [] (W_I (va_up I 0 (p_sav (I 0) (i * 22) (nI hh) ss p1 p2 S)) (sv4 (nI hh) ss p1 p2) S (dv v) (gv tc wd cc kc) G)
  refine rr_go hC bk_X2_take_21_30 (l' := [(0, .ref 0), (1, .int (nI i)), (2, .ref 4), (3, .ref 8)]) (st' := [.int v, .int (nI i), .ref 2]) (w' := (W_I (va_up I 0 (p_sav (I 0) (i * 22) (nI hh) ss p1 p2 S)) (sv4 (nI hh) ss p1 p2) S (dv v) (gv tc wd cc kc) G)) rfl ?_
  refine rr_iast hC i (by decide +kernel) rfl rfl (by omega) rfl (w' := (W_I (va_up (va_up I 0 (p_sav (I 0) (i * 22) (nI hh) ss p1 p2 S)) 1 (upd (I 1) i v)) (sv4 (nI hh) ss p1 p2) S (dv v) (gv tc wd cc kc) G)) rfl ?_
  show rr_J Z 4 0 0 _ 31 [(0, .ref 0), (1, .int (nI i)), (2, .ref 4), (3, .ref 8)] [] (W_I (va_up (va_up I 0 (p_sav (I 0) (i * 22) (nI hh) ss p1 p2 S)) 1 (upd (I 1) i v)) (sv4 (nI hh) ss p1 p2) S (dv v) (gv tc wd cc kc) G)
  refine rr_go hC bk_X2_take_31_37 (l' := [(0, .ref 0), (1, .int (nI i)), (2, .ref 4), (3, .ref 8)]) (st' := [.int 1, .int (nI i), .ref 3]) (w' := (W_I (va_up (va_up I 0 (p_sav (I 0) (i * 22) (nI hh) ss p1 p2 S)) 1 (upd (I 1) i v)) (sv4 (nI hh) ss p1 p2) S (dv v) (gv tc wd cc kc) G)) rfl ?_
  refine rr_zast hC i (by decide +kernel) rfl rfl (by omega) rfl (Or.inr rfl) (w' := (W_I (va_up (va_up (va_up I 0 (p_sav (I 0) (i * 22) (nI hh) ss p1 p2 S)) 1 (upd (I 1) i v)) 2 (upd (I 2) i 1)) (sv4 (nI hh) ss p1 p2) S (dv v) (gv tc wd cc kc) G)) rfl ?_
  show rr_J Z 4 0 0 _ 38 [(0, .ref 0), (1, .int (nI i)), (2, .ref 4), (3, .ref 8)] [] (W_I (va_up (va_up (va_up I 0 (p_sav (I 0) (i * 22) (nI hh) ss p1 p2 S)) 1 (upd (I 1) i v)) 2 (upd (I 2) i 1)) (sv4 (nI hh) ss p1 p2) S (dv v) (gv tc wd cc kc) G)
  exact rr_retv hC (by decide +kernel) (by rfl) ⟨Nat.zero_le _, Nat.zero_le _⟩
theorem bk_X2_restore_0_2 : rr_chk mX2_restore [(.aload_n 0, 0, 0, 0), (.iload_n 1, 0, 1, 0)] 0 2 = true := by decide +kernel
theorem bk_X2_restore_8_17 : rr_chk mX2_restore [(.aload_n 2, 0, 2, 0), (.aload_n 0, 0, 0, 0), (.getfield 11, 0, 2, 0), (.iload_n 1, 0, 1, 0), (.bipush 22, 22, 0, 0), (.imul, 0, 0, 0)] 8 17 = true := by decide +kernel
theorem bk_X2_restore_20_26 : rr_chk mX2_restore [(.aload_n 3, 0, 3, 0), (.aload_n 0, 0, 0, 0), (.getfield 17, 0, 2, 1), (.iload_n 1, 0, 1, 0)] 20 26 = true := by decide +kernel
theorem bk_X2_restore_27_30 : rr_chk mX2_restore [(.putfield 28, 0, 1, 0)] 27 30 = true := by decide +kernel
set_option maxRecDepth 100000 in
set_option maxHeartbeats 4000000 in
theorem c2_restore (I : Nat → Nat → Int32) (hh : Nat) (ss p1 p2 : Int32) (S : Nat → Nat → Int32) (v : Int32) (tc wd cc kc : Nat) (G : Nat → Nat → Int32) (i : Nat) (hi : i < 2) (hk : ¬ I 2 i = 0) : rr_C mX2_restore 2 [.ref 0, .int (nI i), .ref 4, .ref 8] (W_I I (sv4 (nI hh) ss p1 p2) S (dv v) (gv tc wd cc kc) G) 0 0 none (W_I I (sv4 (I 0 (i * 22)) (I 0 (i * 22 + 1)) (I 0 (i * 22 + 2)) (I 0 (i * 22 + 3))) (p_lod S (I 0) (i * 22)) (dv (I 1 i)) (gv tc wd cc kc) G) := by
  refine rr_C.of (n := 3) fX2_restore.1 rfl rfl (fun Z hC => ?_)
  show rr_J Z 4 0 0 (rr_MQ Z 0 0 none (W_I I (sv4 (I 0 (i * 22)) (I 0 (i * 22 + 1)) (I 0 (i * 22 + 2)) (I 0 (i * 22 + 3))) (p_lod S (I 0) (i * 22)) (dv (I 1 i)) (gv tc wd cc kc) G)) 0 [(0, .ref 0), (1, .int (nI i)), (2, .ref 4), (3, .ref 8)] [] (W_I I (sv4 (nI hh) ss p1 p2) S (dv v) (gv tc wd cc kc) G)
  refine rr_go hC bk_X2_restore_0_2 (l' := [(0, .ref 0), (1, .int (nI i)), (2, .ref 4), (3, .ref 8)]) (st' := [.int (nI i), .ref 0]) (w' := (W_I I (sv4 (nI hh) ss p1 p2) S (dv v) (gv tc wd cc kc) G)) rfl ?_
  refine rr_callV hC (by decide +kernel) kl_2_34 fX2_has (c2_has I i (by omega)) rfl rfl [0, 1, 2, 3] rfl rfl (Eq.refl 4) rfl rfl rfl (rest := []) rfl rfl ⟨Nat.zero_le _, Nat.zero_le _⟩ (w2 := (W_I I (sv4 (nI hh) ss p1 p2) S (dv v) (gv tc wd cc kc) G)) rfl ?_
  show rr_J Z 4 0 0 _ 5 [(0, .ref 0), (1, .int (nI i)), (2, .ref 4), (3, .ref 8)] [.int (rr_b (!decide (I 2 i = 0)))] (W_I I (sv4 (nI hh) ss p1 p2) S (dv v) (gv tc wd cc kc) G)
  refine rr_eqb hC (off := 25) (tgt := 30) (by decide +kernel) (fun h5 => by replace h5 := rr_ndec_f h5; exact absurd h5 hk) (fun h5 => ?_)
  replace h5 := rr_ndec_t h5
  refine rr_go hC bk_X2_restore_8_17 (l' := [(0, .ref 0), (1, .int (nI i)), (2, .ref 4), (3, .ref 8)]) (st' := [.int ((nI i) * 22), .ref 1, .ref 4]) (w' := (W_I I (sv4 (nI hh) ss p1 p2) S (dv v) (gv tc wd cc kc) G)) rfl ?_
  rw [show ((nI i) * 22 : Int32) = nI (i * 22) from pk_mul i 22]
  refine rr_callV hC (by decide +kernel) kl_2_38 fX6_load (c6_load44 (nI hh) ss p1 p2 S 14 (fun _ => I 0) (i * 22) (by omega)) rfl rfl [4, 5, 6, 7, 1] rfl rfl (Eq.refl 5) rfl rfl rfl (rest := []) rfl rfl ⟨Nat.zero_le _, Nat.zero_le _⟩ (w2 := (W_I I (sv4 (I 0 (i * 22)) (I 0 ((i * 22) + 1)) (I 0 ((i * 22) + 2)) (I 0 ((i * 22) + 3))) (p_lod S (I 0) (i * 22)) (dv v) (gv tc wd cc kc) G)) rfl ?_
  show rr_J Z 4 0 0 _ 20 [(0, .ref 0), (1, .int (nI i)), (2, .ref 4), (3, .ref 8)] [] (W_I I (sv4 (I 0 (i * 22)) (I 0 ((i * 22) + 1)) (I 0 ((i * 22) + 2)) (I 0 ((i * 22) + 3))) (p_lod S (I 0) (i * 22)) (dv v) (gv tc wd cc kc) G)
  refine rr_go hC bk_X2_restore_20_26 (l' := [(0, .ref 0), (1, .int (nI i)), (2, .ref 4), (3, .ref 8)]) (st' := [.int (nI i), .ref 2, .ref 8]) (w' := (W_I I (sv4 (I 0 (i * 22)) (I 0 ((i * 22) + 1)) (I 0 ((i * 22) + 2)) (I 0 ((i * 22) + 3))) (p_lod S (I 0) (i * 22)) (dv v) (gv tc wd cc kc) G)) rfl ?_
  refine rr_iald hC i (by decide +kernel) rfl rfl (by omega) rfl ?_
  show rr_J Z 4 0 0 _ 27 [(0, .ref 0), (1, .int (nI i)), (2, .ref 4), (3, .ref 8)] [.int (I 1 i), .ref 8] (W_I I (sv4 (I 0 (i * 22)) (I 0 ((i * 22) + 1)) (I 0 ((i * 22) + 2)) (I 0 ((i * 22) + 3))) (p_lod S (I 0) (i * 22)) (dv v) (gv tc wd cc kc) G)
  refine rr_go hC bk_X2_restore_27_30 (l' := [(0, .ref 0), (1, .int (nI i)), (2, .ref 4), (3, .ref 8)]) (st' := []) (w' := (W_I I (sv4 (I 0 (i * 22)) (I 0 ((i * 22) + 1)) (I 0 ((i * 22) + 2)) (I 0 ((i * 22) + 3))) (p_lod S (I 0) (i * 22)) (upd (dv v) 0 (I 1 i)) (gv tc wd cc kc) G)) rfl ?_
  exact rr_retv hC (by decide +kernel) (by rfl) ⟨Nat.zero_le _, Nat.zero_le _⟩
def p_zer (f : Nat → Int32) : Nat → Nat → Int32
  | 0 => f
  | k + 1 => upd (p_zer f k) k 0
theorem bk_X2_forget_0_2 : rr_chk mX2_forget [(.iconst 0, 0, 0, 0), (.istore_n 1, 0, 1, 0)] 0 2 = true := by decide +kernel
theorem bk_X2_forget_2_4 : rr_chk mX2_forget [(.iload_n 1, 0, 1, 0), (.iconst 2, 2, 0, 0)] 2 4 = true := by decide +kernel
theorem bk_X2_forget_7_13 : rr_chk mX2_forget [(.aload_n 0, 0, 0, 0), (.getfield 20, 0, 2, 2), (.iload_n 1, 0, 1, 0), (.iconst 0, 0, 0, 0)] 7 13 = true := by decide +kernel
theorem bk_X2_forget_14_2 : rr_chk mX2_forget [(.iinc 1 1, 1, 1, 0), (.goto (-15), 0, 0, 0)] 14 2 = true := by decide +kernel
set_option maxRecDepth 100000 in
set_option maxHeartbeats 4000000 in
theorem c2_forget (I : Nat → Nat → Int32) : rr_C mX2_forget 0 [.ref 0] (W_I0 I) 0 0 none (W_I0 (va_up I 2 (p_zer (I 2) 2))) := by
  refine rr_C.of (n := 0) fX2_forget.1 rfl rfl (fun Z hC => ?_)
  show rr_J Z 2 0 0 (rr_MQ Z 0 0 none (W_I0 (va_up I 2 (p_zer (I 2) 2)))) 0 [(0, .ref 0)] [] (W_I0 I)
  refine rr_go hC bk_X2_forget_0_2 (l' := [(0, .ref 0), (1, .int 0)]) (st' := []) (w' := (W_I0 I)) rfl ?_
  have lp2 : ∀ (j k : Nat), k + j = 2 → 0 ≤ k → rr_J Z 2 0 0 (rr_MQ Z 0 0 none (W_I0 (va_up I 2 (p_zer (I 2) 2)))) 2 [(0, .ref 0), (1, .int (nI k))] [] (W_I0 (va_up I 2 (p_zer (I 2) k))) := by
    intro j
    induction j with
    | zero =>
      intro k hk2 hlo2
      refine rr_go hC bk_X2_forget_2_4 (l' := [(0, .ref 0), (1, .int (nI k))]) (st' := [.int 2, .int (nI k)]) (w' := (W_I0 (va_up I 2 (p_zer (I 2) k)))) rfl ?_
      refine rr_icmp_ge hC (off := 16) (tgt := 20) (by decide +kernel) (fun h4 => ?_) (fun h4 => by rw [rr_ln_le (a := 2) (by omega) (by omega)] at h4; omega)
      rw [rr_ln_le (a := 2) (by omega) (by omega)] at h4
      exact rr_retv hC (by decide +kernel) (by rw [show k = 2 by omega]) ⟨Nat.zero_le _, Nat.zero_le _⟩
    | succ j ih =>
      intro k hk2 hlo2
      refine rr_go hC bk_X2_forget_2_4 (l' := [(0, .ref 0), (1, .int (nI k))]) (st' := [.int 2, .int (nI k)]) (w' := (W_I0 (va_up I 2 (p_zer (I 2) k)))) rfl ?_
      refine rr_icmp_ge hC (off := 16) (tgt := 20) (by decide +kernel) (fun h4 => by rw [rr_ln_le (a := 2) (by omega) (by omega)] at h4; omega) (fun h4 => ?_)
      rw [rr_ln_le (a := 2) (by omega) (by omega)] at h4
      refine rr_go hC bk_X2_forget_7_13 (l' := [(0, .ref 0), (1, .int (nI k))]) (st' := [.int 0, .int (nI k), .ref 3]) (w' := (W_I0 (va_up I 2 (p_zer (I 2) k)))) rfl ?_
      refine rr_zast hC k (by decide +kernel) rfl rfl (by omega) rfl (Or.inl rfl) (w' := (W_I0 (va_up I 2 (upd (p_zer (I 2) k) k 0)))) rfl ?_
      show rr_J Z 2 0 0 _ 14 [(0, .ref 0), (1, .int (nI k))] [] (W_I0 (va_up I 2 (upd (p_zer (I 2) k) k 0)))
      refine rr_go hC bk_X2_forget_14_2 (l' := [(0, .ref 0), (1, .int ((nI k) + 1))]) (st' := []) (w' := (W_I0 (va_up I 2 (upd (p_zer (I 2) k) k 0)))) rfl ?_
      rw [show ((nI k) + 1 : Int32) = nI (k + 1) from nI_add k 1]
      exact rr_cast (l' := [(0, .ref 0), (1, .int (nI (k + 1)))]) (by rfl) rfl (w' := (W_I0 (va_up I 2 (p_zer (I 2) (k + 1))))) (by rfl) (ih (k + 1) (by omega) (by omega))
  exact rr_cast (l' := [(0, .ref 0), (1, .int (nI 0))]) (by first | rfl | (rfl)) rfl (w' := (W_I0 (va_up I 2 (p_zer (I 2) 0)))) (by rfl) (lp2 (2 - 0) 0 (by omega) (Nat.le_refl _))
theorem bk_X0_add_0_6 : rr_chk mX0_add [(.aload_n 0, 0, 0, 0), (.getfield 18, 0, 0, 2), (.bipush 20, 20, 0, 0)] 0 6 = true := by decide +kernel
theorem bk_X0_add_9_10 : rr_chk mX0_add [(.iconst 0, 0, 0, 0)] 9 10 = true := by decide +kernel
set_option maxRecDepth 100000 in
set_option maxHeartbeats 4000000 in
theorem c0_addFull (bn : Nat) (B : Nat → Nat → Int32) (x y : Int32) (hb : 20 ≤ bn) (hb2 : bn ≤ 20) : rr_C mX0_add 0 [.ref 0, .int x, .int y] (W_B0 (dv (nI bn)) B) 0 0 (some (rr_b false)) (W_B0 (dv (nI bn)) B) := by
  refine rr_C.of (n := 2) fX0_add.1 rfl rfl (fun Z hC => ?_)
  show rr_J Z 3 0 0 (rr_MQ Z 0 0 (some (rr_b false)) (W_B0 (dv (nI bn)) B)) 0 [(0, .ref 0), (1, .int x), (2, .int y)] [] (W_B0 (dv (nI bn)) B)
  refine rr_go hC bk_X0_add_0_6 (l' := [(0, .ref 0), (1, .int x), (2, .int y)]) (st' := [.int 20, .int (nI bn)]) (w' := (W_B0 (dv (nI bn)) B)) rfl ?_
  refine rr_icmp_lt hC (off := 5) (tgt := 11) (by decide +kernel) (fun h6 => by rw [rr_nl_lt (b := 20) (by omega) (by omega)] at h6; omega) (fun h6 => ?_)
  rw [rr_nl_lt (b := 20) (by omega) (by omega)] at h6
  refine rr_go hC bk_X0_add_9_10 (l' := [(0, .ref 0), (1, .int x), (2, .int y)]) (st' := [.int 0]) (w' := (W_B0 (dv (nI bn)) B)) rfl ?_
  exact rr_retz hC (by decide +kernel) (Or.inl rfl) (by rfl) (by rfl) ⟨Nat.zero_le _, Nat.zero_le _⟩
theorem bk_X0_add_11_20 : rr_chk mX0_add [(.aload_n 0, 0, 0, 0), (.getfield 9, 0, 0, 0), (.aload_n 0, 0, 0, 0), (.getfield 18, 0, 0, 2), (.iload_n 1, 0, 1, 0)] 11 20 = true := by decide +kernel
theorem bk_X0_add_21_30 : rr_chk mX0_add [(.aload_n 0, 0, 0, 0), (.getfield 15, 0, 0, 1), (.aload_n 0, 0, 0, 0), (.getfield 18, 0, 0, 2), (.iload_n 2, 0, 2, 0)] 21 30 = true := by decide +kernel
theorem bk_X0_add_31_42 : rr_chk mX0_add [(.aload_n 0, 0, 0, 0), (.dup, 0, 0, 0), (.getfield 18, 0, 0, 2), (.iconst 1, 1, 0, 0), (.iadd, 0, 0, 0), (.putfield 18, 0, 0, 2), (.iconst 1, 1, 0, 0)] 31 42 = true := by decide +kernel
set_option maxRecDepth 100000 in
set_option maxHeartbeats 4000000 in
theorem c0_add (bn : Nat) (B : Nat → Nat → Int32) (x y : Int32) (hb : bn < 20) : rr_C mX0_add 0 [.ref 0, .int x, .int y] (W_B0 (dv (nI bn)) B) 0 0 (some (rr_b true)) (W_B0 (dv (nI (bn + 1))) (va_up (va_up B 0 (upd (B 0) bn x)) 1 (upd (B 1) bn y))) := by
  refine rr_C.of (n := 2) fX0_add.1 rfl rfl (fun Z hC => ?_)
  show rr_J Z 3 0 0 (rr_MQ Z 0 0 (some (rr_b true)) (W_B0 (dv (nI (bn + 1))) (va_up (va_up B 0 (upd (B 0) bn x)) 1 (upd (B 1) bn y)))) 0 [(0, .ref 0), (1, .int x), (2, .int y)] [] (W_B0 (dv (nI bn)) B)
  refine rr_go hC bk_X0_add_0_6 (l' := [(0, .ref 0), (1, .int x), (2, .int y)]) (st' := [.int 20, .int (nI bn)]) (w' := (W_B0 (dv (nI bn)) B)) rfl ?_
  refine rr_icmp_lt hC (off := 5) (tgt := 11) (by decide +kernel) (fun h6 => ?_) (fun h6 => by rw [rr_nl_lt (b := 20) (by omega) (by omega)] at h6; omega)
  rw [rr_nl_lt (b := 20) (by omega) (by omega)] at h6
  refine rr_go hC bk_X0_add_11_20 (l' := [(0, .ref 0), (1, .int x), (2, .int y)]) (st' := [.int x, .int (nI bn), .ref 1]) (w' := (W_B0 (dv (nI bn)) B)) rfl ?_
  refine rr_iast hC bn (by decide +kernel) rfl rfl (by omega) rfl (w' := (W_B0 (dv (nI bn)) (va_up B 0 (upd (B 0) bn x)))) rfl ?_
  show rr_J Z 3 0 0 _ 21 [(0, .ref 0), (1, .int x), (2, .int y)] [] (W_B0 (dv (nI bn)) (va_up B 0 (upd (B 0) bn x)))
  refine rr_go hC bk_X0_add_21_30 (l' := [(0, .ref 0), (1, .int x), (2, .int y)]) (st' := [.int y, .int (nI bn), .ref 2]) (w' := (W_B0 (dv (nI bn)) (va_up B 0 (upd (B 0) bn x)))) rfl ?_
  refine rr_iast hC bn (by decide +kernel) rfl rfl (by omega) rfl (w' := (W_B0 (dv (nI bn)) (va_up (va_up B 0 (upd (B 0) bn x)) 1 (upd (B 1) bn y)))) rfl ?_
  show rr_J Z 3 0 0 _ 31 [(0, .ref 0), (1, .int x), (2, .int y)] [] (W_B0 (dv (nI bn)) (va_up (va_up B 0 (upd (B 0) bn x)) 1 (upd (B 1) bn y)))
  refine rr_go hC bk_X0_add_31_42 (l' := [(0, .ref 0), (1, .int x), (2, .int y)]) (st' := [.int 1]) (w' := (W_B0 (upd (dv (nI bn)) 0 ((nI bn) + 1)) (va_up (va_up B 0 (upd (B 0) bn x)) 1 (upd (B 1) bn y)))) rfl ?_
  rw [show ((nI bn) + 1 : Int32) = nI (bn + 1) from nI_add bn 1]
  exact rr_retz hC (by decide +kernel) (Or.inr rfl) (by rfl) (by rfl) ⟨Nat.zero_le _, Nat.zero_le _⟩
theorem bk_X0_forget_0_5 : rr_chk mX0_forget [(.aload_n 0, 0, 0, 0), (.iconst 0, 0, 0, 0), (.putfield 18, 0, 0, 2)] 0 5 = true := by decide +kernel
set_option maxRecDepth 100000 in
set_option maxHeartbeats 4000000 in
theorem c0_forget (bn : Nat) (B : Nat → Nat → Int32) : rr_C mX0_forget 0 [.ref 0] (W_B0 (dv (nI bn)) B) 0 0 none (W_B0 (dv (nI 0)) B) := by
  refine rr_C.of (n := 0) fX0_forget.1 rfl rfl (fun Z hC => ?_)
  show rr_J Z 1 0 0 (rr_MQ Z 0 0 none (W_B0 (dv (nI 0)) B)) 0 [(0, .ref 0)] [] (W_B0 (dv (nI bn)) B)
  refine rr_go hC bk_X0_forget_0_5 (l' := [(0, .ref 0)]) (st' := []) (w' := (W_B0 (upd (dv (nI bn)) 0 0) B)) rfl ?_
  exact rr_retv hC (by decide +kernel) (by rfl) ⟨Nat.zero_le _, Nat.zero_le _⟩
/-- the first of the entries from i on (n of them) whose cell is another one now -/
def p_fw (B : Nat → Nat → Int32) (co : Nat → Int32) (i : Nat) : Nat → Int32
  | 0 => -1
  | n + 1 => if co (B 0 i).toNatClampNeg = B 1 i then p_fw B co (i + 1) n else nI i
theorem bk_X0_firstWrong_0_2 : rr_chk mX0_firstWrong [(.iconst 0, 0, 0, 0), (.istore_n 2, 0, 2, 0)] 0 2 = true := by decide +kernel
theorem bk_X0_firstWrong_2_7 : rr_chk mX0_firstWrong [(.iload_n 2, 0, 2, 0), (.aload_n 0, 0, 0, 0), (.getfield 18, 0, 0, 2)] 2 7 = true := by decide +kernel
theorem bk_X0_firstWrong_50_51 : rr_chk mX0_firstWrong [(.iconst (-1), (-1), 0, 0)] 50 51 = true := by decide +kernel
theorem bk_X0_firstWrong_10_15 : rr_chk mX0_firstWrong [(.aload_n 0, 0, 0, 0), (.getfield 9, 0, 0, 0), (.iload_n 2, 0, 2, 0)] 10 15 = true := by decide +kernel
theorem bk_X0_firstWrong_16_18 : rr_chk mX0_firstWrong [(.istore_n 3, 0, 3, 0), (.iload_n 3, 0, 3, 0)] 16 18 = true := by decide +kernel
theorem bk_X0_firstWrong_21_24 : rr_chk mX0_firstWrong [(.iload_n 3, 0, 3, 0), (.bipush 6, 6, 0, 0)] 21 24 = true := by decide +kernel
theorem bk_X0_firstWrong_27_32 : rr_chk mX0_firstWrong [(.aload_n 1, 0, 1, 0), (.getfield 22, 0, 6, 1), (.iload_n 3, 0, 3, 0)] 27 32 = true := by decide +kernel
theorem bk_X0_firstWrong_33_38 : rr_chk mX0_firstWrong [(.aload_n 0, 0, 0, 0), (.getfield 15, 0, 0, 1), (.iload_n 2, 0, 2, 0)] 33 38 = true := by decide +kernel
theorem bk_X0_firstWrong_44_2 : rr_chk mX0_firstWrong [(.iinc 2 1, 1, 2, 0), (.goto (-45), 0, 0, 0)] 44 2 = true := by decide +kernel
theorem bk_X0_firstWrong_42_43 : rr_chk mX0_firstWrong [(.iload_n 2, 0, 2, 0)] 42 43 = true := by decide +kernel
set_option maxRecDepth 100000 in
set_option maxHeartbeats 4000000 in
theorem c0_firstWrong (bn : Nat) (B : Nat → Nat → Int32) (hh : Nat) (ss p1 p2 : Int32) (S : Nat → Nat → Int32) (tc wd cc kc : Nat) (G : Nat → Nat → Int32) (hb : bn ≤ 20) (hB : ∀ i, i < bn → ∃ k : Nat, k < 6 ∧ B 0 i = nI k) : rr_C mX0_firstWrong 0 [.ref 0, .ref 3] (W_B (dv (nI bn)) B (sv4 (nI hh) ss p1 p2) S (gv tc wd cc kc) G) 0 0 (some (p_fw B (S 0) 0 bn)) (W_B (dv (nI bn)) B (sv4 (nI hh) ss p1 p2) S (gv tc wd cc kc) G) := by
  refine rr_C.of (n := 1) fX0_firstWrong.1 rfl rfl (fun Z hC => ?_)
  show rr_J Z 4 0 0 (rr_MQ Z 0 0 (some (p_fw B (S 0) 0 bn)) (W_B (dv (nI bn)) B (sv4 (nI hh) ss p1 p2) S (gv tc wd cc kc) G)) 0 [(0, .ref 0), (1, .ref 3)] [] (W_B (dv (nI bn)) B (sv4 (nI hh) ss p1 p2) S (gv tc wd cc kc) G)
  refine rr_go hC bk_X0_firstWrong_0_2 (l' := [(0, .ref 0), (1, .ref 3), (2, .int 0)]) (st' := []) (w' := (W_B (dv (nI bn)) B (sv4 (nI hh) ss p1 p2) S (gv tc wd cc kc) G)) rfl ?_
  have lp2 : ∀ (j i : Nat), i + j = bn → 0 ≤ i → p_fw B (S 0) 0 bn = p_fw B (S 0) i (bn - i) → rr_J Z 4 0 0 (rr_MQ Z 0 0 (some (p_fw B (S 0) 0 bn)) (W_B (dv (nI bn)) B (sv4 (nI hh) ss p1 p2) S (gv tc wd cc kc) G)) 2 [(0, .ref 0), (1, .ref 3), (2, .int (nI i))] [] (W_B (dv (nI bn)) B (sv4 (nI hh) ss p1 p2) S (gv tc wd cc kc) G) := by
    intro j
    induction j with
    | zero =>
      intro i hk2 hlo2 hq
      refine rr_go hC bk_X0_firstWrong_2_7 (l' := [(0, .ref 0), (1, .ref 3), (2, .int (nI i))]) (st' := [.int (nI bn), .int (nI i)]) (w' := (W_B (dv (nI bn)) B (sv4 (nI hh) ss p1 p2) S (gv tc wd cc kc) G)) rfl ?_
      refine rr_icmp_ge hC (off := 43) (tgt := 50) (by decide +kernel) (fun h7 => ?_) (fun h7 => by rw [rr_nn_le (by omega) (by omega)] at h7; omega)
      rw [rr_nn_le (by omega) (by omega)] at h7
      refine rr_go hC bk_X0_firstWrong_50_51 (l' := [(0, .ref 0), (1, .ref 3), (2, .int (nI i))]) (st' := [.int (-1)]) (w' := (W_B (dv (nI bn)) B (sv4 (nI hh) ss p1 p2) S (gv tc wd cc kc) G)) rfl ?_
      exact rr_reti hC (by decide +kernel) (by rw [hq, show bn - i = 0 by omega]; rfl) (by rfl) ⟨Nat.zero_le _, Nat.zero_le _⟩
    | succ j ih =>
      intro i hk2 hlo2 hq
      refine rr_go hC bk_X0_firstWrong_2_7 (l' := [(0, .ref 0), (1, .ref 3), (2, .int (nI i))]) (st' := [.int (nI bn), .int (nI i)]) (w' := (W_B (dv (nI bn)) B (sv4 (nI hh) ss p1 p2) S (gv tc wd cc kc) G)) rfl ?_
      refine rr_icmp_ge hC (off := 43) (tgt := 50) (by decide +kernel) (fun h7 => by rw [rr_nn_le (by omega) (by omega)] at h7; omega) (fun h7 => ?_)
      rw [rr_nn_le (by omega) (by omega)] at h7
      refine rr_go hC bk_X0_firstWrong_10_15 (l' := [(0, .ref 0), (1, .ref 3), (2, .int (nI i))]) (st' := [.int (nI i), .ref 1]) (w' := (W_B (dv (nI bn)) B (sv4 (nI hh) ss p1 p2) S (gv tc wd cc kc) G)) rfl ?_
      refine rr_iald hC i (by decide +kernel) rfl rfl (by omega) rfl ?_
      show rr_J Z 4 0 0 _ 16 [(0, .ref 0), (1, .ref 3), (2, .int (nI i))] [.int (B 0 i)] (W_B (dv (nI bn)) B (sv4 (nI hh) ss p1 p2) S (gv tc wd cc kc) G)
      obtain ⟨kb, hkb⟩ := hB i (by omega)
      have hcl : (nI kb).toNatClampNeg = kb := nI_clamp (by omega)
      rw [hkb.2]
      refine rr_go hC bk_X0_firstWrong_16_18 (l' := [(0, .ref 0), (1, .ref 3), (2, .int (nI i)), (3, .int (nI kb))]) (st' := [.int (nI kb)]) (w' := (W_B (dv (nI bn)) B (sv4 (nI hh) ss p1 p2) S (gv tc wd cc kc) G)) rfl ?_
      refine rr_if_lt hC (off := 24) (tgt := 42) (by decide +kernel) (fun h18 => by rw [rr_nl_lt (b := 0) (by omega) (by omega)] at h18; omega) (fun h18 => ?_)
      rw [rr_nl_lt (b := 0) (by omega) (by omega)] at h18
      refine rr_go hC bk_X0_firstWrong_21_24 (l' := [(0, .ref 0), (1, .ref 3), (2, .int (nI i)), (3, .int (nI kb))]) (st' := [.int 6, .int (nI kb)]) (w' := (W_B (dv (nI bn)) B (sv4 (nI hh) ss p1 p2) S (gv tc wd cc kc) G)) rfl ?_
      refine rr_icmp_ge hC (off := 18) (tgt := 42) (by decide +kernel) (fun h24 => by rw [rr_ln_le (a := 6) (by omega) (by omega)] at h24; omega) (fun h24 => ?_)
      rw [rr_ln_le (a := 6) (by omega) (by omega)] at h24
      refine rr_go hC bk_X0_firstWrong_27_32 (l' := [(0, .ref 0), (1, .ref 3), (2, .int (nI i)), (3, .int (nI kb))]) (st' := [.int (nI kb), .ref 4]) (w' := (W_B (dv (nI bn)) B (sv4 (nI hh) ss p1 p2) S (gv tc wd cc kc) G)) rfl ?_
      refine rr_iald hC kb (by decide +kernel) rfl rfl (by omega) rfl ?_
      show rr_J Z 4 0 0 _ 33 [(0, .ref 0), (1, .ref 3), (2, .int (nI i)), (3, .int (nI kb))] [.int (S 0 kb)] (W_B (dv (nI bn)) B (sv4 (nI hh) ss p1 p2) S (gv tc wd cc kc) G)
      refine rr_go hC bk_X0_firstWrong_33_38 (l' := [(0, .ref 0), (1, .ref 3), (2, .int (nI i)), (3, .int (nI kb))]) (st' := [.int (nI i), .ref 2, .int (S 0 kb)]) (w' := (W_B (dv (nI bn)) B (sv4 (nI hh) ss p1 p2) S (gv tc wd cc kc) G)) rfl ?_
      refine rr_iald hC i (by decide +kernel) rfl rfl (by omega) rfl ?_
      show rr_J Z 4 0 0 _ 39 [(0, .ref 0), (1, .ref 3), (2, .int (nI i)), (3, .int (nI kb))] [.int (B 1 i), .int (S 0 kb)] (W_B (dv (nI bn)) B (sv4 (nI hh) ss p1 p2) S (gv tc wd cc kc) G)
      refine rr_icmp_eq hC (off := 5) (tgt := 44) (by decide +kernel) (fun h39 => ?_) (fun h39 => ?_)
      · refine rr_go hC bk_X0_firstWrong_44_2 (l' := [(0, .ref 0), (1, .ref 3), (2, .int ((nI i) + 1)), (3, .int (nI kb))]) (st' := []) (w' := (W_B (dv (nI bn)) B (sv4 (nI hh) ss p1 p2) S (gv tc wd cc kc) G)) rfl ?_
        rw [show ((nI i) + 1 : Int32) = nI (i + 1) from nI_add i 1]
        refine rr_dr 3 (l' := [(0, .ref 0), (1, .ref 3), (2, .int (nI (i + 1)))]) rfl ?_
        exact rr_cast (l' := [(0, .ref 0), (1, .ref 3), (2, .int (nI (i + 1)))]) (by rfl) rfl (w' := (W_B (dv (nI bn)) B (sv4 (nI hh) ss p1 p2) S (gv tc wd cc kc) G)) (by rfl) (ih (i + 1) (by omega) (by omega) (by rw [hq, show bn - i = (bn - (i + 1)) + 1 by omega, p_fw, if_pos (by rw [hkb.2, hcl]; exact h39)]))
      · refine rr_go hC bk_X0_firstWrong_42_43 (l' := [(0, .ref 0), (1, .ref 3), (2, .int (nI i)), (3, .int (nI kb))]) (st' := [.int (nI i)]) (w' := (W_B (dv (nI bn)) B (sv4 (nI hh) ss p1 p2) S (gv tc wd cc kc) G)) rfl ?_
        exact rr_reti hC (by decide +kernel) (by rw [hq, show bn - i = (bn - (i + 1)) + 1 by omega, p_fw, if_neg (by rw [hkb.2, hcl]; exact h39)]) (by rfl) ⟨Nat.zero_le _, Nat.zero_le _⟩
  exact rr_cast (l' := [(0, .ref 0), (1, .ref 3), (2, .int (nI 0))]) (by first | rfl | (simp [*])) rfl (w' := (W_B (dv (nI bn)) B (sv4 (nI hh) ss p1 p2) S (gv tc wd cc kc) G)) (by rfl) (lp2 (bn - 0) 0 (by omega) (Nat.le_refl _) rfl)
