/-! rules: branches, arrays at places that are reckoned, answers, contracts, calls -/
def rr_b (b : Bool) : Int32 := match b with
  | true => 1
  | false => 0
theorem rr_b01 (b : Bool) : rr_b b = 0 ∨ rr_b b = 1 := by cases b <;> first | exact Or.inl rfl | exact Or.inr rfl
theorem rr_b_0 {b : Bool} : rr_b b = 0 ↔ b = false := by cases b <;> simp [rr_b]
theorem rr_b_1 {b : Bool} : rr_b b = 1 ↔ b = true := by cases b <;> simp [rr_b]
def rr_bk (cc : ByteArray) (pc : Nat) (i : Instr) (off : Int) (tgt : Nat) : Bool := decide (decode cc pc = .ok (i, 3)) && decide ((pc : Int) + off = (tgt : Int))
theorem rr_bk.d {cc : ByteArray} {pc : Nat} {i : Instr} {off : Int} {tgt : Nat} (h : rr_bk cc pc i off tgt = true) : decode cc pc = .ok (i, 3) ∧ (pc : Int) + off = (tgt : Int) := by
  unfold rr_bk at h
  rw [Bool.and_eq_true, decide_eq_true_eq, decide_eq_true_eq] at h
  exact h
def rr_dk (cc : ByteArray) (pc : Nat) (i : Instr) (n : Nat) : Bool := decide (decode cc pc = .ok (i, n))
section RR2
variable {M : rr_M} {d mc ms : Nat} {Z : rr_Z} {nL cells slots : Nat} {Q : State → Prop} {pc : Nat} {l l' : List (Nat × Value)} {st st' : List Value} {w w' : rr_A}
theorem rr_if_eq (hC : rr_X M d mc ms Z) {x : Int32} {off : Int} {tgt : Nat} (hk : rr_bk M.2.2.1 pc (.ifCond .eq off) off tgt = true) (kt : x = 0 → rr_J Z nL cells slots Q tgt l st w) (kf : ¬ x = 0 → rr_J Z nL cells slots Q (pc + 3) l st w) : rr_J Z nL cells slots Q pc l (.int x :: st) w := by
  obtain ⟨p, lc, e, R, s, m, args, below, meth, c, D, cI, cZ, A, r0, n0⟩ := Z
  obtain ⟨hx, hb, hml, hown, hts, hlocks, hret, hname, hK, hN, hA, hR⟩ := hC
  intro r H locs ls hr hP hD hS hl
  exact lv_if_eq hx hb (rr_bk.d hk).1 (rr_bk.d hk).2 (fun h => kt h r H locs ls hr hP hD hS hl) (fun h => kf h r H locs ls hr hP hD hS hl)
theorem rr_icmp_eq (hC : rr_X M d mc ms Z) {x y : Int32} {off : Int} {tgt : Nat} (hk : rr_bk M.2.2.1 pc (.if_icmp .eq off) off tgt = true) (kt : x = y → rr_J Z nL cells slots Q tgt l st w) (kf : ¬ x = y → rr_J Z nL cells slots Q (pc + 3) l st w) : rr_J Z nL cells slots Q pc l (.int y :: .int x :: st) w := by
  obtain ⟨p, lc, e, R, s, m, args, below, meth, c, D, cI, cZ, A, r0, n0⟩ := Z
  obtain ⟨hx, hb, hml, hown, hts, hlocks, hret, hname, hK, hN, hA, hR⟩ := hC
  intro r H locs ls hr hP hD hS hl
  exact lv_icmp_eq hx hb (rr_bk.d hk).1 (rr_bk.d hk).2 (fun h => kt h r H locs ls hr hP hD hS hl) (fun h => kf h r H locs ls hr hP hD hS hl)
theorem rr_if_ne (hC : rr_X M d mc ms Z) {x : Int32} {off : Int} {tgt : Nat} (hk : rr_bk M.2.2.1 pc (.ifCond .ne off) off tgt = true) (kt : ¬ x = 0 → rr_J Z nL cells slots Q tgt l st w) (kf : x = 0 → rr_J Z nL cells slots Q (pc + 3) l st w) : rr_J Z nL cells slots Q pc l (.int x :: st) w := by
  obtain ⟨p, lc, e, R, s, m, args, below, meth, c, D, cI, cZ, A, r0, n0⟩ := Z
  obtain ⟨hx, hb, hml, hown, hts, hlocks, hret, hname, hK, hN, hA, hR⟩ := hC
  intro r H locs ls hr hP hD hS hl
  exact lv_if_ne hx hb (rr_bk.d hk).1 (rr_bk.d hk).2 (fun h => kt h r H locs ls hr hP hD hS hl) (fun h => kf h r H locs ls hr hP hD hS hl)
theorem rr_icmp_ne (hC : rr_X M d mc ms Z) {x y : Int32} {off : Int} {tgt : Nat} (hk : rr_bk M.2.2.1 pc (.if_icmp .ne off) off tgt = true) (kt : ¬ x = y → rr_J Z nL cells slots Q tgt l st w) (kf : x = y → rr_J Z nL cells slots Q (pc + 3) l st w) : rr_J Z nL cells slots Q pc l (.int y :: .int x :: st) w := by
  obtain ⟨p, lc, e, R, s, m, args, below, meth, c, D, cI, cZ, A, r0, n0⟩ := Z
  obtain ⟨hx, hb, hml, hown, hts, hlocks, hret, hname, hK, hN, hA, hR⟩ := hC
  intro r H locs ls hr hP hD hS hl
  exact lv_icmp_ne hx hb (rr_bk.d hk).1 (rr_bk.d hk).2 (fun h => kt h r H locs ls hr hP hD hS hl) (fun h => kf h r H locs ls hr hP hD hS hl)
theorem rr_if_lt (hC : rr_X M d mc ms Z) {x : Int32} {off : Int} {tgt : Nat} (hk : rr_bk M.2.2.1 pc (.ifCond .lt off) off tgt = true) (kt : x < 0 → rr_J Z nL cells slots Q tgt l st w) (kf : ¬ x < 0 → rr_J Z nL cells slots Q (pc + 3) l st w) : rr_J Z nL cells slots Q pc l (.int x :: st) w := by
  obtain ⟨p, lc, e, R, s, m, args, below, meth, c, D, cI, cZ, A, r0, n0⟩ := Z
  obtain ⟨hx, hb, hml, hown, hts, hlocks, hret, hname, hK, hN, hA, hR⟩ := hC
  intro r H locs ls hr hP hD hS hl
  exact lv_if_lt hx hb (rr_bk.d hk).1 (rr_bk.d hk).2 (fun h => kt h r H locs ls hr hP hD hS hl) (fun h => kf h r H locs ls hr hP hD hS hl)
theorem rr_icmp_lt (hC : rr_X M d mc ms Z) {x y : Int32} {off : Int} {tgt : Nat} (hk : rr_bk M.2.2.1 pc (.if_icmp .lt off) off tgt = true) (kt : x < y → rr_J Z nL cells slots Q tgt l st w) (kf : ¬ x < y → rr_J Z nL cells slots Q (pc + 3) l st w) : rr_J Z nL cells slots Q pc l (.int y :: .int x :: st) w := by
  obtain ⟨p, lc, e, R, s, m, args, below, meth, c, D, cI, cZ, A, r0, n0⟩ := Z
  obtain ⟨hx, hb, hml, hown, hts, hlocks, hret, hname, hK, hN, hA, hR⟩ := hC
  intro r H locs ls hr hP hD hS hl
  exact lv_icmp_lt hx hb (rr_bk.d hk).1 (rr_bk.d hk).2 (fun h => kt h r H locs ls hr hP hD hS hl) (fun h => kf h r H locs ls hr hP hD hS hl)
theorem rr_if_ge (hC : rr_X M d mc ms Z) {x : Int32} {off : Int} {tgt : Nat} (hk : rr_bk M.2.2.1 pc (.ifCond .ge off) off tgt = true) (kt : 0 ≤ x → rr_J Z nL cells slots Q tgt l st w) (kf : ¬ 0 ≤ x → rr_J Z nL cells slots Q (pc + 3) l st w) : rr_J Z nL cells slots Q pc l (.int x :: st) w := by
  obtain ⟨p, lc, e, R, s, m, args, below, meth, c, D, cI, cZ, A, r0, n0⟩ := Z
  obtain ⟨hx, hb, hml, hown, hts, hlocks, hret, hname, hK, hN, hA, hR⟩ := hC
  intro r H locs ls hr hP hD hS hl
  exact lv_if_ge hx hb (rr_bk.d hk).1 (rr_bk.d hk).2 (fun h => kt h r H locs ls hr hP hD hS hl) (fun h => kf h r H locs ls hr hP hD hS hl)
theorem rr_icmp_ge (hC : rr_X M d mc ms Z) {x y : Int32} {off : Int} {tgt : Nat} (hk : rr_bk M.2.2.1 pc (.if_icmp .ge off) off tgt = true) (kt : y ≤ x → rr_J Z nL cells slots Q tgt l st w) (kf : ¬ y ≤ x → rr_J Z nL cells slots Q (pc + 3) l st w) : rr_J Z nL cells slots Q pc l (.int y :: .int x :: st) w := by
  obtain ⟨p, lc, e, R, s, m, args, below, meth, c, D, cI, cZ, A, r0, n0⟩ := Z
  obtain ⟨hx, hb, hml, hown, hts, hlocks, hret, hname, hK, hN, hA, hR⟩ := hC
  intro r H locs ls hr hP hD hS hl
  exact lv_icmp_ge hx hb (rr_bk.d hk).1 (rr_bk.d hk).2 (fun h => kt h r H locs ls hr hP hD hS hl) (fun h => kf h r H locs ls hr hP hD hS hl)
theorem rr_if_gt (hC : rr_X M d mc ms Z) {x : Int32} {off : Int} {tgt : Nat} (hk : rr_bk M.2.2.1 pc (.ifCond .gt off) off tgt = true) (kt : 0 < x → rr_J Z nL cells slots Q tgt l st w) (kf : ¬ 0 < x → rr_J Z nL cells slots Q (pc + 3) l st w) : rr_J Z nL cells slots Q pc l (.int x :: st) w := by
  obtain ⟨p, lc, e, R, s, m, args, below, meth, c, D, cI, cZ, A, r0, n0⟩ := Z
  obtain ⟨hx, hb, hml, hown, hts, hlocks, hret, hname, hK, hN, hA, hR⟩ := hC
  intro r H locs ls hr hP hD hS hl
  exact lv_if_gt hx hb (rr_bk.d hk).1 (rr_bk.d hk).2 (fun h => kt h r H locs ls hr hP hD hS hl) (fun h => kf h r H locs ls hr hP hD hS hl)
theorem rr_icmp_gt (hC : rr_X M d mc ms Z) {x y : Int32} {off : Int} {tgt : Nat} (hk : rr_bk M.2.2.1 pc (.if_icmp .gt off) off tgt = true) (kt : y < x → rr_J Z nL cells slots Q tgt l st w) (kf : ¬ y < x → rr_J Z nL cells slots Q (pc + 3) l st w) : rr_J Z nL cells slots Q pc l (.int y :: .int x :: st) w := by
  obtain ⟨p, lc, e, R, s, m, args, below, meth, c, D, cI, cZ, A, r0, n0⟩ := Z
  obtain ⟨hx, hb, hml, hown, hts, hlocks, hret, hname, hK, hN, hA, hR⟩ := hC
  intro r H locs ls hr hP hD hS hl
  exact lv_icmp_gt hx hb (rr_bk.d hk).1 (rr_bk.d hk).2 (fun h => kt h r H locs ls hr hP hD hS hl) (fun h => kf h r H locs ls hr hP hD hS hl)
theorem rr_if_le (hC : rr_X M d mc ms Z) {x : Int32} {off : Int} {tgt : Nat} (hk : rr_bk M.2.2.1 pc (.ifCond .le off) off tgt = true) (kt : x ≤ 0 → rr_J Z nL cells slots Q tgt l st w) (kf : ¬ x ≤ 0 → rr_J Z nL cells slots Q (pc + 3) l st w) : rr_J Z nL cells slots Q pc l (.int x :: st) w := by
  obtain ⟨p, lc, e, R, s, m, args, below, meth, c, D, cI, cZ, A, r0, n0⟩ := Z
  obtain ⟨hx, hb, hml, hown, hts, hlocks, hret, hname, hK, hN, hA, hR⟩ := hC
  intro r H locs ls hr hP hD hS hl
  exact lv_if_le hx hb (rr_bk.d hk).1 (rr_bk.d hk).2 (fun h => kt h r H locs ls hr hP hD hS hl) (fun h => kf h r H locs ls hr hP hD hS hl)
theorem rr_icmp_le (hC : rr_X M d mc ms Z) {x y : Int32} {off : Int} {tgt : Nat} (hk : rr_bk M.2.2.1 pc (.if_icmp .le off) off tgt = true) (kt : x ≤ y → rr_J Z nL cells slots Q tgt l st w) (kf : ¬ x ≤ y → rr_J Z nL cells slots Q (pc + 3) l st w) : rr_J Z nL cells slots Q pc l (.int y :: .int x :: st) w := by
  obtain ⟨p, lc, e, R, s, m, args, below, meth, c, D, cI, cZ, A, r0, n0⟩ := Z
  obtain ⟨hx, hb, hml, hown, hts, hlocks, hret, hname, hK, hN, hA, hR⟩ := hC
  intro r H locs ls hr hP hD hS hl
  exact lv_icmp_le hx hb (rr_bk.d hk).1 (rr_bk.d hk).2 (fun h => kt h r H locs ls hr hP hD hS hl) (fun h => kf h r H locs ls hr hP hD hS hl)
theorem rr_eqb (hC : rr_X M d mc ms Z) {b : Bool} {off : Int} {tgt : Nat} (hk : rr_bk M.2.2.1 pc (.ifCond .eq off) off tgt = true) (kt : b = false → rr_J Z nL cells slots Q tgt l st w) (kf : b = true → rr_J Z nL cells slots Q (pc + 3) l st w) : rr_J Z nL cells slots Q pc l (.int (rr_b b) :: st) w :=
  rr_if_eq hC hk (fun h => kt (rr_b_0.mp h)) (fun h => kf (by cases b; exact absurd rfl h; rfl))
theorem rr_neb (hC : rr_X M d mc ms Z) {b : Bool} {off : Int} {tgt : Nat} (hk : rr_bk M.2.2.1 pc (.ifCond .ne off) off tgt = true) (kt : b = true → rr_J Z nL cells slots Q tgt l st w) (kf : b = false → rr_J Z nL cells slots Q (pc + 3) l st w) : rr_J Z nL cells slots Q pc l (.int (rr_b b) :: st) w :=
  rr_if_ne hC hk (fun h => kt (by cases b; exact absurd rfl h; rfl)) (fun h => kf (rr_b_0.mp h))
/-- an array's place j -/
theorem rr_iald (hC : rr_X M d mc ms Z) (j : Nat) {i n : Nat} {f : Nat → Int32} {x : Int32} (hk : rr_dk M.2.2.1 pc .iaload 1 = true) (hw : w[i]? = some (.inl (true, n, f))) (hx : x = nI j) (hj : j < n) (hn : Nat.ble n 1000 = true) (k : rr_J Z nL cells slots Q (pc + 1) l (.int (f j) :: st) w) : rr_J Z nL cells slots Q pc l (.int x :: .ref i :: st) w := by
  obtain ⟨p, lc, e, R, s, m, args, below, meth, c, D, cI, cZ, A, r0, n0⟩ := Z
  obtain ⟨hx0, hb, hml, hown, hts, hlocks, hret, hname, hK, hN, hA, hR⟩ := hC
  intro r H locs ls hr hP hD hS hl
  have hn' := Nat.le_of_ble_eq_true hn
  have e2 : x.toNatClampNeg = j := by rw [hx]; exact nI_clamp (by omega)
  have hin : vp_in x n := by
    rw [vp_in_iff, hx, nI_toInt (by omega)]
    omega
  refine va_iald hx0 hb hK hP i 0 (rr_cw_at hw) rfl hin (of_decide_eq_true hk) ?_
  rw [e2]
  exact k r H locs ls hr hP hD hS hl
theorem rr_zald (hC : rr_X M d mc ms Z) (j : Nat) {i n : Nat} {f : Nat → Int32} {x : Int32} (hk : rr_dk M.2.2.1 pc .baload 1 = true) (hw : w[i]? = some (.inl (false, n, f))) (hx : x = nI j) (hj : j < n) (hn : Nat.ble n 1000 = true) (k : rr_J Z nL cells slots Q (pc + 1) l (.int (f j) :: st) w) : rr_J Z nL cells slots Q pc l (.int x :: .ref i :: st) w := by
  obtain ⟨p, lc, e, R, s, m, args, below, meth, c, D, cI, cZ, A, r0, n0⟩ := Z
  obtain ⟨hx0, hb, hml, hown, hts, hlocks, hret, hname, hK, hN, hA, hR⟩ := hC
  intro r H locs ls hr hP hD hS hl
  have hn' := Nat.le_of_ble_eq_true hn
  have e2 : x.toNatClampNeg = j := by rw [hx]; exact nI_clamp (by omega)
  have hin : vp_in x n := by
    rw [vp_in_iff, hx, nI_toInt (by omega)]
    omega
  refine va_zald hx0 hb hK hP i 1 (rr_cw_at hw) rfl hin (of_decide_eq_true hk) ?_
  rw [e2]
  exact k r H locs ls hr hP hD hS hl
theorem rr_iast (hC : rr_X M d mc ms Z) (j : Nat) {i n : Nat} {f : Nat → Int32} {x y : Int32} (hk : rr_dk M.2.2.1 pc .iastore 1 = true) (hw : w[i]? = some (.inl (true, n, f))) (hx : x = nI j) (hj : j < n) (hn : Nat.ble n 1000 = true) (hw' : w.set i (.inl (true, n, upd f j y)) = w') (k : rr_J Z nL cells slots Q (pc + 1) l st w') : rr_J Z nL cells slots Q pc l (.int y :: .int x :: .ref i :: st) w := by
  obtain ⟨p, lc, e, R, s, m, args, below, meth, c, D, cI, cZ, A, r0, n0⟩ := Z
  obtain ⟨hx0, hb, hml, hown, hts, hlocks, hret, hname, hK, hN, hA, hR⟩ := hC
  subst hw'
  intro r H locs ls hr hP hD hS hl
  have hn' := Nat.le_of_ble_eq_true hn
  have e2 : x.toNatClampNeg = j := by rw [hx]; exact nI_clamp (by omega)
  have hin : vp_in x n := by
    rw [vp_in_iff, hx, nI_toInt (by omega)]
    omega
  refine va_iast hx0 hb hK hP hD hS i 0 (rr_cw_at hw) rfl hin (of_decide_eq_true hk) (fun H1 locs1 hP1 hD1 hS1 => ?_)
  rw [e2] at hP1 hD1
  have e4 : rr_cw cI cZ r (w.set i (.inl (true, n, upd f j y))) = (rr_cw cI cZ r w).set i (r i, .inl (cI, n, .inl (upd f j y))) := by
    rw [rr_cw_set]; rfl
  exact k r H1 locs1 ls (by rw [List.length_set]; exact hr) (by rw [e4]; exact hP1) (by rw [e4]; exact hD1) hS1 hl
theorem rr_nar01 {y : Int32} (h : y = 0 ∨ y = 1) : vp_nar .boolean y = y := by
  rcases h with rfl | rfl <;> decide +kernel
theorem rr_zast (hC : rr_X M d mc ms Z) (j : Nat) {i n : Nat} {f : Nat → Int32} {x y : Int32} (hk : rr_dk M.2.2.1 pc .bastore 1 = true) (hw : w[i]? = some (.inl (false, n, f))) (hx : x = nI j) (hj : j < n) (hn : Nat.ble n 1000 = true) (hy : y = 0 ∨ y = 1) (hw' : w.set i (.inl (false, n, upd f j y)) = w') (k : rr_J Z nL cells slots Q (pc + 1) l st w') : rr_J Z nL cells slots Q pc l (.int y :: .int x :: .ref i :: st) w := by
  obtain ⟨p, lc, e, R, s, m, args, below, meth, c, D, cI, cZ, A, r0, n0⟩ := Z
  obtain ⟨hx0, hb, hml, hown, hts, hlocks, hret, hname, hK, hN, hA, hR⟩ := hC
  subst hw'
  intro r H locs ls hr hP hD hS hl
  have hn' := Nat.le_of_ble_eq_true hn
  have e2 : x.toNatClampNeg = j := by rw [hx]; exact nI_clamp (by omega)
  have hin : vp_in x n := by
    rw [vp_in_iff, hx, nI_toInt (by omega)]
    omega
  refine va_zast hx0 hb hK hP hD hS i 1 (rr_cw_at hw) rfl hin (of_decide_eq_true hk) (fun H1 locs1 hP1 hD1 hS1 => ?_)
  rw [e2, rr_nar01 hy] at hP1 hD1
  have e4 : rr_cw cI cZ r (w.set i (.inl (false, n, upd f j y))) = (rr_cw cI cZ r w).set i (r i, .inl (cZ, n, .inl (upd f j y))) := by
    rw [rr_cw_set]; rfl
  exact k r H1 locs1 ls (by rw [List.length_set]; exact hr) (by rw [e4]; exact hP1) (by rw [e4]; exact hD1) hS1 hl
theorem rr_irem (hC : rr_X M d mc ms Z) {x y : Int32} (hk : rr_dk M.2.2.1 pc .irem 1 = true) (hy : ¬ y = 0) (k : rr_J Z nL cells slots Q (pc + 1) l (.int (x - x / y * y) :: st) w) : rr_J Z nL cells slots Q pc l (.int y :: .int x :: st) w := by
  obtain ⟨p, lc, e, R, s, m, args, below, meth, c, D, cI, cZ, A, r0, n0⟩ := Z
  obtain ⟨hx0, hb, hml, hown, hts, hlocks, hret, hname, hK, hN, hA, hR⟩ := hC
  intro r H locs ls hr hP hD hS hl
  exact lv_irem hx0 hb (of_decide_eq_true hk) hy (k r H locs ls hr hP hD hS hl)
def rr_tk (cc : ByteArray) (pc : Nat) (i : Instr) (n : Nat) (off : Int) (tgt : Nat) : Bool := decide (decode cc pc = .ok (i, n)) && decide ((pc : Int) + off = (tgt : Int))
theorem rr_tab (hC : rr_X M d mc ms Z) (j : Nat) {x : Int32} {dflt lo hi off : Int} {offs : Array Int} {n tgt : Nat} (hk : rr_tk M.2.2.1 pc (.tableswitch dflt lo hi offs) n off tgt = true) (hx : x.toInt = lo + j) (hj : offs[j]? = some off) (hj2 : lo + j ≤ hi) (k : rr_J Z nL cells slots Q tgt l st w) : rr_J Z nL cells slots Q pc l (.int x :: st) w := by
  obtain ⟨p, lc, e, R, s, m, args, below, meth, c, D, cI, cZ, A, r0, n0⟩ := Z
  obtain ⟨hx0, hb, hml, hown, hts, hlocks, hret, hname, hK, hN, hA, hR⟩ := hC
  unfold rr_tk at hk
  rw [Bool.and_eq_true, decide_eq_true_eq, decide_eq_true_eq] at hk
  intro r H locs ls hr hP hD hS hl
  exact lv_tableIn hx0 hb hk.1 (by omega) (by omega) (by rw [hx, show lo + (j : Int) - lo = (j : Int) by omega]; simpa using hj) hk.2 (k r H locs ls hr hP hD hS hl)
theorem rr_tabd (hC : rr_X M d mc ms Z) {x : Int32} {dflt lo hi : Int} {offs : Array Int} {n tgt : Nat} (hk : rr_tk M.2.2.1 pc (.tableswitch dflt lo hi offs) n dflt tgt = true) (hx : x.toInt < lo ∨ hi < x.toInt) (k : rr_J Z nL cells slots Q tgt l st w) : rr_J Z nL cells slots Q pc l (.int x :: st) w := by
  obtain ⟨p, lc, e, R, s, m, args, below, meth, c, D, cI, cZ, A, r0, n0⟩ := Z
  obtain ⟨hx0, hb, hml, hown, hts, hlocks, hret, hname, hK, hN, hA, hR⟩ := hC
  unfold rr_tk at hk
  rw [Bool.and_eq_true, decide_eq_true_eq, decide_eq_true_eq] at hk
  intro r H locs ls hr hP hD hS hl
  exact lv_tableOut hx0 hb hk.1 hx hk.2 (k r H locs ls hr hP hD hS hl)
theorem rr_lsw (hC : rr_X M d mc ms Z) {x : Int32} {dflt off : Int} {ps : Array (Int × Int)} {n tgt : Nat} (hk : rr_tk M.2.2.1 pc (.lookupswitch dflt ps) n off tgt = true) (hp : (ps.toList.zip (ps.toList.drop 1)).all (fun (a, next) => a.1 < next.1) = true) (ho : Op.lookupswitch.offset ps.toList dflt x.toInt = off) (k : rr_J Z nL cells slots Q tgt l st w) : rr_J Z nL cells slots Q pc l (.int x :: st) w := by
  obtain ⟨p, lc, e, R, s, m, args, below, meth, c, D, cI, cZ, A, r0, n0⟩ := Z
  obtain ⟨hx0, hb, hml, hown, hts, hlocks, hret, hname, hK, hN, hA, hR⟩ := hC
  unfold rr_tk at hk
  rw [Bool.and_eq_true, decide_eq_true_eq, decide_eq_true_eq] at hk
  intro r H locs ls hr hP hD hS hl
  exact lv_lookup hx0 hb hk.1 hp ho hk.2 (k r H locs ls hr hP hD hS hl)
end RR2
/-! ## contracts -/
def rr_rm (d mc ms : Nat) : Room := { frames := d, cells := mc, slots := ms, locals := 64 * d }
def rr_At (D : va_G) (cI cZ : ClassId) (r : Nat → Nat) (w : rr_A) (A : Nat → Prop) (U : State) : Prop := va_P D vwCl (rr_cw cI cZ r w) U.heap ∧ va_K D vwCl [(cI, .int), (cZ, .boolean)] U ∧ rr_N U ∧ va_D A (rr_cw cI cZ r w)
/-- the cells that a method may change: its world's first ones, and new ones -/
def rr_Aq (r0 : Nat → Nat) (n0 sz : Nat) : Nat → Prop := fun q => (∃ i, i < n0 ∧ q = r0 i) ∨ sz ≤ q
def rr_Qc (D : va_G) (cI cZ : ClassId) (r0 : Nat → Nat) (n0 : Nat) (A : Nat → Prop) (ret : Option Int32) (w' : rr_A) : Array Value → State → Outcome → State → Prop := fun _ st oc t =>
  (oc = .returned (ret.map Value.int) ∧ ∃ r : Nat → Nat, (∀ i, i < n0 ∨ w'.length ≤ i → r i = r0 i) ∧ rr_At D cI cZ r w' A t) ∧ va_F A st t
def rr_MQ (Z : rr_Z) (mc ms : Nat) (ret : Option Int32) (w' : rr_A) : State → Prop := match Z with
  | (p, lc, e, R, s, m, args, below, meth, c, D, cI, cZ, A, r0, n0) => MQ below (rr_Qc D cI cZ r0 n0 A ret w') args s mc ms A
def rr_C (M : rr_M) (d : Nat) (args : List Value) (w : rr_A) (mc ms : Nat) (ret : Option Int32) (w' : rr_A) : Prop :=
  ∀ (lc : Launch) (D : va_G) (cI cZ : ClassId) (r0 : Nat → Nat) (sz : Nat), Met lc M.2.1 (.code M.2.1 M.2.2.1 M.2.2.2.1 M.2.2.2.2 :: rr_W) (rr_rm d mc ms) (va_Pc (args.map (rr_cv r0)) (fun U => U.heap.size = sz ∧ rr_At D cI cZ r0 w (fun _ => True) U)) (rr_Qc D cI cZ r0 w.length (rr_Aq r0 w.length sz) ret w') mc ms (rr_Aq r0 w.length sz)
/-- what a method's name and code need of the tables -/
def rr_mo (M : rr_M) (n : Nat) : Prop := plainName M.2.1.cls = true ∧ M.2.1.cls = rr_on M.1 ∧ Jvm.Cond.code M.2.1 M.2.2.1 M.2.2.2.1 M.2.2.2.2 ∈ rr_W ∧ Jvm.Cond.initialized M.2.1.cls ∈ rr_W ∧ (M.2.1.cls ≠ "java/lang/invoke/MethodHandle" ∧ M.2.1.cls ≠ "java/lang/invoke/VarHandle" ∧ (parseMethodDescriptor M.2.1.desc).map (fun d => d.parameters.length) = some n) ∧ M.2.2.2.1 ≤ 40
def rr_la (i : Nat) (args : List Value) : List (Nat × Value) := match args with
  | [] => []
  | v :: vs => (i, v) :: rr_la (i + 1) vs
def rr_c1 (args : List Value) : Bool := match args with
  | [] => true
  | .int _ :: vs => rr_c1 vs
  | .ref _ :: vs => rr_c1 vs
  | _ => false
theorem rr_la_args (r : Nat → Nat) (i : Nat) (args : List Value) (h : rr_c1 args = true) : lv_args i (args.map (rr_cv r)) = rr_cl r (rr_la i args) := by
  induction args generalizing i with
  | nil => rfl
  | cons v vs ih =>
    cases v <;> first | (simp [rr_c1] at h; done) | skip
    · show _ :: lv_args (i + 1) _ = _ :: rr_cl r (rr_la (i + 1) vs)
      rw [ih (i + 1) h]
    · show _ :: lv_args (i + 1) _ = _ :: rr_cl r (rr_la (i + 1) vs)
      rw [ih (i + 1) h]
theorem rr_c1_len (r : Nat → Nat) (args : List Value) (h : rr_c1 args = true) : (lg_sl (args.map (rr_cv r))).length = args.length := by
  induction args with
  | nil => rfl
  | cons v vs ih =>
    cases v <;> first | (simp [rr_c1] at h; done) | skip
    · have := ih h
      simp [lg_sl, rr_cv, Value.category] at this ⊢
      exact this
    · have := ih h
      simp [lg_sl, rr_cv, Value.category] at this ⊢
      exact this
theorem rr_Aq_self {r0 : Nat → Nat} {cI cZ : ClassId} {w : rr_A} {sz : Nat} {A : Nat → Prop} (h : va_D A (rr_cw cI cZ r0 w)) : va_D (rr_Aq r0 w.length sz) (rr_cw cI cZ r0 w) := by
  refine ⟨h.1, fun k q hk => ?_⟩
  have hlt := (List.getElem?_eq_some_iff.mp hk).1
  rw [rr_cw_len] at hlt
  rw [rr_cw_get, List.getElem?_eq_getElem hlt] at hk
  cases hk
  exact Or.inl ⟨k, hlt, rfl⟩
theorem rr_C.of {M : rr_M} {d n : Nat} {args : List Value} {w w' : rr_A} {mc ms : Nat} {ret : Option Int32} (ho : rr_mo M n) (hn : Nat.ble args.length M.2.2.2.1 = true) (hc : rr_c1 args = true) (k : ∀ Z : rr_Z, rr_X M d mc ms Z → rr_J Z M.2.2.2.1 0 0 (rr_MQ Z mc ms ret w') 0 (rr_la 0 args) [] w) : rr_C M d args w mc ms ret w' := by
  intro lc D cI cZ r0 sz
  refine Met.ofW (cc := M.2.2.1) (maxL := M.2.2.2.1) (ret := M.2.2.2.2) ho.1 rfl ?_
  intro p e s m args' below meth c s₁ B hml hv
  obtain ⟨rfl, hsz, hP, hK, hN, hD0⟩ := hv
  have hts := atoms_spec (ws := .code M.2.1 M.2.2.1 M.2.2.2.1 M.2.2.2.2 :: rr_W) B.pre
  have hown : s.vm.findClass M.2.1.cls = some m.cls := findClass_of_methodNamed B.named
  subst hsz
  have hl := lv_entry (args.map (rr_cv r0)) (n := M.2.2.2.1) (by rw [rr_c1_len r0 args hc]; exact Nat.le_of_ble_eq_true hn)
  rw [lg_entry_eq]
  generalize (lg_sl (args.map (rr_cv r0)) ++ List.replicate (M.2.2.2.1 - (lg_sl (args.map (rr_cv r0))).length) Slot.unset).toArray = ls at hl ⊢
  rw [rr_la_args r0 0 args hc] at hl
  refine k (p, lc, e, rr_rm d mc ms, s, m, (args.map (rr_cv r0)).toArray, below, meth, c, D, cI, cZ, rr_Aq r0 w.length s.heap.size, r0, w.length) ⟨B.exec, B.bytes, hml, by rw [← ho.2.1]; exact hown, fun w hw => hts w (List.mem_cons_of_mem _ hw), B.notSynchronized, B.returns, (name_of_methodNamed B.named B.method).1, hK, hN, fun q h => Or.inr h, Nat.le_refl _, Nat.le_refl _, Nat.le_refl _, Nat.le_refl _⟩ r0 s.heap [] ls (fun _ _ => rfl) hP (rr_Aq_self hD0) va_S.rf hl
section RR3
variable {M : rr_M} {d mc ms : Nat} {Z : rr_Z} {nL cells slots : Nat} {pc : Nat} {l : List (Nat × Value)} {w w' : rr_A}
theorem rr_reti (hC : rr_X M d mc ms Z) {x v : Int32} (hk : (rr_dk M.2.2.1 pc .ireturn 1 && decide (M.2.2.2.2 = some .int)) = true) (hv : x = v) (hw : w = w') (hz : cells ≤ mc ∧ slots ≤ ms) : rr_J Z nL cells slots (rr_MQ Z mc ms (some v) w') pc l [.int x] w := by
  obtain ⟨p, lc, e, R, s, m, args, below, meth, c, D, cI, cZ, A, r0, n0⟩ := Z
  obtain ⟨hx0, hb, hml, hown, hts, hlocks, hret, hname, hK, hN, hA, hR⟩ := hC
  rw [Bool.and_eq_true, decide_eq_true_eq] at hk
  subst hv
  subst hw
  intro r H locs ls hr hP hD hS hl
  refine W.widen hz.1 hz.2 ?_
  exact W.iret hx0 hb (hret.trans hk.2) (fun t ht hW => ⟨⟨rfl, r, hr, by rw [ht]; exact hP, va_K.moved hW.alike hK, hN.warm hW, hD⟩, hS.F ht⟩) hS.2.2 (of_decide_eq_true hk.1) hlocks
theorem rr_retz (hC : rr_X M d mc ms Z) {x v : Int32} (hk : (rr_dk M.2.2.1 pc .ireturn 1 && decide (M.2.2.2.2 = some .boolean)) = true) (hz1 : x = 0 ∨ x = 1) (hv : x = v) (hw : w = w') (hz : cells ≤ mc ∧ slots ≤ ms) : rr_J Z nL cells slots (rr_MQ Z mc ms (some v) w') pc l [.int x] w := by
  obtain ⟨p, lc, e, R, s, m, args, below, meth, c, D, cI, cZ, A, r0, n0⟩ := Z
  obtain ⟨hx0, hb, hml, hown, hts, hlocks, hret, hname, hK, hN, hA, hR⟩ := hC
  rw [Bool.and_eq_true, decide_eq_true_eq] at hk
  subst hv
  subst hw
  intro r H locs ls hr hP hD hS hl
  refine W.widen hz.1 hz.2 ?_
  exact W.zret (ty := .boolean) hx0 hb (hret.trans hk.2) (rr_nb1 hz1).1 (fun t ht hW => ⟨⟨rfl, r, hr, by rw [ht]; exact hP, va_K.moved hW.alike hK, hN.warm hW, hD⟩, hS.F ht⟩) hS.2.2 (of_decide_eq_true hk.1) hlocks
theorem rr_retv (hC : rr_X M d mc ms Z) (hk : (rr_dk M.2.2.1 pc .return_ 1 && decide (M.2.2.2.2 = none)) = true) (hw : w = w') (hz : cells ≤ mc ∧ slots ≤ ms) : rr_J Z nL cells slots (rr_MQ Z mc ms none w') pc l [] w := by
  obtain ⟨p, lc, e, R, s, m, args, below, meth, c, D, cI, cZ, A, r0, n0⟩ := Z
  obtain ⟨hx0, hb, hml, hown, hts, hlocks, hret, hname, hK, hN, hA, hR⟩ := hC
  rw [Bool.and_eq_true, decide_eq_true_eq] at hk
  subst hw
  intro r H locs ls hr hP hD hS hl
  refine W.widen hz.1 hz.2 ?_
  exact W.vret hx0 hb (hret.trans hk.2) (fun t ht hW => ⟨⟨rfl, r, hr, by rw [ht]; exact hP, va_K.moved hW.alike hK, hN.warm hW, hD⟩, hS.F ht⟩) hS.2.2 (of_decide_eq_true hk.1) hlocks
end RR3
