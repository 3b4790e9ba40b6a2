def R_law : String := "SandTreatyLaw"
def lw_P (b : Addr) (xs : List Int32) (args : Array Value) (s : State) : Prop := args = #[.ref b] ∧ s.IntsAt b xs ∧ xs.length ≤ 320 ∧ (Jvm.Cond.and given_1 narrow_1).before args s = true
def lw_Q (_ : Array Value) (s : State) (o : Outcome) (t : State) : Prop := o = .returned (some (.int 1)) ∧ Framed s o t [] 600000 7302250
def lw_Z (below : List Frame) (a : Array Value) (s : State) : State → Prop := fun t => ∃ o, t.status = .running ∧ Ended t below o ∧ lw_Q a s o t
/-- the law's own end, with 1 on the stack, nothing written that was there before, its room as the claim has it -/
theorem lw_ret {p : Program} {l : Launch} {e : Env} {s : State} {m : MethodId} {below : List Frame} {meth : Method} {c : Code} {b : Nat} (hx : p.tables.exec = Jvm.exec) (hb : c.code = code) (hr : meth.sig.returnType = ret) (hlocks : meth.locks = false) {pc : Nat} {H : Heap} {ls : Array Slot} (hdg : decode code pc = .ok (.ireturn, 1)) : W p l e room_1 s m #[Value.ref b] below meth c H [] 600000 7302250 (lw_Z below #[Value.ref b] s) (F0 m pc ls [.int 1]) := by
  intro T hT X
  obtain ⟨fs, hret, hrun, hended, hW, hframe⟩ := X.leave (v := some (.int 1)) (hlocks := hlocks) (fun h => by rw [hr] at h; cases h)
  have hmeth' : T.vm.method? m = some meth := X.method'
  refine ⟨T.setFrames fs, ?_, .returned (some (.int 1)), hrun, hended, rfl, ⟨_, rfl⟩, hW, hframe⟩
  jvm_step X.here [X.here.top, hx, hb, hdg, hmeth', hr, ret, narrow_b1]
  (try refine ⟨rfl, ?_⟩); (try refine ⟨rfl, ?_⟩)
  first | (intro acts; rw [hret _ acts rfl rfl rfl]) | rw [hret _ _ rfl rfl rfl]
  exact Steps.refl _
/-- what holds at the law's entry: the machine, the code, the tables' words (any of lw_tbl by 'hts w (by decide +kernel)'), the script of L ints xs at the cell b, what the Statement gives of the start (any of its parts by flat_of_before) -/
def lw_At (p : Program) (s : State) (m : MethodId) (meth : Method) (c : Code) (b L : Nat) (xs : Nat → Int32) : Prop :=
  p.tables.exec = Jvm.exec ∧ c.code = code ∧ meth.sig.returnType = ret ∧ c.maxLocals = 4 ∧ s.vm.findClass R_law = some m.cls ∧ (∀ w ∈ lw_tbl, w.before #[Value.ref b] s = true) ∧ va_X b L xs s s.heap ∧ b < s.heap.size ∧ meth.locks = false ∧ (Jvm.Cond.and given_1 narrow_1).before #[Value.ref b] s = true
/-! the law: both objects side by side, each at its own addresses; calls of the one leave the other as it is -/
abbrev mLaw : rr_M := (12, x, code, 4, ret)
def lz_A (s : State) : Nat → Prop := fun q => s.heap.size ≤ q
def lz_I (D : va_G) (cI cZ : ClassId) (s : State) (r1 r2 : Nat → Nat) (w1 w2 : rr_A) (H : Heap) (locs : List Loc) : Prop :=
  va_P D vwCl (rr_cw cI cZ r1 w1) H ∧ va_P D vwCl (rr_cw cI cZ r2 w2) H ∧ va_D (lz_A s) (rr_cw cI cZ r1 w1) ∧ va_D (lz_A s) (rr_cw cI cZ r2 w2) ∧ (∀ i j, i < w1.length → j < w2.length → r1 i ≠ r2 j) ∧ va_S (lz_A s) s.heap H locs
theorem lz_I.swap {D : va_G} {cI cZ : ClassId} {s : State} {r1 r2 : Nat → Nat} {w1 w2 : rr_A} {H : Heap} {locs : List Loc} (h : lz_I D cI cZ s r1 r2 w1 w2 H locs) : lz_I D cI cZ s r2 r1 w2 w1 H locs :=
  ⟨h.2.1, h.1, h.2.2.2.1, h.2.2.1, fun i j a b e => h.2.2.2.2.1 j i b a e.symm, h.2.2.2.2.2⟩
theorem lz_cw_1 {cI cZ : ClassId} {r : Nat → Nat} {w : rr_A} {k : Nat} {q : Nat × va_E} (h : (rr_cw cI cZ r w)[k]? = some q) : k < w.length ∧ q.1 = r k := by
  have hlt := (List.getElem?_eq_some_iff.mp h).1
  rw [rr_cw_len] at hlt
  rw [rr_cw_get, List.getElem?_eq_getElem hlt] at h
  cases h
  exact ⟨hlt, rfl⟩
section LZ
variable {p : Program} {l : Launch} {e : Env} {s : State} {m : MethodId} {below : List Frame} {meth : Method} {c : Code} {b L : Nat} {xs : Nat → Int32} {D : va_G} {cI cZ : ClassId} {r1 r2 : Nat → Nat} {ls : Array Slot} {i cells slots pc idx n d' : Nat} {Q : State → Prop} {M' : rr_M} {as st rest fs : List Value} {w1 w2 : rr_A} {H : Heap} {locs : List Loc}
set_option maxHeartbeats 1000000 in
theorem lz_call {P : Option Int32 → rr_A → Prop} (hx : p.tables.exec = Jvm.exec) (hb : c.code = code) (hml : c.maxLocals = 4) (hown : s.vm.findClass (rr_on 12) = some m.cls) (hts : ∀ w ∈ rr_W, w.before #[Value.ref b] s = true) (hK : va_K D vwCl [(cI, .int), (cZ, .boolean)] s) (hN : rr_N s) (hls : ls.size = 4) (hk : rr_dk code pc (.invokevirtual idx) 3 = true) (hl : Jvm.Cond.methodLink (rr_on 12) idx M'.2.1 ∈ rr_W) (hf : rr_fv M' n) (hM : rr_CP M' d' (.ref 0 :: as) w1 0 0 P) (hd : d' < 9) (hb0 : w1[0]? = some (.inr (M'.1, fs))) (hvw : (vwCl[M'.1]?.map fun q => q.1) = some M'.2.1.cls) (hn : as.length = n) (hint : as.all (rr_lb 0) = true) (hrest : Nat.ble (rest.map fun v => v.category).sum 8 = true) (hz : cells ≤ 600000 ∧ slots ≤ 7302250) (hlen : ∀ r w1', P r w1' → w1'.length = w1.length) (hI : lz_I D cI cZ s r1 r2 w1 w2 H locs)
    (k : ∀ r w1' H1 locs1, P r w1' → lz_I D cI cZ s r1 r2 w1' w2 H1 locs1 → W p l e room_1 s m #[Value.ref b] below meth c H1 locs1 cells slots Q (F0 m (pc + 3) ls ((r.map Value.int).toList ++ rest))) : W p l e room_1 s m #[Value.ref b] below meth c H locs cells slots Q (F0 m pc ls (as.reverse ++ .ref (r1 0) :: rest)) := by
  obtain ⟨hP1, hP2, hD1, hD2, hap, hS⟩ := hI
  have hcw : (rr_cw cI cZ r1 w1)[0]? = some (r1 0, .inr (M'.1, fs.map (rr_cv r1))) := rr_cw_at hb0
  obtain ⟨q, hq, hq2⟩ : ∃ q : vw_C, vwCl[M'.1]? = some q ∧ q.1 = M'.2.1.cls := by
    cases hv : vwCl[M'.1]? with
    | none => rw [hv] at hvw; cases hvw
    | some q => rw [hv] at hvw; exact ⟨q, rfl, Option.some.inj hvw⟩
  have hrecv := va_recv hK hP1 hq hcw
  rw [hq2] at hrecv
  have has := rr_lb0 (r := r1) hint
  have key := va_runV (As := as) (rest := rest) (g := F0 m pc ls (as.reverse ++ .ref (r1 0) :: rest)) (p := p) (e := e) (below := below) (meth := meth) (locs := locs) (cells := cells) (slots := slots) (H := H) (b := r1 0) (C := M'.2.1.cls) (index := idx) (n := n) (R := room_1) (args := #[Value.ref b]) ⟨hx, hb, hml, hown, hts⟩ (hM l D cI cZ r1 H.size) ⟨rr_cB (M := mLaw) (d := 9) hts ⟨by decide, by decide⟩ (Nat.ble_eq_true_of_le hd) hl hf.1, hts _ hf.2.1, hts _ hf.2.2⟩ ⟨rr_blind, hrecv, fun U hU hW => ⟨by rw [List.map_cons, has]; rfl, by rw [hU], by rw [hU]; exact hP1, va_K.moved hW.alike hK, hN.warm hW, ⟨hD1.1, fun _ _ _ => trivial⟩⟩⟩ rfl hn hls rfl (lv_room (Nat.le_of_ble_eq_true hrest)) (of_decide_eq_true hk) ⟨hz.1, hz.2⟩
  have hA : ∀ q, s.heap.size ≤ q → lz_A s q := fun _ h => h
  have hfree : ∀ q, rr_Aq r1 w1.length H.size q → lz_A s q := by
    rintro q (⟨j, hj, e⟩ | h)
    · have h4 := hD1.2 j _ (rr_cw_at (List.getElem?_eq_getElem hj))
      rw [e]
      exact h4
    · exact hA q (Nat.le_trans hS.1 h)
  intro T hT X
  obtain ⟨v, st₀, t, T', L, h0, X', hL, e1, e2, ⟨⟨ret', w1', hPr, hv, r, hr, hPn, hKn, hNn, hDn⟩, hzz, hk1⟩, hst⟩ := key T hT X
  cases hv
  rw [h0] at hzz hk1
  have hlen' := hlen ret' w1' hPr
  have er : r = r1 := by
    funext i
    refine hr i ?_
    rw [hlen']
    exact Nat.lt_or_ge i w1.length
  subst er
  have hS1 : va_S (lz_A s) s.heap T'.heap (locs ++ L) := ⟨Nat.le_trans hS.1 (by rw [e1]; exact hzz), fun q g1 g2 => by rw [e1, hk1 q (Nat.lt_of_lt_of_le g1 hS.1) (fun z => g2 (hfree q z))]; exact hS.2.1 q g1 g2, fun q hq => by
      rcases List.mem_append.mp hq with g | g
      · exact hS.2.2 q g
      · exact hfree _ (hL q g)⟩
  have hP2' : va_P D vwCl (rr_cw cI cZ r2 w2) T'.heap := hP2.kept (fun k q hq => by
    have g := lz_cw_1 hq
    have hlt := (hP2 k q hq).lt
    rw [e1]
    refine hk1 q.1 hlt ?_
    rintro (⟨j, hj, e⟩ | h)
    · exact hap j k hj g.1 (by rw [← e, g.2])
    · exact absurd h (Nat.not_le.mpr hlt))
  have k2 := k ret' w1' T'.heap (locs ++ L) hPr ⟨by rw [e1]; exact hPn, hP2', ⟨hDn.1, fun i q hq => hfree _ (hDn.2 i q hq)⟩, hD2, fun i j a b => hap i j (by rw [← hlen']; exact a) b, hS1⟩ T' rfl X'
  obtain ⟨t2, a1, b1⟩ := k2
  exact ⟨t2, hst t2 a1, b1⟩
/-- what stands around one round of the loop -/
def lz_E (p : Program) (s : State) (m : MethodId) (c : Code) (b L : Nat) (xs : Nat → Int32) (D : va_G) (cI cZ : ClassId) (r1 r2 : Nat → Nat) (ls : Array Slot) (i cells slots : Nat) : Prop :=
  p.tables.exec = Jvm.exec ∧ c.code = code ∧ c.maxLocals = 4 ∧ s.vm.findClass (rr_on 12) = some m.cls ∧ (∀ w ∈ rr_W, w.before #[Value.ref b] s = true) ∧ va_X b L xs s s.heap ∧ b < s.heap.size ∧ L ≤ 320 ∧ va_K D vwCl [(cI, .int), (cZ, .boolean)] s ∧ rr_N s ∧ lv_has ls 4 [(0, .ref b), (1, .ref (r1 0)), (2, .ref (r2 0)), (3, .int (nI i))] ∧ i + 5 ≤ L ∧ cells ≤ 600000 ∧ slots ≤ 7302250
def lz_J (p : Program) (l : Launch) (e : Env) (s : State) (m : MethodId) (below : List Frame) (meth : Method) (c : Code) (b : Nat) (D : va_G) (cI cZ : ClassId) (r1 r2 : Nat → Nat) (ls : Array Slot) (cells slots : Nat) (Q : State → Prop) (pc : Nat) (st : List Value) (w1 w2 : rr_A) : Prop :=
  ∀ (H : Heap) (locs : List Loc), lz_I D cI cZ s r1 r2 w1 w2 H locs → W p l e room_1 s m #[Value.ref b] below meth c H locs cells slots Q (F0 m pc ls st)
theorem lz_cx {x0 : Int32} {Q1 : rr_A → Prop} (hE : lz_E p s m c b L xs D cI cZ r1 r2 ls i cells slots) (hk : rr_dk code pc (.invokevirtual idx) 3 = true) (hl : Jvm.Cond.methodLink (rr_on 12) idx M'.2.1 ∈ rr_W) (hf : rr_fv M' n) (hM : rr_CP M' d' (.ref 0 :: as) w1 0 0 (fun r w => r = some x0 ∧ Q1 w)) (hd : d' < 9) (hb0 : w1[0]? = some (.inr (M'.1, fs))) (hvw : (vwCl[M'.1]?.map fun q => q.1) = some M'.2.1.cls) (hn : as.length = n) (hint : as.all (rr_lb 0) = true) (hrest : Nat.ble (rest.map fun v => v.category).sum 8 = true) (hlen : ∀ w, Q1 w → w.length = w1.length) (hst : st = as.reverse ++ .ref (r1 0) :: rest) (k : ∀ w1', Q1 w1' → lz_J p l e s m below meth c b D cI cZ r1 r2 ls cells slots Q (pc + 3) (.int x0 :: rest) w1' w2) : lz_J p l e s m below meth c b D cI cZ r1 r2 ls cells slots Q pc st w1 w2 := by
  obtain ⟨hx, hb, hml, hown, hts, hX, hbl, hL, hK, hN, hls, hi, hz1, hz2⟩ := hE
  subst hst
  intro H locs hI
  refine lz_call hx hb hml hown hts hK hN hls.1 hk hl hf hM hd hb0 hvw hn hint hrest ⟨hz1, hz2⟩ (fun r w' h => hlen w' h.2) hI (fun r w1' H1 locs1 hr hI1 => ?_)
  obtain ⟨rfl, hq⟩ := hr
  exact k w1' hq H1 locs1 hI1
theorem lz_cm {x0 : Int32} {Q1 : rr_A → Prop} (hE : lz_E p s m c b L xs D cI cZ r1 r2 ls i cells slots) (hk : rr_dk code pc (.invokevirtual idx) 3 = true) (hl : Jvm.Cond.methodLink (rr_on 12) idx M'.2.1 ∈ rr_W) (hf : rr_fv M' n) (hM : rr_CP M' d' (.ref 0 :: as) w2 0 0 (fun r w => r = some x0 ∧ Q1 w)) (hd : d' < 9) (hb0 : w2[0]? = some (.inr (M'.1, fs))) (hvw : (vwCl[M'.1]?.map fun q => q.1) = some M'.2.1.cls) (hn : as.length = n) (hint : as.all (rr_lb 0) = true) (hrest : Nat.ble (rest.map fun v => v.category).sum 8 = true) (hlen : ∀ w, Q1 w → w.length = w2.length) (hst : st = as.reverse ++ .ref (r2 0) :: rest) (k : ∀ w2', Q1 w2' → lz_J p l e s m below meth c b D cI cZ r1 r2 ls cells slots Q (pc + 3) (.int x0 :: rest) w1 w2') : lz_J p l e s m below meth c b D cI cZ r1 r2 ls cells slots Q pc st w1 w2 := by
  obtain ⟨hx, hb, hml, hown, hts, hX, hbl, hL, hK, hN, hls, hi, hz1, hz2⟩ := hE
  subst hst
  intro H locs hI
  refine lz_call hx hb hml hown hts hK hN hls.1 hk hl hf hM hd hb0 hvw hn hint hrest ⟨hz1, hz2⟩ (fun r w' h => hlen w' h.2) hI.swap (fun r w1' H1 locs1 hr hI1 => ?_)
  obtain ⟨rfl, hq⟩ := hr
  exact k w1' hq H1 locs1 hI1.swap
theorem lz_ax (hE : lz_E p s m c b L xs D cI cZ r1 r2 ls i cells slots) (hk : rr_dk code pc (.aload_n 1) 1 = true) (k : lz_J p l e s m below meth c b D cI cZ r1 r2 ls cells slots Q (pc + 1) (.ref (r1 0) :: st) w1 w2) : lz_J p l e s m below meth c b D cI cZ r1 r2 ls cells slots Q pc st w1 w2 := by
  obtain ⟨hx, hb, hml, hown, hts, hX, hbl, hL, hK, hN, hls, hi, hz1, hz2⟩ := hE
  intro H locs hI
  exact lv_aload_n hx hb (of_decide_eq_true hk) rfl (lv_at hls 1 rfl) (k H locs hI)
theorem lz_am (hE : lz_E p s m c b L xs D cI cZ r1 r2 ls i cells slots) (hk : rr_dk code pc (.aload_n 2) 1 = true) (k : lz_J p l e s m below meth c b D cI cZ r1 r2 ls cells slots Q (pc + 1) (.ref (r2 0) :: st) w1 w2) : lz_J p l e s m below meth c b D cI cZ r1 r2 ls cells slots Q pc st w1 w2 := by
  obtain ⟨hx, hb, hml, hown, hts, hX, hbl, hL, hK, hN, hls, hi, hz1, hz2⟩ := hE
  intro H locs hI
  exact lv_aload_n hx hb (of_decide_eq_true hk) rfl (lv_at hls 2 rfl) (k H locs hI)
def lz_ak (pc j : Nat) : Bool := decide (decode code pc = .ok (.aload_n 0, 1)) && (decide (decode code (pc + 1) = .ok (.iload_n 3, 1)) && (decide (decode code (pc + 2) = .ok (.iconst (j : Int), 1)) && (decide (decode code (pc + 3) = .ok (.iadd, 1)) && decide (decode code (pc + 4) = .ok (.iaload, 1)))))
theorem lz_ar (j : Nat) (hE : lz_E p s m c b L xs D cI cZ r1 r2 ls i cells slots) (hj : Nat.ble j 4 = true) (hk : lz_ak pc j = true) (k : lz_J p l e s m below meth c b D cI cZ r1 r2 ls cells slots Q (pc + 5) (.int (xs (i + j)) :: st) w1 w2) : lz_J p l e s m below meth c b D cI cZ r1 r2 ls cells slots Q pc st w1 w2 := by
  obtain ⟨hx, hb, hml, hown, hts, hX, hbl, hL, hK, hN, hls, hi, hz1, hz2⟩ := hE
  have hj := Nat.le_of_ble_eq_true hj
  unfold lz_ak at hk
  simp only [Bool.and_eq_true, decide_eq_true_eq] at hk
  obtain ⟨k0, k1, k2, k3, k4⟩ := hk
  intro H locs hI
  refine lv_aload_n hx hb k0 rfl (lv_at hls 0 rfl) ?_
  refine lv_iload_n hx hb k1 rfl (lv_at hls 3 rfl) ?_
  refine lv_iconst (v := nI j) hx hb k2 rfl ?_
  refine lv_iadd hx hb k3 ?_
  have e2 : (nI i + nI j).toNatClampNeg = i + j := by rw [nI_add]; exact nI_clamp (by omega)
  have hin : vp_in (nI i + nI j) L := by
    rw [vp_in_iff, nI_add, nI_toInt (by omega)]
    omega
  refine va_sld hx hb hX hbl (Nat.not_le.mpr hbl) hI.2.2.2.2.2 hin k4 ?_
  rw [e2]
  exact k H locs hI
def lz_nk (pc : Nat) : Bool := decide (decode code pc = .ok (.ifCond .eq 7, 3)) && (decide (decode code (pc + 3) = .ok (.iconst 1, 1)) && (decide (decode code (pc + 3 + 1) = .ok (.goto 4, 3)) && decide (decode code (pc + 7) = .ok (.iconst 0, 1))))
theorem lz_nz (hE : lz_E p s m c b L xs D cI cZ r1 r2 ls i cells slots) (hk : lz_nk pc = true) {v : Int32} (k : lz_J p l e s m below meth c b D cI cZ r1 r2 ls cells slots Q (pc + 8) (.int (rr_b (!decide (v = 0))) :: st) w1 w2) : lz_J p l e s m below meth c b D cI cZ r1 r2 ls cells slots Q pc (.int v :: st) w1 w2 := by
  obtain ⟨hx, hb, hml, hown, hts, hX, hbl, hL, hK, hN, hls, hi, hz1, hz2⟩ := hE
  unfold lz_nk at hk
  simp only [Bool.and_eq_true, decide_eq_true_eq] at hk
  obtain ⟨k0, k1, k2, k3⟩ := hk
  intro H locs hI
  have z := k H locs hI
  refine lv_if_eq hx hb k0 (tgt := pc + 7) (by omega) (fun h => ?_) (fun h => ?_)
  · refine lv_iconst (v := 0) hx hb k3 rfl ?_
    have e : rr_b (!decide (v = 0)) = 0 := by simp [h, rr_b]
    rw [e] at z
    exact z
  · refine lv_iconst (v := 1) hx hb k1 rfl ?_
    refine lv_goto hx hb k2 (tgt := pc + 8) (by omega) ?_
    have e : rr_b (!decide (v = 0)) = 1 := by simp [h, rr_b]
    rw [e] at z
    exact z
theorem lz_eq (hE : lz_E p s m c b L xs D cI cZ r1 r2 ls i cells slots) {off : Int} (hk : rr_bk code pc (.if_icmp .eq off) off 900 = true) {v : Int32} (k : lz_J p l e s m below meth c b D cI cZ r1 r2 ls cells slots Q 900 st w1 w2) : lz_J p l e s m below meth c b D cI cZ r1 r2 ls cells slots Q pc (.int v :: .int v :: st) w1 w2 := by
  obtain ⟨hx, hb, hml, hown, hts, hX, hbl, hL, hK, hN, hls, hi, hz1, hz2⟩ := hE
  intro H locs hI
  exact lv_icmp_eq hx hb (rr_bk.d hk).1 (rr_bk.d hk).2 (fun _ => k H locs hI) (fun h => absurd rfl h)
end LZ
theorem z_R1 {w1 w2 : rr_A} (h : z_R w1 w2) : w1.length = 45 ∧ ∃ fs : List Value, w1[0]? = some (.inr (10, fs)) := by
  obtain ⟨tc, wd, cc, kc, G, len, fa, T, u, dd, D, jk, J, js, v, sn, V, bn, B, hg, hX, hM⟩ := h
  obtain ⟨a, na, wt, q, T1, tb, wb, cb, kb, H, hx, s5, r1, r2, Y, nx, R, I, p8, N, E, V1, e1, -⟩ := hX
  rw [e1]
  exact ⟨Eq.refl 45, _, rfl⟩
theorem z_R2 {w1 w2 : rr_A} (h : z_R w1 w2) : w2.length = 22 ∧ ∃ fs : List Value, w2[0]? = some (.inr (11, fs)) := by
  obtain ⟨tc, wd, cc, kc, G, len, fa, T, u, dd, D, jk, J, js, v, sn, V, bn, B, hg, hX, hM⟩ := h
  obtain ⟨hd, a2, wr, M, e2, -⟩ := hM
  rw [e2]
  exact ⟨Eq.refl 22, _, rfl⟩
theorem z_X_len {w : rr_A} (h : ∃ (tc wd cc kc : Nat) (G : Nat → Nat → Int32) (len : Nat) (fa : Int32) (T : Nat → Int32) (u : p_Q) (dd : Nat) (D : Nat → p_Q) (jk : Nat → Bool) (J : Nat → p_Q) (js : Nat → Int32) (v : Int32) (sn : Nat) (V : Nat → Nat → Int32) (bn : Nat) (B : Nat → Nat → Int32), z_X tc wd cc kc G len fa T u dd D jk J js v sn V bn B w) : w.length = 45 := by
  obtain ⟨tc, wd, cc, kc, G, len, fa, T, u, dd, D, jk, J, js, v, sn, V, bn, B, hX⟩ := h
  obtain ⟨a, na, wt, q, T1, tb, wb, cb, kb, H, hx, s5, r1, r2, Y, nx, R, I, p8, N, E, V1, e1, -⟩ := hX
  rw [e1]
  exact Eq.refl 45
theorem z_M_len {w : rr_A} (h : ∃ (tc wd cc kc : Nat) (G : Nat → Nat → Int32) (len : Nat) (fa : Int32) (T : Nat → Int32) (u : p_Q) (dd : Nat) (D : Nat → p_Q) (jk : Nat → Bool) (J : Nat → p_Q) (js : Nat → Int32) (v : Int32) (sn : Nat) (V : Nat → Nat → Int32) (bn : Nat) (B : Nat → Nat → Int32), z_M tc wd cc kc G len fa T u dd D jk J js v sn V bn B w) : w.length = 22 := by
  obtain ⟨tc, wd, cc, kc, G, len, fa, T, u, dd, D, jk, J, js, v, sn, V, bn, B, hM⟩ := h
  obtain ⟨hd, a2, wr, M, e2, -⟩ := hM
  rw [e2]
  exact Eq.refl 22
