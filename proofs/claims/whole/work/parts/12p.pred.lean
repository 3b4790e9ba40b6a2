/-! contracts whose end is told by a predicate of answer and world -/
def rr_QP (D : va_G) (cI cZ : ClassId) (r0 : Nat → Nat) (n0 : Nat) (A : Nat → Prop) (P : Option Int32 → rr_A → Prop) : Array Value → State → Outcome → State → Prop := fun _ st oc t =>
  (∃ (ret : Option Int32) (w' : rr_A), P ret w' ∧ oc = .returned (ret.map Value.int) ∧ ∃ r : Nat → Nat, (∀ i, i < n0 ∨ w'.length ≤ i → r i = r0 i) ∧ rr_At D cI cZ r w' A t) ∧ va_F A st t
def rr_MP (Z : rr_Z) (mc ms : Nat) (P : Option Int32 → rr_A → Prop) : State → Prop := match Z with
  | (p, lc, e, R, s, m, args, below, meth, c, D, cI, cZ, A, r0, n0) => MQ below (rr_QP D cI cZ r0 n0 A P) args s mc ms A
def rr_CP (M : rr_M) (d : Nat) (args : List Value) (w : rr_A) (mc ms : Nat) (P : Option Int32 → rr_A → Prop) : Prop :=
  ∀ (lc : Launch) (D : va_G) (cI cZ : ClassId) (r0 : Nat → Nat) (sz : Nat), Met lc M.2.1 (.code M.2.1 M.2.2.1 M.2.2.2.1 M.2.2.2.2 :: rr_W) (rr_rm d mc ms) (va_Pc (args.map (rr_cv r0)) (fun U => U.heap.size = sz ∧ rr_At D cI cZ r0 w (fun _ => True) U)) (rr_QP D cI cZ r0 w.length (rr_Aq r0 w.length sz) P) mc ms (rr_Aq r0 w.length sz)
theorem rr_CP.of {M : rr_M} {d n : Nat} {args : List Value} {w : rr_A} {mc ms : Nat} {P : Option Int32 → rr_A → Prop} (ho : rr_mo M n) (hn : Nat.ble args.length M.2.2.2.1 = true) (hc : rr_c1 args = true) (k : ∀ Z : rr_Z, rr_X M d mc ms Z → rr_J Z M.2.2.2.1 0 0 (rr_MP Z mc ms P) 0 (rr_la 0 args) [] w) : rr_CP M d args w mc ms P := by
  intro lc D cI cZ r0 sz
  refine Met.ofW (cc := M.2.2.1) (maxL := M.2.2.2.1) (ret := M.2.2.2.2) ho.1 rfl ?_
  intro p e s m args' below meth c s₁ B hml hv
  obtain ⟨rfl, hsz, hP, hK, hN, hD0⟩ := hv
  have hts := atoms_spec (ws := .code M.2.1 M.2.2.1 M.2.2.2.1 M.2.2.2.2 :: rr_W) B.pre
  have hown : s.vm.findClass M.2.1.cls = some m.cls := findClass_of_methodNamed B.named
  subst hsz
  have hl := lv_entry (args.map (rr_cv r0)) (n := M.2.2.2.1) (by rw [rr_c1_len r0 args hc]; exact Nat.le_of_ble_eq_true hn)
  rw [lg_entry_eq]
  generalize (lg_sl (args.map (rr_cv r0)) ++ List.replicate (M.2.2.2.1 - (lg_sl (args.map (rr_cv r0))).length) Slot.unset).toArray = ls at hl ⊢
  rw [rr_la_args r0 0 args hc] at hl
  refine k (p, lc, e, rr_rm d mc ms, s, m, (args.map (rr_cv r0)).toArray, below, meth, c, D, cI, cZ, rr_Aq r0 w.length s.heap.size, r0, w.length) ⟨B.exec, B.bytes, hml, by rw [← ho.2.1]; exact hown, fun w hw => hts w (List.mem_cons_of_mem _ hw), B.notSynchronized, B.returns, (name_of_methodNamed B.named B.method).1, hK, hN, fun q h => Or.inr h, Nat.le_refl _, Nat.le_refl _, Nat.le_refl _, Nat.le_refl _⟩ r0 s.heap [] ls (fun _ _ => rfl) hP (rr_Aq_self hD0) va_S.rf hl
section RP3
variable {M : rr_M} {d mc ms : Nat} {Z : rr_Z} {nL cells slots : Nat} {pc : Nat} {l : List (Nat × Value)} {w : rr_A} {P : Option Int32 → rr_A → Prop}
theorem rr_retiP (hC : rr_X M d mc ms Z) {x : Int32} (hk : (rr_dk M.2.2.1 pc .ireturn 1 && decide (M.2.2.2.2 = some .int)) = true) (hv : P (some x) w) (hz : cells ≤ mc ∧ slots ≤ ms) : rr_J Z nL cells slots (rr_MP Z mc ms P) pc l [.int x] w := by
  obtain ⟨p, lc, e, R, s, m, args, below, meth, c, D, cI, cZ, A, r0, n0⟩ := Z
  obtain ⟨hx0, hb, hml, hown, hts, hlocks, hret, hname, hK, hN, hA, hR⟩ := hC
  rw [Bool.and_eq_true, decide_eq_true_eq] at hk
  intro r H locs ls hr hP hD hS hl
  refine W.widen hz.1 hz.2 ?_
  exact W.iret hx0 hb (hret.trans hk.2) (fun t ht hW => ⟨⟨some x, w, hv, rfl, r, hr, by rw [ht]; exact hP, va_K.moved hW.alike hK, hN.warm hW, hD⟩, hS.F ht⟩) hS.2.2 (of_decide_eq_true hk.1) hlocks
theorem rr_retzP (hC : rr_X M d mc ms Z) {x : Int32} (hk : (rr_dk M.2.2.1 pc .ireturn 1 && decide (M.2.2.2.2 = some .boolean)) = true) (hz1 : x = 0 ∨ x = 1) (hv : P (some x) w) (hz : cells ≤ mc ∧ slots ≤ ms) : rr_J Z nL cells slots (rr_MP Z mc ms P) pc l [.int x] w := by
  obtain ⟨p, lc, e, R, s, m, args, below, meth, c, D, cI, cZ, A, r0, n0⟩ := Z
  obtain ⟨hx0, hb, hml, hown, hts, hlocks, hret, hname, hK, hN, hA, hR⟩ := hC
  rw [Bool.and_eq_true, decide_eq_true_eq] at hk
  intro r H locs ls hr hP hD hS hl
  refine W.widen hz.1 hz.2 ?_
  exact W.zret (ty := .boolean) hx0 hb (hret.trans hk.2) (rr_nb1 hz1).1 (fun t ht hW => ⟨⟨some x, w, hv, rfl, r, hr, by rw [ht]; exact hP, va_K.moved hW.alike hK, hN.warm hW, hD⟩, hS.F ht⟩) hS.2.2 (of_decide_eq_true hk.1) hlocks
theorem rr_retvP (hC : rr_X M d mc ms Z) (hk : (rr_dk M.2.2.1 pc .return_ 1 && decide (M.2.2.2.2 = none)) = true) (hv : P none w) (hz : cells ≤ mc ∧ slots ≤ ms) : rr_J Z nL cells slots (rr_MP Z mc ms P) pc l [] w := by
  obtain ⟨p, lc, e, R, s, m, args, below, meth, c, D, cI, cZ, A, r0, n0⟩ := Z
  obtain ⟨hx0, hb, hml, hown, hts, hlocks, hret, hname, hK, hN, hA, hR⟩ := hC
  rw [Bool.and_eq_true, decide_eq_true_eq] at hk
  intro r H locs ls hr hP hD hS hl
  refine W.widen hz.1 hz.2 ?_
  exact W.vret hx0 hb (hret.trans hk.2) (fun t ht hW => ⟨⟨none, w, hv, rfl, r, hr, by rw [ht]; exact hP, va_K.moved hW.alike hK, hN.warm hW, hD⟩, hS.F ht⟩) hS.2.2 (of_decide_eq_true hk.1) hlocks
end RP3
section RP4
variable {M M' : rr_M} {d d' mc ms n : Nat} {Z : rr_Z} {nL cells slots : Nat} {Q : State → Prop} {pc idx : Nat} {l : List (Nat × Value)} {st rest : List Value} {w w1 : rr_A} {as : List Value} {P : Option Int32 → rr_A → Prop}
theorem rr_callP0 (hC : rr_X M d mc ms Z) (io : List Nat) (hsel : io.map (fun i => w[i]?) = w1.map (fun e => some (rr_re (rr_ka io) e))) (hnd : rr_nd io = true) (hlen : ∀ r w1', P r w1' → w1'.length = w1.length) (k : ∀ r w1', P r w1' → rr_J Z nL cells slots Q (pc + 3) l ((r.map Value.int).toList ++ rest) (rr_pu (rr_ka io) io w1' w))
    (hrun : match Z with
      | (p, lc, e, R, s, m, args, below, meth, c, D, cI, cZ, A, r0, n0) => ∀ (r : Nat → Nat) (H : Heap) (locs : List Loc) (ls : Array Slot), lv_has ls nL (rr_cl r l) → va_P D vwCl (rr_cw cI cZ r w) H → va_P D vwCl (rr_cw cI cZ (fun j => r (rr_ka io j)) w1) H → va_D (fun _ => True) (rr_cw cI cZ (fun j => r (rr_ka io j)) w1) → va_Run p lc e R s m args below meth c H locs cells slots 0 0 (F0 m pc ls (st.map (rr_cv r))) (rest.map (rr_cv r)) (rr_QP D cI cZ (fun j => r (rr_ka io j)) w1.length (rr_Aq (fun j => r (rr_ka io j)) w1.length H.size) P ((as.map (rr_cv (fun j => r (rr_ka io j)))).toArray)) (rr_Aq (fun j => r (rr_ka io j)) w1.length H.size)) :
    rr_J Z nL cells slots Q pc l st w := by
  obtain ⟨p, lc, e, R, s, m, args, below, meth, c, D, cI, cZ, A, r0, n0⟩ := Z
  obtain ⟨hx0, hb, hml, hown, hts, hlocks, hret, hname, hK, hN, hA, hR⟩ := hC
  have hnd' := rr_nd_ok hnd
  intro r H locs ls hr hP hD hS hl
  obtain ⟨hPc, hDc, key⟩ := rr_sub hP hD hsel hnd'
  have hll : io.length = w1.length := by
    have := congrArg List.length hsel
    simpa using this
  have hio : ∀ i ∈ io, i < w.length := by
    intro i hi
    obtain ⟨j, hj⟩ := List.getElem?_of_mem hi
    have hjl : j < w1.length := by rw [← hll]; exact (List.getElem?_eq_some_iff.mp hj).1
    obtain ⟨i2, h1, h2, h3⟩ := key j _ (List.getElem?_eq_getElem hjl)
    have : i = i2 := Option.some.inj (hj.symm.trans h1)
    subst this
    exact (List.getElem?_eq_some_iff.mp h3).1
  have hfree : ∀ q, rr_Aq (fun j => r (rr_ka io j)) w1.length H.size q → A q := by
    rintro q (⟨j, hj, e⟩ | h)
    · obtain ⟨i, h1, h2, h3⟩ := key j _ (List.getElem?_eq_getElem hj)
      have h4 := hD.2 i _ (rr_cw_at h3)
      rw [e]
      show A (r (rr_ka io j))
      rw [h2]
      exact h4
    · exact hA q (Nat.le_trans hS.1 h)
  intro T hT X
  obtain ⟨v, st₀, t, T', L, h0, X', hL, e1, e2, ⟨⟨ret, w1', hPr, hv, r1, hr1, hP1, hK1, hN1, hD1⟩, hz, hk1⟩, hst⟩ := hrun r H locs ls hl hP hPc hDc T hT X
  cases hv
  rw [h0] at hz hk1
  have hlen' := hlen ret w1' hPr
  have er : r1 = fun j => r (rr_ka io j) := by
    funext i
    refine hr1 i ?_
    rw [hlen']
    exact Nat.lt_or_ge i w1.length
  subst er
  have hq := rr_back (w1' := w1') (H1 := T'.heap) hP hD hnd' (by rw [hlen', hll]) hio (fun q a b => by rw [e1]; exact hk1 q a (by rw [← hll]; exact b)) (by rw [e1]; exact hP1) (A1 := A)
  have hS1 : va_S A s.heap T'.heap (locs ++ L) := ⟨Nat.le_trans hS.1 (by rw [e1]; exact hz), fun q g1 g2 => by rw [e1, hk1 q (Nat.lt_of_lt_of_le g1 hS.1) (fun z => g2 (hfree q z))]; exact hS.2.1 q g1 g2, fun q hq => by
      rcases List.mem_append.mp hq with g | g
      · exact hS.2.2 q g
      · exact hfree _ (hL q g)⟩
  have k2 := k ret w1' hPr r T'.heap (locs ++ L) ls (by rw [rr_pu_len]; exact hr) hq.1 hq.2 hS1 hl T' rfl X'
  obtain ⟨t2, a1, b1⟩ := k2
  refine ⟨t2, hst t2 ?_, b1⟩
  have es : ((ret.map Value.int).toList ++ rest).map (rr_cv r) = (ret.map Value.int).toList ++ rest.map (rr_cv r) := by
    cases ret <;> simp [rr_cv]
  rw [es] at a1
  exact a1
theorem rr_callVP (hC : rr_X M d mc ms Z) (hk : rr_dk M.2.2.1 pc (.invokevirtual idx) 3 = true) (hl : Jvm.Cond.methodLink (rr_on M.1) idx M'.2.1 ∈ rr_W) (hf : rr_fv M' n) {b : Nat} {fs : List Value} (hM : rr_CP M' d' (.ref b :: as) w1 0 0 P) (hd : Nat.blt d' d = true) (hnL : nL = M.2.2.2.1) (io : List Nat) (hsel : io.map (fun i => w[i]?) = w1.map (fun e => some (rr_re (rr_ka io) e))) (hnd : rr_nd io = true) (hb : w1[b]? = some (.inr (M'.1, fs))) (hvw : (vwCl[M'.1]?.map fun q => q.1) = some M'.2.1.cls) (hn : as.length = n) (hst : st = (as.map (rr_cv (rr_ka io))).reverse ++ .ref (rr_ka io b) :: rest) (hrest : Nat.ble (rest.map fun v => v.category).sum 8 = true) (hz : cells ≤ mc ∧ slots ≤ ms) (hlen : ∀ r w1', P r w1' → w1'.length = w1.length) (k : ∀ r w1', P r w1' → rr_J Z nL cells slots Q (pc + 3) l ((r.map Value.int).toList ++ rest) (rr_pu (rr_ka io) io w1' w)) : rr_J Z nL cells slots Q pc l st w := by
  refine rr_callP0 (as := .ref b :: as) hC io hsel hnd hlen k ?_
  obtain ⟨p, lc, e, R, s, m, args, below, meth, c, D, cI, cZ, A, r0, n0⟩ := Z
  obtain ⟨hx0, hbt, hml, hown, hts, hlocks, hret, hname, hK, hN, hA, hR1, hR2, hR3, hR4⟩ := hC
  intro r H locs ls hls hP hPc hDc
  subst hst
  have hcw : (rr_cw cI cZ (fun j => r (rr_ka io j)) w1)[b]? = some (r (rr_ka io b), .inr (M'.1, fs.map (rr_cv (fun j => r (rr_ka io j))))) := rr_cw_at hb
  obtain ⟨q, hq, hq2⟩ : ∃ q : vw_C, vwCl[M'.1]? = some q ∧ q.1 = M'.2.1.cls := by
    cases hv : vwCl[M'.1]? with
    | none => rw [hv] at hvw; cases hvw
    | some q => rw [hv] at hvw; exact ⟨q, rfl, Option.some.inj hvw⟩
  have hrecv := va_recv hK hPc hq hcw
  rw [hq2] at hrecv
  have key := va_runV (As := as.map (rr_cv (fun j => r (rr_ka io j)))) (rest := rest.map (rr_cv r)) (g := F0 m pc ls (((as.map (rr_cv (rr_ka io))).reverse ++ .ref (rr_ka io b) :: rest).map (rr_cv r))) (p := p) (e := e) (below := below) (meth := meth) (locs := locs) (cells := cells) (slots := slots) (H := H) (b := r (rr_ka io b)) (C := M'.2.1.cls) (index := idx) (n := n) (R := R) ⟨hx0, hbt, hml, hown, hts⟩ (hM lc D cI cZ (fun j => r (rr_ka io j)) H.size) ⟨rr_cB hts ⟨hR1, hR2⟩ hd hl hf.1, hts _ hf.2.1, hts _ hf.2.2⟩ ⟨rr_blind, hrecv, fun U hU hW => ⟨rfl, by rw [hU], by rw [hU]; exact hPc, va_K.moved hW.alike hK, hN.warm hW, hDc⟩⟩ rfl (by rw [List.length_map]; exact hn) (by rw [← hnL]; exact hls.1) (by
    simp only [List.map_append, List.map_cons, List.map_reverse, List.map_map]
    congr 2
    apply List.map_congr_left
    intro v _
    exact rr_cv_cv r (rr_ka io) v) (lv_room (by rw [rr_cats]; exact Nat.le_of_ble_eq_true hrest)) (of_decide_eq_true hk) ⟨by omega, by omega⟩
  exact key
end RP4
