/-! calls whose callee has the caller's whole world, by the same numbers -/
section RI
variable {M M' : rr_M} {d d' mc ms n : Nat} {Z : rr_Z} {nL cells slots : Nat} {Q : State → Prop} {pc idx : Nat} {l : List (Nat × Value)} {st rest : List Value} {w w2 : rr_A} {as : List Value} {ret : Option Int32} {P : Option Int32 → rr_A → Prop}
theorem rr_callI0 (hC : rr_X M d mc ms Z) (hlen : ∀ r w1', P r w1' → w1'.length = w.length) (k : ∀ r w1', P r w1' → rr_J Z nL cells slots Q (pc + 3) l ((r.map Value.int).toList ++ rest) w1')
    (hrun : match Z with
      | (p, lc, e, R, s, m, args, below, meth, c, D, cI, cZ, A, r0, n0) => ∀ (r : Nat → Nat) (H : Heap) (locs : List Loc) (ls : Array Slot), lv_has ls nL (rr_cl r l) → va_P D vwCl (rr_cw cI cZ r w) H → va_D (fun _ => True) (rr_cw cI cZ r w) → va_Run p lc e R s m args below meth c H locs cells slots 0 0 (F0 m pc ls (st.map (rr_cv r))) (rest.map (rr_cv r)) (rr_QP D cI cZ r w.length (rr_Aq r w.length H.size) P ((as.map (rr_cv r)).toArray)) (rr_Aq r w.length H.size)) :
    rr_J Z nL cells slots Q pc l st w := by
  obtain ⟨p, lc, e, R, s, m, args, below, meth, c, D, cI, cZ, A, r0, n0⟩ := Z
  obtain ⟨hx0, hb, hml, hown, hts, hlocks, hret, hname, hK, hN, hA, hR⟩ := hC
  intro r H locs ls hr hP hD hS hl
  have hfree : ∀ q, rr_Aq r w.length H.size q → A q := by
    rintro q (⟨j, hj, e⟩ | h)
    · have h4 := hD.2 j _ (rr_cw_at (List.getElem?_eq_getElem hj))
      rw [e]
      exact h4
    · exact hA q (Nat.le_trans hS.1 h)
  intro T hT X
  obtain ⟨v, st₀, t, T', L, h0, X', hL, e1, e2, ⟨⟨ret, w1', hPr, hv, r1, hr1, hP1, hK1, hN1, hD1⟩, hz, hk1⟩, hst⟩ := hrun r H locs ls hl hP ⟨hD.1, fun _ _ _ => trivial⟩ T hT X
  cases hv
  rw [h0] at hz hk1
  have hlen' := hlen ret w1' hPr
  have er : r1 = r := by
    funext i
    refine hr1 i ?_
    rw [hlen']
    exact Nat.lt_or_ge i w.length
  subst er
  have hS1 : va_S A s.heap T'.heap (locs ++ L) := ⟨Nat.le_trans hS.1 (by rw [e1]; exact hz), fun q g1 g2 => by rw [e1, hk1 q (Nat.lt_of_lt_of_le g1 hS.1) (fun z => g2 (hfree q z))]; exact hS.2.1 q g1 g2, fun q hq => by
      rcases List.mem_append.mp hq with g | g
      · exact hS.2.2 q g
      · exact hfree _ (hL q g)⟩
  have k2 := k ret w1' hPr r1 T'.heap (locs ++ L) ls (by rw [hlen']; exact hr) (by rw [e1]; exact hP1) ⟨hD1.1, fun i q hq => hfree _ (hD1.2 i q hq)⟩ hS1 hl T' rfl X'
  obtain ⟨t2, a1, b1⟩ := k2
  refine ⟨t2, hst t2 ?_, b1⟩
  have es : ((ret.map Value.int).toList ++ rest).map (rr_cv r1) = (ret.map Value.int).toList ++ rest.map (rr_cv r1) := by
    cases ret <;> simp [rr_cv]
  rw [es] at a1
  exact a1
theorem rr_callVPI (hC : rr_X M d mc ms Z) (hk : rr_dk M.2.2.1 pc (.invokevirtual idx) 3 = true) (hl : Jvm.Cond.methodLink (rr_on M.1) idx M'.2.1 ∈ rr_W) (hf : rr_fv M' n) {b : Nat} {fs : List Value} (hM : rr_CP M' d' (.ref b :: as) w 0 0 P) (hd : Nat.blt d' d = true) (hnL : nL = M.2.2.2.1) (hb : w[b]? = some (.inr (M'.1, fs))) (hvw : (vwCl[M'.1]?.map fun q => q.1) = some M'.2.1.cls) (hn : as.length = n) (hst : st = as.reverse ++ .ref b :: rest) (hrest : Nat.ble (rest.map fun v => v.category).sum 8 = true) (hz : cells ≤ mc ∧ slots ≤ ms) (hlen : ∀ r w1', P r w1' → w1'.length = w.length) (k : ∀ r w1', P r w1' → rr_J Z nL cells slots Q (pc + 3) l ((r.map Value.int).toList ++ rest) w1') : rr_J Z nL cells slots Q pc l st w := by
  refine rr_callI0 (as := .ref b :: as) hC hlen k ?_
  obtain ⟨p, lc, e, R, s, m, args, below, meth, c, D, cI, cZ, A, r0, n0⟩ := Z
  obtain ⟨hx0, hbt, hml, hown, hts, hlocks, hret, hname, hK, hN, hA, hR1, hR2, hR3, hR4⟩ := hC
  intro r H locs ls hls hP hDc
  subst hst
  have hcw : (rr_cw cI cZ r w)[b]? = some (r b, .inr (M'.1, fs.map (rr_cv r))) := rr_cw_at hb
  obtain ⟨q, hq, hq2⟩ : ∃ q : vw_C, vwCl[M'.1]? = some q ∧ q.1 = M'.2.1.cls := by
    cases hv : vwCl[M'.1]? with
    | none => rw [hv] at hvw; cases hvw
    | some q => rw [hv] at hvw; exact ⟨q, rfl, Option.some.inj hvw⟩
  have hrecv := va_recv hK hP hq hcw
  rw [hq2] at hrecv
  have key := va_runV (As := as.map (rr_cv r)) (rest := rest.map (rr_cv r)) (g := F0 m pc ls ((as.reverse ++ .ref b :: rest).map (rr_cv r))) (p := p) (e := e) (below := below) (meth := meth) (locs := locs) (cells := cells) (slots := slots) (H := H) (b := r b) (C := M'.2.1.cls) (index := idx) (n := n) (R := R) ⟨hx0, hbt, hml, hown, hts⟩ (hM lc D cI cZ r H.size) ⟨rr_cB hts ⟨hR1, hR2⟩ hd hl hf.1, hts _ hf.2.1, hts _ hf.2.2⟩ ⟨rr_blind, hrecv, fun U hU hW => ⟨rfl, by rw [hU], by rw [hU]; exact hP, va_K.moved hW.alike hK, hN.warm hW, hDc⟩⟩ rfl (by rw [List.length_map]; exact hn) (by rw [← hnL]; exact hls.1) (by
    simp only [List.map_append, List.map_cons, List.map_reverse]
    rfl) (lv_room (by rw [rr_cats]; exact Nat.le_of_ble_eq_true hrest)) (of_decide_eq_true hk) ⟨by omega, by omega⟩
  exact key
theorem rr_callVI (hC : rr_X M d mc ms Z) (hk : rr_dk M.2.2.1 pc (.invokevirtual idx) 3 = true) (hl : Jvm.Cond.methodLink (rr_on M.1) idx M'.2.1 ∈ rr_W) (hf : rr_fv M' n) {b : Nat} {fs : List Value} (hM : rr_C M' d' (.ref b :: as) w 0 0 ret w2) (hd : Nat.blt d' d = true) (hnL : nL = M.2.2.2.1) (hb : w[b]? = some (.inr (M'.1, fs))) (hvw : (vwCl[M'.1]?.map fun q => q.1) = some M'.2.1.cls) (hn : as.length = n) (hst : st = as.reverse ++ .ref b :: rest) (hrest : Nat.ble (rest.map fun v => v.category).sum 8 = true) (hz : cells ≤ mc ∧ slots ≤ ms) (hlen : w2.length = w.length) (k : rr_J Z nL cells slots Q (pc + 3) l ((ret.map Value.int).toList ++ rest) w2) : rr_J Z nL cells slots Q pc l st w :=
  rr_callVPI (P := fun r w' => r = ret ∧ w' = w2) hC hk hl hf (hM.toP ⟨rfl, rfl⟩) hd hnL hb hvw hn hst hrest hz (fun r w1' h => by rw [h.2]; exact hlen) (fun r w1' h => by rw [h.1, h.2]; exact k)
end RI
