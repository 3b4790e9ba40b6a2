/-! static calls by predicates; contracts weakened; the Sand's state as one value -/
theorem rr_mono {l : Launch} {y : MethodName} {ws : List Cond} {rm : Room} {Pc : Array Value → State → Prop} {Qc Qc' : Array Value → State → Outcome → State → Prop} {mc ms : Nat} {free : Addr → Prop} (h : Met l y ws rm Pc Qc mc ms free) (hq : ∀ a st o t, Qc a st o t → Qc' a st o t) : Met l y ws rm Pc Qc' mc ms free := by
  intro p e ha hc hk s m args below hf happ hP hK
  obtain ⟨n, o, h1, h2, h3, h4⟩ := h p e ha hc hk s m args below hf happ hP hK
  exact ⟨n, o, h1, h2, h3, hq _ _ _ _ h4.1, h4.2⟩
theorem rr_C.toP {M : rr_M} {d : Nat} {args : List Value} {w w' : rr_A} {mc ms : Nat} {ret : Option Int32} {P : Option Int32 → rr_A → Prop} (h : rr_C M d args w mc ms ret w') (hP : P ret w') : rr_CP M d args w mc ms P := by
  intro lc D cI cZ r0 sz
  exact rr_mono (h lc D cI cZ r0 sz) (fun _ _ _ _ h => ⟨⟨ret, w', hP, h.1⟩, h.2⟩)
theorem rr_CP.imp {M : rr_M} {d : Nat} {args : List Value} {w : rr_A} {mc ms : Nat} {P P' : Option Int32 → rr_A → Prop} (h : rr_CP M d args w mc ms P) (hP : ∀ r w', P r w' → P' r w') : rr_CP M d args w mc ms P' := by
  intro lc D cI cZ r0 sz
  exact rr_mono (h lc D cI cZ r0 sz) (fun _ _ _ _ h => by
    obtain ⟨⟨ret, w', h1, h2⟩, h3⟩ := h
    exact ⟨⟨ret, w', hP _ _ h1, h2⟩, h3⟩)
section RP5
variable {M M' : rr_M} {d d' mc ms n : Nat} {Z : rr_Z} {nL cells slots : Nat} {Q : State → Prop} {pc idx : Nat} {l : List (Nat × Value)} {st rest : List Value} {w w1 : rr_A} {as : List Value} {P : Option Int32 → rr_A → Prop}
theorem rr_callSP (hC : rr_X M d mc ms Z) (hk : rr_dk M.2.2.1 pc (.invokestatic idx) 3 = true) (hl : Jvm.Cond.methodLink (rr_on M.1) idx M'.2.1 ∈ rr_W) (hf : rr_fs M' n) (hM : rr_CP M' d' as w1 0 0 P) (hd : Nat.blt d' d = true) (hnL : nL = M.2.2.2.1) (io : List Nat) (hsel : io.map (fun i => w[i]?) = w1.map (fun e => some (rr_re (rr_ka io) e))) (hnd : rr_nd io = true) (hn : as.length = n) (hst : st = (as.map (rr_cv (rr_ka io))).reverse ++ rest) (hrest : Nat.ble (rest.map fun v => v.category).sum 8 = true) (hz : cells ≤ mc ∧ slots ≤ ms) (hlen : ∀ r w1', P r w1' → w1'.length = w1.length) (k : ∀ r w1', P r w1' → rr_J Z nL cells slots Q (pc + 3) l ((r.map Value.int).toList ++ rest) (rr_pu (rr_ka io) io w1' w)) : rr_J Z nL cells slots Q pc l st w := by
  refine rr_callP0 (as := as) hC io hsel hnd hlen k ?_
  obtain ⟨p, lc, e, R, s, m, args, below, meth, c, D, cI, cZ, A, r0, n0⟩ := Z
  obtain ⟨hx0, hbt, hml, hown, hts, hlocks, hret, hname, hK, hN, hA, hR1, hR2, hR3, hR4⟩ := hC
  intro r H locs ls hls hP hPc hDc
  subst hst
  have key := va_runS (As := as.map (rr_cv (fun j => r (rr_ka io j)))) (rest := rest.map (rr_cv r)) (g := F0 m pc ls (((as.map (rr_cv (rr_ka io))).reverse ++ rest).map (rr_cv r))) (p := p) (e := e) (below := below) (meth := meth) (locs := locs) (cells := cells) (slots := slots) (H := H) (index := idx) (n := n) (R := R) ⟨hx0, hbt, hml, hown, hts⟩ (hM lc D cI cZ (fun j => r (rr_ka io j)) H.size) ⟨rr_cB hts ⟨hR1, hR2⟩ hd hl hf.1, hts _ hf.2⟩ ⟨rr_blind, fun U hU hW => ⟨rfl, by rw [hU], by rw [hU]; exact hPc, va_K.moved hW.alike hK, hN.warm hW, hDc⟩⟩ rfl (by rw [List.length_map]; exact hn) (by rw [← hnL]; exact hls.1) (by
    simp only [List.map_append, List.map_reverse, List.map_map]
    congr 2
    apply List.map_congr_left
    intro v _
    exact rr_cv_cv r (rr_ka io) v) (lv_room (by rw [rr_cats]; exact Nat.le_of_ble_eq_true hrest)) (of_decide_eq_true hk) ⟨by omega, by omega⟩
  exact key
end RP5
theorem c6_passQ (q : p_Q) (tc wd cc kc : Nat) (G : Nat → Nat → Int32) (htc : tc ≤ 12) (hcc : cc ≤ 9) (hkc : kc ≤ 6) (hh9 : q.1 < 99999) (hok : p_ok q.2.2.2.2 cc kc) : rr_C mX6_passHour 3 [.ref 0] (W_S (sv4 (nI q.1) q.2.1 q.2.2.1 q.2.2.2.1) q.2.2.2.2 (gv tc wd cc kc) G) 0 0 none (W_S (sv4 (nI (p_pass G tc wd kc q).1) (p_pass G tc wd kc q).2.1 (p_pass G tc wd kc q).2.2.1 (p_pass G tc wd kc q).2.2.2.1) (p_pass G tc wd kc q).2.2.2.2 (gv tc wd cc kc) G) := c6_passHour q.1 q.2.1 q.2.2.1 q.2.2.2.1 q.2.2.2.2 tc wd cc kc G htc hcc hkc hh9 hok
/-- a set's bits, clause by clause -/
def p_T0 : Nat → Nat → Int32 := fun _ _ => 0
theorem p_fs_T (G : Nat → Nat → Int32) (tc wd cc kc b : Nat) (hkc : kc ≤ 6) (T : Nat → Nat → Int32) (h : Nat) : p_fs (p_it G tc wd kc (p_layq G cc kc b T) h).2.2.2.2 G kc = p_fs (p_it G tc wd kc (p_layq G cc kc b p_T0) h).2.2.2.2 G kc := ((p_layq_ag G cc kc b T p_T0).it G tc wd hkc h).2.2.2.2.fs G hkc
/-- in force h hours behind begin b -/
def p_fo (G : Nat → Nat → Int32) (tc wd cc kc b h : Nat) : Int32 := p_fs (p_it G tc wd kc (p_layq G cc kc b p_T0) h).2.2.2.2 G kc
theorem p_l1 {L h : Nat} (hL : L < 1000) (hh : h < 1000) : nI L - 1 < nI h ↔ L ≤ h := by
  rw [Int32.lt_iff_toInt_lt, show (1 : Int32) = nI 1 from rfl, pk_sub_toInt (by omega) (by omega), nI_toInt (by omega)]
  omega
