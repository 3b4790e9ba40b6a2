/-! calls: the callee's world is some cells of the caller's, by their numbers (io) -/
/-- the callee's number j is the caller's io[j]; beyond io it names the caller's cell j - io.length -/
def rr_ka (io : List Nat) (j : Nat) : Nat := match io[j]? with
  | some i => i
  | none => j - io.length
def rr_re (k : Nat → Nat) (e : rr_E) : rr_E := match e with
  | .inl a => .inl a
  | .inr o => .inr (o.1, o.2.map (rr_cv k))
def rr_pu (k : Nat → Nat) (io : List Nat) (es : List rr_E) (w : rr_A) : rr_A := match io, es with
  | i :: io, e :: es => rr_pu k io es (w.set i (rr_re k e))
  | _, _ => w
theorem rr_cv_cv (r k : Nat → Nat) (v : Value) : rr_cv r (rr_cv k v) = rr_cv (fun j => r (k j)) v := by cases v <;> rfl
theorem rr_ce_re (cI cZ : ClassId) (r k : Nat → Nat) (e : rr_E) : rr_ce cI cZ r (rr_re k e) = rr_ce cI cZ (fun j => r (k j)) e := by
  cases e with
  | inl a => rfl
  | inr o =>
    simp only [rr_re, rr_ce, List.map_map]
    congr 2
    apply List.map_congr_left
    intro v _
    exact rr_cv_cv r k v
theorem rr_pu_len (k : Nat → Nat) (io : List Nat) (es : List rr_E) (w : rr_A) : (rr_pu k io es w).length = w.length := by
  induction io generalizing es w with
  | nil => rfl
  | cons i io ih =>
    cases es with
    | nil => rfl
    | cons e es =>
      show (rr_pu k io es _).length = _
      rw [ih, List.length_set]
theorem rr_pu_out (k : Nat → Nat) (io : List Nat) (es : List rr_E) (w : rr_A) (i : Nat) (h : i ∉ io) : (rr_pu k io es w)[i]? = w[i]? := by
  induction io generalizing es w with
  | nil => rfl
  | cons i' io ih =>
    cases es with
    | nil => rfl
    | cons e es =>
      show (rr_pu k io es _)[i]? = _
      rw [ih _ _ (fun q => h (List.mem_cons_of_mem _ q)), List.getElem?_set, if_neg]
      intro q
      exact h (by rw [q]; exact List.mem_cons_self)
theorem rr_pu_in (k : Nat → Nat) (io : List Nat) (es : List rr_E) (w : rr_A) (hn : io.Nodup) (j i : Nat) (e : rr_E) (hj : io[j]? = some i) (he : es[j]? = some e) (hi : i < w.length) : (rr_pu k io es w)[i]? = some (rr_re k e) := by
  induction io generalizing es w j with
  | nil => simp at hj
  | cons i' io ih =>
    cases es with
    | nil => simp at he
    | cons e' es =>
      show (rr_pu k io es _)[i]? = _
      obtain ⟨hn1, hn2⟩ := List.nodup_cons.mp hn
      cases j with
      | zero =>
        simp at hj he
        subst hj
        subst he
        rw [rr_pu_out _ _ _ _ _ hn1, List.getElem?_set]
        simp [hi]
      | succ j =>
        simp at hj he
        exact ih es _ hn2 j hj he (by rw [List.length_set]; exact hi)
def rr_nd (io : List Nat) : Bool := match io with
  | [] => true
  | i :: io => !(io.elem i) && rr_nd io
theorem rr_nd_ok {io : List Nat} (h : rr_nd io = true) : io.Nodup := by
  induction io with
  | nil => exact List.nodup_nil
  | cons i io ih =>
    simp only [rr_nd, Bool.and_eq_true, Bool.not_eq_true'] at h
    refine List.nodup_cons.mpr ⟨fun q => ?_, ih h.2⟩
    have := List.elem_iff.mpr q
    rw [this] at h
    cases h.1
theorem rr_nd_inj {io : List Nat} (h : io.Nodup) {i j a : Nat} (hi : io[i]? = some a) (hj : io[j]? = some a) : i = j := by
  induction io generalizing i j with
  | nil => simp at hi
  | cons x io ih =>
    obtain ⟨h1, h2⟩ := List.nodup_cons.mp h
    cases i with
    | zero =>
      cases j with
      | zero => rfl
      | succ j =>
        simp at hi hj
        subst hi
        exact absurd (List.mem_of_getElem? hj) h1
    | succ i =>
      cases j with
      | zero =>
        simp at hi hj
        subst hj
        exact absurd (List.mem_of_getElem? hi) h1
      | succ j =>
        simp at hi hj
        rw [ih h2 hi hj]
section RR4
variable {M M' : rr_M} {d d' mc ms n : Nat} {Z : rr_Z} {nL cells slots : Nat} {Q : State → Prop} {pc idx : Nat} {l : List (Nat × Value)} {st rest : List Value} {w w2 w1 w1' : rr_A} {as : List Value} {ret : Option Int32}
/-- the callee's start, at the caller's cells -/
theorem rr_sub {D : va_G} {cI cZ : ClassId} {A : Nat → Prop} {r : Nat → Nat} {H : Heap} {io : List Nat} (hP : va_P D vwCl (rr_cw cI cZ r w) H) (hD : va_D A (rr_cw cI cZ r w)) (hsel : io.map (fun i => w[i]?) = w1.map (fun e => some (rr_re (rr_ka io) e))) (hnd : io.Nodup) :
    va_P D vwCl (rr_cw cI cZ (fun j => r (rr_ka io j)) w1) H ∧ va_D (fun _ => True) (rr_cw cI cZ (fun j => r (rr_ka io j)) w1) ∧ (∀ j e, w1[j]? = some e → ∃ i, io[j]? = some i ∧ rr_ka io j = i ∧ w[i]? = some (rr_re (rr_ka io) e)) := by
  have key : ∀ j e, w1[j]? = some e → ∃ i, io[j]? = some i ∧ rr_ka io j = i ∧ w[i]? = some (rr_re (rr_ka io) e) := by
    intro j e hj
    have h1 : (io.map (fun i => w[i]?))[j]? = some (some (rr_re (rr_ka io) e)) := by rw [hsel, List.getElem?_map, hj]; rfl
    rw [List.getElem?_map] at h1
    cases hi : io[j]? with
    | none => rw [hi] at h1; cases h1
    | some i =>
      rw [hi] at h1
      exact ⟨i, rfl, by simp [rr_ka, hi], Option.some.inj h1⟩
  refine ⟨fun j q hq => ?_, ⟨fun i j p q hp hq hpq => ?_, fun _ _ _ => trivial⟩, key⟩
  · rw [rr_cw_get] at hq
    cases hj : w1[j]? with
    | none => rw [hj] at hq; cases hq
    | some e =>
      rw [hj] at hq
      cases hq
      obtain ⟨i, h1, h2, h3⟩ := key j e hj
      have h4 := hP i _ (rr_cw_at h3)
      rw [rr_ce_re] at h4
      show va_at D vwCl (r (rr_ka io j), _) H
      rw [h2]
      exact h4
  · rw [rr_cw_get] at hp hq
    cases hi : w1[i]? with
    | none => rw [hi] at hp; cases hp
    | some e1 =>
      cases hj : w1[j]? with
      | none => rw [hj] at hq; cases hq
      | some e2 =>
        rw [hi] at hp
        rw [hj] at hq
        cases hp
        cases hq
        obtain ⟨i1, a1, a2, a3⟩ := key i e1 hi
        obtain ⟨j1, b1, b2, b3⟩ := key j e2 hj
        have h5 := hD.1 i1 j1 _ _ (rr_cw_at a3) (rr_cw_at b3) (by
          show r i1 = r j1
          rw [← a2, ← b2]; exact hpq)
        subst h5
        exact rr_nd_inj hnd a1 b1
/-- the callee's end, put back -/
theorem rr_back {D : va_G} {cI cZ : ClassId} {A A1 : Nat → Prop} {r : Nat → Nat} {H H1 : Heap} {io : List Nat} (hP : va_P D vwCl (rr_cw cI cZ r w) H) (hD : va_D A (rr_cw cI cZ r w)) (hnd : io.Nodup) (hlen : w1'.length = io.length) (hio : ∀ i ∈ io, i < w.length) (hk : ∀ q : Nat, q < H.size → ¬ rr_Aq (fun j => r (rr_ka io j)) io.length H.size q → H1[q]? = H[q]?) (hP1 : va_P D vwCl (rr_cw cI cZ (fun j => r (rr_ka io j)) w1') H1) :
    va_P D vwCl (rr_cw cI cZ r (rr_pu (rr_ka io) io w1' w)) H1 ∧ va_D A (rr_cw cI cZ r (rr_pu (rr_ka io) io w1' w)) := by
  have hat : ∀ j i, io[j]? = some i → rr_ka io j = i := fun j i h => by simp [rr_ka, h]
  refine ⟨fun i q hq => ?_, ⟨fun i j p q hp hq hpq => ?_, fun i q hq => ?_⟩⟩
  · have hlt := (List.getElem?_eq_some_iff.mp hq).1
    rw [rr_cw_len, rr_pu_len] at hlt
    rw [rr_cw_get] at hq
    by_cases hi : i ∈ io
    · obtain ⟨j, hj⟩ := List.getElem?_of_mem hi
      have hjl : j < w1'.length := by rw [hlen]; exact (List.getElem?_eq_some_iff.mp hj).1
      have he : w1'[j]? = some w1'[j] := List.getElem?_eq_getElem hjl
      rw [rr_pu_in _ _ _ _ hnd j i _ hj he hlt] at hq
      cases hq
      have h4 := hP1 j _ (rr_cw_at he)
      show va_at D vwCl (r i, rr_ce cI cZ r (rr_re (rr_ka io) w1'[j])) H1
      rw [rr_ce_re, ← hat j i hj]
      exact h4
    · rw [rr_pu_out _ _ _ _ _ hi, List.getElem?_eq_getElem hlt] at hq
      cases hq
      have h4 := hP i _ (rr_cw_at (List.getElem?_eq_getElem hlt))
      refine h4.kept (hk _ h4.lt ?_)
      rintro (⟨j, hj, e⟩ | h)
      · have hj2 : io[j]? = some io[j] := List.getElem?_eq_getElem hj
        have h5 : r i = r io[j] := by
          have e' : r i = r (rr_ka io j) := e
          rw [hat j _ hj2] at e'
          exact e'
        have h6 := hio io[j] (List.getElem_mem hj)
        have h7 := hD.1 i io[j] _ _ (rr_cw_at (List.getElem?_eq_getElem hlt)) (rr_cw_at (List.getElem?_eq_getElem h6)) h5
        exact hi (by rw [h7]; exact List.getElem_mem hj)
      · have h6 : r i < H.size := h4.lt
        have h7 : H.size ≤ r i := h
        omega
  · have hi := (List.getElem?_eq_some_iff.mp hp).1
    have hj := (List.getElem?_eq_some_iff.mp hq).1
    rw [rr_cw_len, rr_pu_len] at hi hj
    rw [rr_cw_get] at hp hq
    have e1 : p.1 = r i := by
      cases hx : (rr_pu (rr_ka io) io w1' w)[i]? with
      | none => rw [hx] at hp; cases hp
      | some e => rw [hx] at hp; cases hp; rfl
    have e2 : q.1 = r j := by
      cases hx : (rr_pu (rr_ka io) io w1' w)[j]? with
      | none => rw [hx] at hq; cases hq
      | some e => rw [hx] at hq; cases hq; rfl
    exact hD.1 i j _ _ (rr_cw_at (List.getElem?_eq_getElem hi)) (rr_cw_at (List.getElem?_eq_getElem hj)) (by show r i = r j; rw [← e1, ← e2]; exact hpq)
  · have hi := (List.getElem?_eq_some_iff.mp hq).1
    rw [rr_cw_len, rr_pu_len] at hi
    rw [rr_cw_get] at hq
    cases hx : (rr_pu (rr_ka io) io w1' w)[i]? with
    | none => rw [hx] at hq; cases hq
    | some e =>
      rw [hx] at hq
      cases hq
      have h9 := hD.2 i _ (rr_cw_at (List.getElem?_eq_getElem hi))
      exact h9
theorem rr_blind {D : va_G} {cI cZ : ClassId} {r : Nat → Nat} {sz : Nat} {av : List Value} : FrameBlind (va_Pc av (fun U => U.heap.size = sz ∧ rr_At D cI cZ r w1 (fun _ => True) U)) := by
  intro a U g mk q
  obtain ⟨q0, q1, qP, qK, qN, qD⟩ := q
  exact ⟨q0, q1, qP, va_K.moved (u := U) (U := U.calling g mk a) (Vm.Alike.refl U.vm) qK, fun x hx => va_Nw.same (u := U) (U := U.calling g mk a) rfl rfl (qN x hx), qD⟩
theorem rr_cats (r : Nat → Nat) (st : List Value) : ((st.map (rr_cv r)).map fun v => v.category).sum = (st.map fun v => v.category).sum := by
  rw [List.map_map]
  congr 1
  apply List.map_congr_left
  intro v _
  exact rr_cv_cat r v
/-- the common core of all calls that make no cells -/
theorem rr_call0 (hC : rr_X M d mc ms Z) (io : List Nat) (hsel : io.map (fun i => w[i]?) = w1.map (fun e => some (rr_re (rr_ka io) e))) (hnd : rr_nd io = true) (hlen : w1'.length = w1.length) (hput : rr_pu (rr_ka io) io w1' w = w2) (k : rr_J Z nL cells slots Q (pc + 3) l ((ret.map Value.int).toList ++ rest) w2)
    (hrun : match Z with
      | (p, lc, e, R, s, m, args, below, meth, c, D, cI, cZ, A, r0, n0) => ∀ (r : Nat → Nat) (H : Heap) (locs : List Loc) (ls : Array Slot), lv_has ls nL (rr_cl r l) → va_P D vwCl (rr_cw cI cZ r w) H → va_P D vwCl (rr_cw cI cZ (fun j => r (rr_ka io j)) w1) H → va_D (fun _ => True) (rr_cw cI cZ (fun j => r (rr_ka io j)) w1) → va_Run p lc e R s m args below meth c H locs cells slots 0 0 (F0 m pc ls (st.map (rr_cv r))) (rest.map (rr_cv r)) (rr_Qc D cI cZ (fun j => r (rr_ka io j)) w1.length (rr_Aq (fun j => r (rr_ka io j)) w1.length H.size) ret w1' ((as.map (rr_cv (fun j => r (rr_ka io j)))).toArray)) (rr_Aq (fun j => r (rr_ka io j)) w1.length H.size)) :
    rr_J Z nL cells slots Q pc l st w := by
  obtain ⟨p, lc, e, R, s, m, args, below, meth, c, D, cI, cZ, A, r0, n0⟩ := Z
  obtain ⟨hx0, hb, hml, hown, hts, hlocks, hret, hname, hK, hN, hA, hR⟩ := hC
  have hnd' := rr_nd_ok hnd
  subst hput
  intro r H locs ls hr hP hD hS hl
  obtain ⟨hPc, hDc, key⟩ := rr_sub hP hD hsel hnd'
  have hll : io.length = w1.length := by
    have := congrArg List.length hsel
    simpa using this
  have hio : ∀ i ∈ io, i < w.length := by
    intro i hi
    obtain ⟨j, hj⟩ := List.getElem?_of_mem hi
    have hjl : j < w1.length := by rw [← hll]; exact (List.getElem?_eq_some_iff.mp hj).1
    obtain ⟨i2, h1, h2, h3⟩ := key j _ (List.getElem?_eq_getElem hjl)
    have : i = i2 := Option.some.inj (hj.symm.trans h1)
    subst this
    exact (List.getElem?_eq_some_iff.mp h3).1
  have hfree : ∀ q, rr_Aq (fun j => r (rr_ka io j)) w1.length H.size q → A q := by
    rintro q (⟨j, hj, e⟩ | h)
    · obtain ⟨i, h1, h2, h3⟩ := key j _ (List.getElem?_eq_getElem hj)
      have h4 := hD.2 i _ (rr_cw_at h3)
      rw [e]
      show A (r (rr_ka io j))
      rw [h2]
      exact h4
    · exact hA q (Nat.le_trans hS.1 h)
  intro T hT X
  obtain ⟨v, st₀, t, T', L, h0, X', hL, e1, e2, ⟨⟨hv, r1, hr1, hP1, hK1, hN1, hD1⟩, hz, hk1⟩, hst⟩ := hrun r H locs ls hl hP hPc hDc T hT X
  cases hv
  rw [h0] at hz hk1
  have er : r1 = fun j => r (rr_ka io j) := by
    funext i
    refine hr1 i ?_
    rw [hlen]
    exact Nat.lt_or_ge i w1.length
  subst er
  have hq := rr_back (w1' := w1') (H1 := T'.heap) hP hD hnd' (by rw [hlen, hll]) hio (fun q a b => by rw [e1]; exact hk1 q a (by rw [← hll]; exact b)) (by rw [e1]; exact hP1) (A1 := A)
  have hS1 : va_S A s.heap T'.heap (locs ++ L) := ⟨Nat.le_trans hS.1 (by rw [e1]; exact hz), fun q g1 g2 => by rw [e1, hk1 q (Nat.lt_of_lt_of_le g1 hS.1) (fun z => g2 (hfree q z))]; exact hS.2.1 q g1 g2, fun q hq => by
      rcases List.mem_append.mp hq with g | g
      · exact hS.2.2 q g
      · exact hfree _ (hL q g)⟩
  have k2 := k r T'.heap (locs ++ L) ls (by rw [rr_pu_len]; exact hr) hq.1 hq.2 hS1 hl T' rfl X'
  obtain ⟨t2, a1, b1⟩ := k2
  refine ⟨t2, hst t2 ?_, b1⟩
  have es : ((ret.map Value.int).toList ++ rest).map (rr_cv r) = (ret.map Value.int).toList ++ rest.map (rr_cv r) := by
    cases ret <;> simp [rr_cv]
  rw [es] at a1
  exact a1
def rr_fv (M' : rr_M) (n : Nat) : Prop := rr_mo M' n ∧ Jvm.Cond.instanceMethod M'.2.1 ∈ rr_W ∧ Jvm.Cond.selects M'.2.1.cls M'.2.1 M'.2.1 ∈ rr_W
def rr_fs (M' : rr_M) (n : Nat) : Prop := rr_mo M' n ∧ Jvm.Cond.static M'.2.1 ∈ rr_W
/-- room, words and the rest that a call wants -/
theorem rr_cB {R : Room} {s : State} {args : Array Value} (hts : ∀ w ∈ rr_W, w.before args s = true) (hR : d ≤ R.frames ∧ 64 * d ≤ R.locals) (hd : Nat.blt d' d = true) (hl : Jvm.Cond.methodLink (rr_on M.1) idx M'.2.1 ∈ rr_W) (hf : rr_mo M' n) : CallB R s args (rr_on M.1) idx M'.2.1 M'.2.2.1 M'.2.2.2.1 M'.2.2.2.2 (.code M'.2.1 M'.2.2.1 M'.2.2.2.1 M'.2.2.2.2 :: rr_W) (rr_rm d' 0 0) 0 0 n := by
  obtain ⟨h1, h2, h3, h4, h5, h6⟩ := hf
  have hd' : d' < d := by simpa using hd
  exact callB_of n hts (rr_good1 h3) rfl rfl rfl (hts _ h4) (hts _ hl) h5 ⟨by show d' + 1 ≤ _; omega, by show 8 + (M'.2.2.2.1 + 11) + 64 * d' ≤ _; omega⟩
theorem rr_callV (hC : rr_X M d mc ms Z) (hk : rr_dk M.2.2.1 pc (.invokevirtual idx) 3 = true) (hl : Jvm.Cond.methodLink (rr_on M.1) idx M'.2.1 ∈ rr_W) (hf : rr_fv M' n) {b : Nat} {fs : List Value} (hM : rr_C M' d' (.ref b :: as) w1 0 0 ret w1') (hd : Nat.blt d' d = true) (hnL : nL = M.2.2.2.1) (io : List Nat) (hsel : io.map (fun i => w[i]?) = w1.map (fun e => some (rr_re (rr_ka io) e))) (hnd : rr_nd io = true) (hlen : w1'.length = w1.length) (hb : w1[b]? = some (.inr (M'.1, fs))) (hvw : (vwCl[M'.1]?.map fun q => q.1) = some M'.2.1.cls) (hn : as.length = n) (hst : st = (as.map (rr_cv (rr_ka io))).reverse ++ .ref (rr_ka io b) :: rest) (hrest : Nat.ble (rest.map fun v => v.category).sum 8 = true) (hz : cells ≤ mc ∧ slots ≤ ms) (hput : rr_pu (rr_ka io) io w1' w = w2) (k : rr_J Z nL cells slots Q (pc + 3) l ((ret.map Value.int).toList ++ rest) w2) : rr_J Z nL cells slots Q pc l st w := by
  refine rr_call0 (as := .ref b :: as) hC io hsel hnd hlen hput k ?_
  obtain ⟨p, lc, e, R, s, m, args, below, meth, c, D, cI, cZ, A, r0, n0⟩ := Z
  obtain ⟨hx0, hbt, hml, hown, hts, hlocks, hret, hname, hK, hN, hA, hR1, hR2, hR3, hR4⟩ := hC
  intro r H locs ls hls hP hPc hDc
  subst hst
  have hcw : (rr_cw cI cZ (fun j => r (rr_ka io j)) w1)[b]? = some (r (rr_ka io b), .inr (M'.1, fs.map (rr_cv (fun j => r (rr_ka io j))))) := rr_cw_at hb
  obtain ⟨q, hq, hq2⟩ : ∃ q : vw_C, vwCl[M'.1]? = some q ∧ q.1 = M'.2.1.cls := by
    cases hv : vwCl[M'.1]? with
    | none => rw [hv] at hvw; cases hvw
    | some q => rw [hv] at hvw; exact ⟨q, rfl, Option.some.inj hvw⟩
  have hrecv := va_recv hK hPc hq hcw
  rw [hq2] at hrecv
  have key := va_runV (As := as.map (rr_cv (fun j => r (rr_ka io j)))) (rest := rest.map (rr_cv r)) (g := F0 m pc ls (((as.map (rr_cv (rr_ka io))).reverse ++ .ref (rr_ka io b) :: rest).map (rr_cv r))) (p := p) (e := e) (below := below) (meth := meth) (locs := locs) (cells := cells) (slots := slots) (H := H) (b := r (rr_ka io b)) (C := M'.2.1.cls) (index := idx) (n := n) (R := R) ⟨hx0, hbt, hml, hown, hts⟩ (hM lc D cI cZ (fun j => r (rr_ka io j)) H.size) ⟨rr_cB hts ⟨hR1, hR2⟩ hd hl hf.1, hts _ hf.2.1, hts _ hf.2.2⟩ ⟨rr_blind, hrecv, fun U hU hW => ⟨rfl, by rw [hU], by rw [hU]; exact hPc, va_K.moved hW.alike hK, hN.warm hW, hDc⟩⟩ rfl (by rw [List.length_map]; exact hn) (by rw [← hnL]; exact hls.1) (by
    simp only [List.map_append, List.map_cons, List.map_reverse, List.map_map]
    congr 2
    apply List.map_congr_left
    intro v _
    exact rr_cv_cv r (rr_ka io) v) (lv_room (by rw [rr_cats]; exact Nat.le_of_ble_eq_true hrest)) (of_decide_eq_true hk) ⟨by omega, by omega⟩
  exact key
theorem rr_callS (hC : rr_X M d mc ms Z) (hk : rr_dk M.2.2.1 pc (.invokestatic idx) 3 = true) (hl : Jvm.Cond.methodLink (rr_on M.1) idx M'.2.1 ∈ rr_W) (hf : rr_fs M' n) (hM : rr_C M' d' as w1 0 0 ret w1') (hd : Nat.blt d' d = true) (hnL : nL = M.2.2.2.1) (io : List Nat) (hsel : io.map (fun i => w[i]?) = w1.map (fun e => some (rr_re (rr_ka io) e))) (hnd : rr_nd io = true) (hlen : w1'.length = w1.length) (hn : as.length = n) (hst : st = (as.map (rr_cv (rr_ka io))).reverse ++ rest) (hrest : Nat.ble (rest.map fun v => v.category).sum 8 = true) (hz : cells ≤ mc ∧ slots ≤ ms) (hput : rr_pu (rr_ka io) io w1' w = w2) (k : rr_J Z nL cells slots Q (pc + 3) l ((ret.map Value.int).toList ++ rest) w2) : rr_J Z nL cells slots Q pc l st w := by
  refine rr_call0 (as := as) hC io hsel hnd hlen hput k ?_
  obtain ⟨p, lc, e, R, s, m, args, below, meth, c, D, cI, cZ, A, r0, n0⟩ := Z
  obtain ⟨hx0, hbt, hml, hown, hts, hlocks, hret, hname, hK, hN, hA, hR1, hR2, hR3, hR4⟩ := hC
  intro r H locs ls hls hP hPc hDc
  subst hst
  have key := va_runS (As := as.map (rr_cv (fun j => r (rr_ka io j)))) (rest := rest.map (rr_cv r)) (g := F0 m pc ls (((as.map (rr_cv (rr_ka io))).reverse ++ rest).map (rr_cv r))) (p := p) (e := e) (below := below) (meth := meth) (locs := locs) (cells := cells) (slots := slots) (H := H) (index := idx) (n := n) (R := R) ⟨hx0, hbt, hml, hown, hts⟩ (hM lc D cI cZ (fun j => r (rr_ka io j)) H.size) ⟨rr_cB hts ⟨hR1, hR2⟩ hd hl hf.1, hts _ hf.2⟩ ⟨rr_blind, fun U hU hW => ⟨rfl, by rw [hU], by rw [hU]; exact hPc, va_K.moved hW.alike hK, hN.warm hW, hDc⟩⟩ rfl (by rw [List.length_map]; exact hn) (by rw [← hnL]; exact hls.1) (by
    simp only [List.map_append, List.map_reverse, List.map_map]
    congr 2
    apply List.map_congr_left
    intro v _
    exact rr_cv_cv r (rr_ka io) v) (lv_room (by rw [rr_cats]; exact Nat.le_of_ble_eq_true hrest)) (of_decide_eq_true hk) ⟨by omega, by omega⟩
  exact key
end RR4
