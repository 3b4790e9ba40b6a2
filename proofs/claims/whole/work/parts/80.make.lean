/-! making: Object's constructor, new objects, new rows, references into fields, calls of constructors (the callee has the caller's whole world by the same numbers; what it makes lies behind it) -/
def rr_n0 (Z : rr_Z) : Nat := match Z with
  | (_, _, _, _, _, _, _, _, _, _, _, _, _, _, _, n0) => n0
theorem rr_nle {Z : rr_Z} {a b : Nat} (h : rr_n0 Z = a) (hb : Nat.ble a b = true) : rr_n0 Z ≤ b := by
  rw [h]; exact Nat.le_of_ble_eq_true hb
def rr_lb (n : Nat) (v : Value) : Bool := match v with
  | .ref i => Nat.blt i n
  | _ => true
def rr_lbe (n : Nat) (e : rr_E) : Bool := match e with
  | .inl _ => true
  | .inr o => o.2.all (rr_lb n)
def rr_lbs (l : List (Nat × Value)) (st : List Value) (w : rr_A) : Bool := l.all (fun q => rr_lb w.length q.2) && (st.all (rr_lb w.length) && w.all (rr_lbe w.length))
def rr_up (r : Nat → Nat) (n a : Nat) : Nat → Nat := fun i => if i = n then a else r i
theorem rr_up_eq (r : Nat → Nat) (n a : Nat) : rr_up r n a n = a := by simp [rr_up]
theorem rr_up_ne (r : Nat → Nat) {n a i : Nat} (h : i ≠ n) : rr_up r n a i = r i := by simp [rr_up, h]
theorem rr_up_lt (r : Nat → Nat) {n a i : Nat} (h : i < n) : rr_up r n a i = r i := rr_up_ne r (Nat.ne_of_lt h)
theorem rr_lb_cv {n : Nat} {r r' : Nat → Nat} (h : ∀ i, i < n → r' i = r i) {v : Value} (hv : rr_lb n v = true) : rr_cv r' v = rr_cv r v := by
  cases v with
  | ref i =>
    have h1 : i < n := by
      have h2 : Nat.blt i n = true := hv
      simpa using h2
    show Value.ref (r' i) = .ref (r i)
    rw [h i h1]
  | _ => rfl
theorem rr_lb_map {n : Nat} {r r' : Nat → Nat} (h : ∀ i, i < n → r' i = r i) {vs : List Value} (hv : vs.all (rr_lb n) = true) : vs.map (rr_cv r') = vs.map (rr_cv r) := by
  apply List.map_congr_left
  intro v hm
  exact rr_lb_cv h (List.all_eq_true.mp hv v hm)
theorem rr_lb0 {r : Nat → Nat} {vs : List Value} (hv : vs.all (rr_lb 0) = true) : vs.map (rr_cv r) = vs := by
  rw [rr_lb_map (r := fun i => i) (n := 0) (fun i h => absurd h (Nat.not_lt_zero i)) hv]
  conv => rhs; rw [← List.map_id vs]
  apply List.map_congr_left
  intro v _
  cases v <;> rfl
theorem rr_lb_cl {n : Nat} {r r' : Nat → Nat} (h : ∀ i, i < n → r' i = r i) {l : List (Nat × Value)} (hv : l.all (fun q => rr_lb n q.2) = true) : rr_cl r' l = rr_cl r l := by
  apply List.map_congr_left
  intro q hm
  rw [rr_lb_cv h (List.all_eq_true.mp hv q hm)]
theorem rr_lb_ce {cI cZ : ClassId} {n : Nat} {r r' : Nat → Nat} (h : ∀ i, i < n → r' i = r i) {e : rr_E} (he : rr_lbe n e = true) : rr_ce cI cZ r' e = rr_ce cI cZ r e := by
  cases e with
  | inl a => rfl
  | inr o =>
    show Sum.inr (o.1, o.2.map (rr_cv r')) = Sum.inr (o.1, o.2.map (rr_cv r))
    rw [rr_lb_map h he]
theorem rr_lb_cw {cI cZ : ClassId} {r r' : Nat → Nat} {w : rr_A} (h : ∀ i, i < w.length → r' i = r i) (hw : w.all (rr_lbe w.length) = true) : rr_cw cI cZ r' w = rr_cw cI cZ r w := by
  apply List.ext_getElem?
  intro i
  rw [rr_cw_get, rr_cw_get]
  cases hi : w[i]? with
  | none => rfl
  | some e =>
    have hlt := (List.getElem?_eq_some_iff.mp hi).1
    show some (r' i, _) = some (r i, _)
    rw [h i hlt, rr_lb_ce h (List.all_eq_true.mp hw e (List.mem_of_getElem? hi))]
theorem rr_cw_app (cI cZ : ClassId) (r : Nat → Nat) (w : rr_A) (e : rr_E) : rr_cw cI cZ r (w ++ [e]) = rr_cw cI cZ r w ++ [(r w.length, rr_ce cI cZ r e)] := by
  unfold rr_cw
  rw [List.mapIdx_concat]
def rr_ml : List Jvm.Cond := [.arrayClass .int, .arrayClass .boolean, .instanceMethod objectInit, .code objectInit ⟨#[0xb1]⟩ 1 none, .methodLink RX0 3 objectInit, .methodLink RX1 1 objectInit, .methodLink RX2 3 objectInit, .methodLink RX3 3 objectInit, .methodLink RX4 3 objectInit, .methodLink RX5 3 objectInit, .methodLink RX6 3 objectInit, .methodLink RX7 3 objectInit, .methodLink RX8 3 objectInit, .methodLink RX9 3 objectInit, .methodLink RX10 1 objectInit, .methodLink RX11 1 objectInit, .classLink RL 7 RX10, .classLink RL 10 RX11, .classLink RX10 7 RX8, .classLink RX10 16 RX5, .classLink RX5 15 RX8, .classLink RX10 23 RX6, .classLink RX10 35 RX3, .classLink RX10 42 RX2, .classLink RX10 49 RX4, .classLink RX10 56 RX9, .classLink RX10 63 RX7, .classLink RX10 72 RX0, .classLink RX10 79 RX1, .instantiable RX0 3, .instantiable RX1 1, .instantiable RX2 3, .instantiable RX3 3, .instantiable RX4 8, .instantiable RX5 8, .instantiable RX6 8, .instantiable RX7 7, .instantiable RX8 10, .instantiable RX9 2, .instantiable RX10 11, .instantiable RX11 30]
theorem rr_ml_ok : ∀ w ∈ rr_ml, w ∈ rr_W := fun w h => by
  have h1 := List.all_eq_true.mp (show rr_ml.all (fun w => decide (w ∈ lw_tbl) && goodWord w) = true by decide +kernel) w h
  rw [Bool.and_eq_true, decide_eq_true_eq] at h1
  exact rr_W_in h1.1 h1.2
theorem rr_ml_at {i : Nat} {w : Jvm.Cond} (h : rr_ml[i]? = some w) : w ∈ rr_W := rr_ml_ok w (List.mem_of_getElem? h)
section MK
variable {M M' : rr_M} {d d' mc ms n : Nat} {Z : rr_Z} {nL cells slots : Nat} {Q : State → Prop} {pc idx : Nat} {l : List (Nat × Value)} {st rest : List Value} {w w' w2 : rr_A} {as : List Value}
theorem rr_ob (hC : rr_X M d mc ms Z) {a : Nat} (i : Nat) (hk : rr_dk M.2.2.1 pc (.invokespecial idx) 3 = true) (hlk : rr_ml[i]? = some (Jvm.Cond.methodLink (rr_on M.1) idx objectInit)) (hd : Nat.ble 1 d = true) (hnL : nL = M.2.2.2.1) (hst : Nat.ble (st.map fun v => v.category).sum 8 = true) (k : rr_J Z nL cells slots Q (pc + 3) l st w) : rr_J Z nL cells slots Q pc l (.ref a :: st) w := by
  obtain ⟨p, lc, e, R, s, m, args, below, meth, c, D, cI, cZ, A, r0, n0⟩ := Z
  obtain ⟨hx0, hbt, hml, hown, hts, hlocks, hret, hname, hK, hN, hA, hR1, hR2, hR3, hR4⟩ := hC
  intro r H locs ls hr hP hD hS hl
  have g2 := Nat.le_of_ble_eq_true hd
  have g3 := Nat.le_of_ble_eq_true hst
  refine W.objInit hx0 hbt hown (hts _ (rr_ml_at hlk)) (hts _ (rr_ml_at (i := 2) rfl)) (hts _ (rr_ml_at (i := 3) rfl)) rfl (by rw [hml, ← hnL]; exact hl.1) rfl (of_decide_eq_true hk) (by omega) (by
    show 2 * 0 + ((st.map (rr_cv r)).map fun v => v.category).sum + 12 ≤ _
    rw [rr_cats]
    omega) ?_
  exact k r H locs ls hr hP hD hS hl
theorem rr_new (hC : rr_X M d mc ms Z) (hn : rr_n0 Z ≤ w.length) (ci : Nat) {q : vw_C} {fs : List Value} (i1 i2 : Nat) (hq : vwCl[ci]? = some q) (hk : rr_dk M.2.2.1 pc (.new idx) 3 = true) (hcl : rr_ml[i1]? = some (Jvm.Cond.classLink (rr_on M.1) idx q.1)) (hinst : rr_ml[i2]? = some (Jvm.Cond.instantiable q.1 q.2.2)) (hini : Jvm.Cond.initialized q.1 ∈ rr_W) (hfs : ∀ j, j < q.2.2 → defaultValue (rr_ty ci j) = vp_V fs j) (hfr : fs.all (rr_lb 0) = true) (hb : rr_lbs l st w = true) (hz : cells + 1 ≤ mc ∧ slots + q.2.2 ≤ ms) (hw' : w ++ [.inr (ci, fs)] = w') (k : rr_J Z nL (cells + 1) (slots + q.2.2) Q (pc + 3) l (.ref w.length :: st) w') : rr_J Z nL cells slots Q pc l st w := by
  obtain ⟨p, lc, e, R, s, m, args, below, meth, c, D, cI, cZ, A, r0, n0⟩ := Z
  obtain ⟨hx0, hbt, hml, hown, hts, hlocks, hret, hname, hK, hN, hA, hR1, hR2, hR3, hR4⟩ := hC
  subst hw'
  have hn : n0 ≤ w.length := hn
  intro r H locs ls hr hP hD hS hl
  simp only [rr_lbs, Bool.and_eq_true] at hb
  obtain ⟨hb1, hb2, hb3⟩ := hb
  refine va_new (ci := ci) (fs := fs) (C := q.1) (T := q.2.1) (N := q.2.2) hx0 hbt hts (rr_lays hq) (rr_ty ci) (rr_ty_ok hq) hown (hts _ (rr_ml_at hcl)) (hts _ (rr_ml_at hinst)) (hts _ hini) hK hP hD hS hA hq hfs (by omega) (by omega) (of_decide_eq_true hk) (fun a H1 hP1 hD1 hS1 => ?_)
  have hup : ∀ i, i < w.length → rr_up r w.length a i = r i := fun i h => rr_up_lt r h
  have e1 : rr_cw cI cZ (rr_up r w.length a) (w ++ [.inr (ci, fs)]) = rr_cw cI cZ r w ++ [(a, .inr (ci, fs))] := by
    rw [rr_cw_app, rr_lb_cw hup hb3, rr_up_eq]
    show _ ++ [(a, Sum.inr (ci, fs.map (rr_cv (rr_up r w.length a))))] = _
    rw [rr_lb0 hfr]
  have e3 : (Value.ref w.length :: st).map (rr_cv (rr_up r w.length a)) = .ref a :: st.map (rr_cv r) := by
    rw [List.map_cons, rr_lb_map hup hb2]
    show Value.ref (rr_up r w.length a w.length) :: _ = _
    rw [rr_up_eq]
  have z := k (rr_up r w.length a) H1 locs ls (fun i hi => by
    rw [List.length_append] at hi
    have hi : i < n0 ∨ w.length + 1 ≤ i := hi
    rw [rr_up_ne r (by omega)]
    exact hr i (by omega)) (by rw [e1]; exact hP1) (by rw [e1]; exact hD1) hS1 (by rw [rr_lb_cl hup hb1]; exact hl)
  rw [e3] at z
  exact z
theorem rr_cA {D : va_G} {cI cZ cA : ClassId} {s : State} (h : va_K D vwCl ([(cI, .int), (cZ, .boolean)] ++ [(cA, .int)]) s) : cA = cI := by
  have h1 := va_nm_int (h.2 0 _ rfl).2
  have h2 := va_nm_int (h.2 2 _ rfl).2
  exact Option.some.inj (h2.symm.trans h1)
theorem rr_cB2 {D : va_G} {cI cZ cA : ClassId} {s : State} (h : va_K D vwCl ([(cI, .int), (cZ, .boolean)] ++ [(cA, .boolean)]) s) : cA = cZ := by
  have h1 := va_nm_boolean (h.2 1 _ rfl).2
  have h2 := va_nm_boolean (h.2 2 _ rfl).2
  exact Option.some.inj (h2.symm.trans h1)
def rr_z0 : Nat → Int32 := fun _ => 0
theorem rr_newa (hC : rr_X M d mc ms Z) (hn : rr_n0 Z ≤ w.length) (t : Bool) (N : Nat) {x : Int32} (hk : rr_dk M.2.2.1 pc (.newarray (cond t .int .boolean)) 2 = true) (hx : x = nI N) (hN1 : Nat.ble N 1000 = true) (hb : rr_lbs l st w = true) (hz : cells + 1 ≤ mc ∧ slots + N ≤ ms) (hw' : w ++ [.inl (t, N, rr_z0)] = w') (k : rr_J Z nL (cells + 1) (slots + N) Q (pc + 2) l (.ref w.length :: st) w') : rr_J Z nL cells slots Q pc l (.int x :: st) w := by
  obtain ⟨p, lc, e, R, s, m, args, below, meth, c, D, cI, cZ, A, r0, n0⟩ := Z
  obtain ⟨hx0, hbt, hml, hown, hts, hlocks, hret, hname, hK, hN, hA, hR1, hR2, hR3, hR4⟩ := hC
  subst hw'
  have hn : n0 ≤ w.length := hn
  have hN1 := Nat.le_of_ble_eq_true hN1
  intro r H locs ls hr hP hD hS hl
  simp only [rr_lbs, Bool.and_eq_true] at hb
  obtain ⟨hb1, hb2, hb3⟩ := hb
  have fin : ∀ (a : Nat) (H1 : Heap), va_P D vwCl (rr_cw cI cZ r w ++ [(a, .inl (cond t cI cZ, N, .inl rr_z0))]) H1 → va_D A (rr_cw cI cZ r w ++ [(a, .inl (cond t cI cZ, N, .inl rr_z0))]) → va_S A s.heap H1 locs → W p lc e R s m args below meth c H1 locs (cells + 1) (slots + N) Q (F0 m (pc + 2) ls (.ref a :: st.map (rr_cv r))) := by
    intro a H1 hP1 hD1 hS1
    have hup : ∀ i, i < w.length → rr_up r w.length a i = r i := fun i h => rr_up_lt r h
    have e1 : rr_cw cI cZ (rr_up r w.length a) (w ++ [.inl (t, N, rr_z0)]) = rr_cw cI cZ r w ++ [(a, .inl (cond t cI cZ, N, .inl rr_z0))] := by
      rw [rr_cw_app, rr_lb_cw hup hb3, rr_up_eq]
      rfl
    have e3 : (Value.ref w.length :: st).map (rr_cv (rr_up r w.length a)) = .ref a :: st.map (rr_cv r) := by
      rw [List.map_cons, rr_lb_map hup hb2]
      show Value.ref (rr_up r w.length a w.length) :: _ = _
      rw [rr_up_eq]
    have z := k (rr_up r w.length a) H1 locs ls (fun i hi => by
      rw [List.length_append] at hi
      have hi : i < n0 ∨ w.length + 1 ≤ i := hi
      rw [rr_up_ne r (by omega)]
      exact hr i (by omega)) (by rw [e1]; exact hP1) (by rw [e1]; exact hD1) hS1 (by rw [rr_lb_cl hup hb1]; exact hl)
    rw [e3] at z
    exact z
  have hneg : ¬ x < 0 := by rw [hx]; exact nI_pos (by omega)
  have hcl : x.toNatClampNeg = N := by rw [hx]; exact nI_clamp (by omega)
  cases t with
  | true =>
    refine va_newa (atype := .int) (ty := .int) (a0 := (N, .inl rr_z0)) hx0 hbt (hts _ (rr_ml_at (i := 0) rfl)) rfl hK hP hD hS hA (fun cA => rfl) hneg hcl (by show N * 4 ≤ _; omega) (by omega) (by omega) (of_decide_eq_true hk) (fun a cA H1 hK1 hP1 hD1 hS1 => ?_)
    have e := rr_cA hK1
    subst e
    exact fin a H1 hP1 hD1 hS1
  | false =>
    refine va_newa (atype := .boolean) (ty := .boolean) (a0 := (N, .inl rr_z0)) hx0 hbt (hts _ (rr_ml_at (i := 1) rfl)) rfl hK hP hD hS hA (fun cA => rfl) hneg hcl (by show N * 1 ≤ _; omega) (by omega) (by omega) (of_decide_eq_true hk) (fun a cA H1 hK1 hP1 hD1 hS1 => ?_)
    have e := rr_cB2 hK1
    subst e
    exact fin a H1 hP1 hD1 hS1
def rr_rty (ty : FieldType) : Bool := match ty with
  | .array _ => true
  | .object _ => true
  | _ => false
theorem rr_rty_ok {ty : FieldType} (h : rr_rty ty = true) (a : Nat) : narrow ty (.ref a) = .ref a ∧ fits ty (.ref a) = true := by
  cases ty <;> first | (cases h; done) | exact ⟨rfl, rfl⟩
def rr_fin (o ci b : Nat) : Bool := match vwCl[ci]? with
  | some q => (q.2.1 b).2.2.2 && (decide ((q.2.1 b).1 = rr_on o) && rr_rty (rr_ty ci b))
  | none => false
theorem rr_putR (hC : rr_X M d mc ms Z) (ci b : Nat) {i v : Nat} {fs : List Value} (hk : rr_dk M.2.2.1 pc (.putfield idx) 3 = true) (hF : rr_F.elem (M.1, idx, ci, b) = true) (hfin : rr_fin M.1 ci b = true) (hin : M.2.1.name = "<init>") (hw : w[i]? = some (.inr (ci, fs))) (hb : Nat.blt b fs.length = true) (hw' : w.set i (.inr (ci, fs.set b (.ref v))) = w') (k : rr_J Z nL cells slots Q (pc + 3) l st w') : rr_J Z nL cells slots Q pc l (.ref v :: .ref i :: st) w := by
  obtain ⟨p, lc, e, R, s, m, args, below, meth, c, D, cI, cZ, A, r0, n0⟩ := Z
  obtain ⟨hx0, hbt, hml, hown, hts, hlocks, hret, hname, hK, hN, hA, hR⟩ := hC
  subst hw'
  obtain ⟨q, hq, hlt, hlk⟩ := rr_F_ok hF
  unfold rr_fin at hfin
  rw [hq] at hfin
  simp only [Bool.and_eq_true, decide_eq_true_eq] at hfin
  obtain ⟨hf1, hf2, hf3⟩ := hfin
  intro r H locs ls hr hP hD hS hl
  have hbl2 : b < (fs.map (rr_cv r)).length := by
    rw [List.length_map]
    simpa using hb
  refine va_putF (C := q.1) (T := q.2.1) (N := q.2.2) hx0 hbt hts (rr_lays hq) (rr_ty ci) (rr_ty_ok hq) (rr_nm hq) hown hK hP hD hS i (rr_cw_at hw) hq b hlt (hts _ hlk) (fun _ h9 => h9) hf1 (hname.trans hin) hf2 (rr_ty_ok hq b hlt) (rr_rty_ok hf3 (r v)).1 (rr_rty_ok hf3 (r v)).2 hbl2 (of_decide_eq_true hk) (fun H1 locs1 hP1 hD1 hS1 => ?_)
  have e4 : rr_cw cI cZ r (w.set i (.inr (ci, fs.set b (.ref v)))) = (rr_cw cI cZ r w).set i (r i, .inr (ci, (fs.map (rr_cv r)).set b (.ref (r v)))) := by
    rw [rr_cw_set]
    simp [rr_ce, List.map_set, rr_cv]
  exact k r H1 locs1 ls (by rw [List.length_set]; exact hr) (by rw [e4]; exact hP1) (by rw [e4]; exact hD1) hS1 hl
/-- the core of a constructor's call -/
theorem rr_callW0 {mc' ms' : Nat} {av : List Value} (hC : rr_X M d mc ms Z) (hn : rr_n0 Z ≤ w.length) (hlen : Nat.ble w.length w2.length = true) (hb : rr_lbs l rest w = true) (k : rr_J Z nL (cells + mc') (slots + ms') Q (pc + 3) l rest w2)
    (hrun : match Z with
      | (p, lc, e, R, s, m, args, below, meth, c, D, cI, cZ, A, r0, n0) => ∀ (r : Nat → Nat) (H : Heap) (locs : List Loc) (ls : Array Slot), lv_has ls nL (rr_cl r l) → va_P D vwCl (rr_cw cI cZ r w) H → va_D (fun _ => True) (rr_cw cI cZ r w) → va_Run p lc e R s m args below meth c H locs cells slots mc' ms' (F0 m pc ls (st.map (rr_cv r))) (rest.map (rr_cv r)) (rr_Qc D cI cZ r w.length (rr_Aq r w.length H.size) none w2 ((av.map (rr_cv r)).toArray)) (rr_Aq r w.length H.size)) :
    rr_J Z nL cells slots Q pc l st w := by
  obtain ⟨p, lc, e, R, s, m, args, below, meth, c, D, cI, cZ, A, r0, n0⟩ := Z
  obtain ⟨hx0, hbt, hml, hown, hts, hlocks, hret, hname, hK, hN, hA, hR⟩ := hC
  have hn : n0 ≤ w.length := hn
  have hlen := Nat.le_of_ble_eq_true hlen
  simp only [rr_lbs, Bool.and_eq_true] at hb
  obtain ⟨hb1, hb2, hb3⟩ := hb
  intro r H locs ls hr hP hD hS hl
  have hfree : ∀ q, rr_Aq r w.length H.size q → A q := by
    rintro q (⟨j, hj, e⟩ | h)
    · have h4 := hD.2 j _ (rr_cw_at (List.getElem?_eq_getElem hj))
      rw [e]
      exact h4
    · exact hA q (Nat.le_trans hS.1 h)
  intro T hT X
  obtain ⟨v, st₀, t, T', L, h0, X', hL, e1, e2, ⟨⟨hv, r1, hr1, hP1, hK1, hN1, hD1⟩, hz, hk1⟩, hst⟩ := hrun r H locs ls hl hP ⟨hD.1, fun _ _ _ => trivial⟩ T hT X
  cases hv
  rw [h0] at hz hk1
  have hup : ∀ i, i < w.length → r1 i = r i := fun i h => hr1 i (Or.inl h)
  have hS1 : va_S A s.heap T'.heap (locs ++ L) := ⟨Nat.le_trans hS.1 (by rw [e1]; exact hz), fun q g1 g2 => by rw [e1, hk1 q (Nat.lt_of_lt_of_le g1 hS.1) (fun z => g2 (hfree q z))]; exact hS.2.1 q g1 g2, fun q hq => by
      rcases List.mem_append.mp hq with g | g
      · exact hS.2.2 q g
      · exact hfree _ (hL q g)⟩
  have k2 := k r1 T'.heap (locs ++ L) ls (fun i hi => by
    rw [hr1 i (by omega)]
    exact hr i (by omega)) (by rw [e1]; exact hP1) ⟨hD1.1, fun i q hq => hfree _ (hD1.2 i q hq)⟩ hS1 (by rw [rr_lb_cl hup hb1]; exact hl) T' rfl X'
  obtain ⟨t2, a1, b1⟩ := k2
  refine ⟨t2, hst t2 ?_, b1⟩
  rw [rr_lb_map hup hb2] at a1
  exact a1
theorem rr_blindW {D : va_G} {cI cZ : ClassId} {r : Nat → Nat} {sz : Nat} {av : List Value} : FrameBlind (va_Pc av (fun U => U.heap.size = sz ∧ rr_At D cI cZ r w (fun _ => True) U)) := rr_blind
theorem rr_callW {mc' ms' b : Nat} (hC : rr_X M d mc ms Z) (hn : rr_n0 Z ≤ w.length) (hk : rr_dk M.2.2.1 pc (.invokespecial idx) 3 = true) (hl : Jvm.Cond.methodLink (rr_on M.1) idx M'.2.1 ∈ rr_W) (hf : rr_mo M' n ∧ Jvm.Cond.instanceMethod M'.2.1 ∈ rr_W) (hrt : M'.2.2.2.2 = none) (hin : M'.2.1.name = "<init>") (hM : rr_C M' d' (.ref b :: as) w mc' ms' none w2) (hd : Nat.blt d' d = true) (hnL : nL = M.2.2.2.1) (has : as.length = n) (hst : st = as.reverse ++ .ref b :: rest) (hrest : Nat.ble (rest.map fun v => v.category).sum 8 = true) (hz : cells + mc' ≤ mc ∧ slots + ms' ≤ ms) (hlen : Nat.ble w.length w2.length = true) (hb : rr_lbs l rest w = true) (k : rr_J Z nL (cells + mc') (slots + ms') Q (pc + 3) l rest w2) : rr_J Z nL cells slots Q pc l st w := by
  refine rr_callW0 (av := .ref b :: as) hC hn hlen hb k ?_
  obtain ⟨p, lc, e, R, s, m, args, below, meth, c, D, cI, cZ, A, r0, n0⟩ := Z
  obtain ⟨hx0, hbt, hml, hown, hts, hlocks, hret, hname, hK, hN, hA, hR1, hR2, hR3, hR4⟩ := hC
  obtain ⟨o', y', c', mL', rt'⟩ := M'
  dsimp only at hrt
  subst hrt
  intro r H locs ls hls hP hDc
  subst hst
  obtain ⟨⟨h1, h2, h3, h4, h5, h6⟩, hf2⟩ := hf
  dsimp only at h1 h2 h3 h4 h5 h6 hf2 hin hl hM
  have hd' : d' < d := by simpa using hd
  exact va_runI (As := as.map (rr_cv r)) (rest := rest.map (rr_cv r)) (g := F0 m pc ls ((as.reverse ++ .ref b :: rest).map (rr_cv r))) (p := p) (e := e) (below := below) (meth := meth) (locs := locs) (cells := cells) (slots := slots) (H := H) (b := r b) (index := idx) (n := n) (R := R) ⟨hx0, hbt, hml, hown, hts⟩ (hM lc D cI cZ r H.size) (cwI n hts (rr_good1 h3) rfl rfl rfl (hts _ h4) (hts _ hl) (hts _ hf2) hin h5 ⟨by show d' + 1 ≤ _; omega, by show 8 + (mL' + 11) + 64 * d' ≤ _; omega⟩) ⟨rr_blindW, fun U hU hW => ⟨rfl, by rw [hU], by rw [hU]; exact hP, va_K.moved hW.alike hK, hN.warm hW, hDc⟩⟩ rfl (by rw [List.length_map]; exact has) (by rw [← hnL]; exact hls.1) (by
    simp only [List.map_append, List.map_cons, List.map_reverse]
    rfl) (lv_room (by rw [rr_cats]; exact Nat.le_of_ble_eq_true hrest)) (of_decide_eq_true hk) ⟨by omega, by omega⟩
theorem rr_callWN {mc' ms' b : Nat} (hC : rr_X M d mc ms Z) (hn : rr_n0 Z ≤ w.length) (hk : rr_dk M.2.2.1 pc (.invokespecial idx) 3 = true) (i : Nat) (hl : rr_nests[i]? = some (rr_on M.1, idx, M'.2.1)) (hf : rr_mo M' n ∧ Jvm.Cond.instanceMethod M'.2.1 ∈ rr_W) (hrt : M'.2.2.2.2 = none) (hin : M'.2.1.name = "<init>") (hM : rr_C M' d' (.ref b :: as) w mc' ms' none w2) (hd : Nat.blt d' d = true) (hnL : nL = M.2.2.2.1) (has : as.length = n) (hst : st = as.reverse ++ .ref b :: rest) (hrest : Nat.ble (rest.map fun v => v.category).sum 8 = true) (hz : cells + mc' ≤ mc ∧ slots + ms' ≤ ms) (hlen : Nat.ble w.length w2.length = true) (hb : rr_lbs l rest w = true) (k : rr_J Z nL (cells + mc') (slots + ms') Q (pc + 3) l rest w2) : rr_J Z nL cells slots Q pc l st w := by
  refine rr_callW0 (av := .ref b :: as) hC hn hlen hb k ?_
  obtain ⟨p, lc, e, R, s, m, args, below, meth, c, D, cI, cZ, A, r0, n0⟩ := Z
  obtain ⟨hx0, hbt, hml, hown, hts, hlocks, hret, hname, hK, hN, hA, hR1, hR2, hR3, hR4⟩ := hC
  obtain ⟨o', y', c', mL', rt'⟩ := M'
  dsimp only at hrt
  subst hrt
  intro r H locs ls hls hP hDc
  subst hst
  obtain ⟨⟨h1, h2, h3, h4, h5, h6⟩, hf2⟩ := hf
  dsimp only at h1 h2 h3 h4 h5 h6 hf2 hin hl hM
  have hd' : d' < d := by simpa using hd
  exact va_runIN (As := as.map (rr_cv r)) (rest := rest.map (rr_cv r)) (g := F0 m pc ls ((as.reverse ++ .ref b :: rest).map (rr_cv r))) (p := p) (e := e) (below := below) (meth := meth) (locs := locs) (cells := cells) (slots := slots) (H := H) (b := r b) (index := idx) (n := n) (R := R) (host := RX10) ⟨hx0, hbt, hml, hown, hts⟩ (hM lc D cI cZ r H.size) ⟨va_cnB n hts (rr_good1 h3) rfl rfl rfl (hN _ (List.mem_of_getElem? hl)) (hts _ h4) h5 ⟨by show d' + 1 ≤ _; omega, by show 8 + (mL' + 11) + 64 * d' ≤ _; omega⟩, hin, hts _ hf2⟩ ⟨rr_blindW, fun U hU hW => ⟨rfl, by rw [hU], by rw [hU]; exact hP, va_K.moved hW.alike hK, hN.warm hW, hDc⟩⟩ rfl (by rw [List.length_map]; exact has) (by rw [← hnL]; exact hls.1) (by
    simp only [List.map_append, List.map_cons, List.map_reverse]
    rfl) (lv_room (by rw [rr_cats]; exact Nat.le_of_ble_eq_true hrest)) (of_decide_eq_true hk) ⟨by omega, by omega⟩
theorem rr_as {cells' slots' : Nat} {st' : List Value} (h1 : cells = cells') (h2 : slots = slots') (h3 : st = st') (k : rr_J Z nL cells' slots' Q pc l st' w) : rr_J Z nL cells slots Q pc l st w := by
  subst h1; subst h2; subst h3; exact k
end MK
theorem rr_C.ofN {M : rr_M} {d n : Nat} {args : List Value} {w w' : rr_A} {mc ms : Nat} {ret : Option Int32} (ho : rr_mo M n) (hn : Nat.ble args.length M.2.2.2.1 = true) (hc : rr_c1 args = true) (k : ∀ Z : rr_Z, rr_X M d mc ms Z → rr_n0 Z = w.length → rr_J Z M.2.2.2.1 0 0 (rr_MQ Z mc ms ret w') 0 (rr_la 0 args) [] w) : rr_C M d args w mc ms ret w' := by
  intro lc D cI cZ r0 sz
  refine Met.ofW (cc := M.2.2.1) (maxL := M.2.2.2.1) (ret := M.2.2.2.2) ho.1 rfl ?_
  intro p e s m args' below meth c s₁ B hml hv
  obtain ⟨rfl, hsz, hP, hK, hN, hD0⟩ := hv
  have hts := atoms_spec (ws := .code M.2.1 M.2.2.1 M.2.2.2.1 M.2.2.2.2 :: rr_W) B.pre
  have hown : s.vm.findClass M.2.1.cls = some m.cls := findClass_of_methodNamed B.named
  subst hsz
  have hl := lv_entry (args.map (rr_cv r0)) (n := M.2.2.2.1) (by rw [rr_c1_len r0 args hc]; exact Nat.le_of_ble_eq_true hn)
  rw [lg_entry_eq]
  generalize (lg_sl (args.map (rr_cv r0)) ++ List.replicate (M.2.2.2.1 - (lg_sl (args.map (rr_cv r0))).length) Slot.unset).toArray = ls at hl ⊢
  rw [rr_la_args r0 0 args hc] at hl
  refine k (p, lc, e, rr_rm d mc ms, s, m, (args.map (rr_cv r0)).toArray, below, meth, c, D, cI, cZ, rr_Aq r0 w.length s.heap.size, r0, w.length) ⟨B.exec, B.bytes, hml, by rw [← ho.2.1]; exact hown, fun w hw => hts w (List.mem_cons_of_mem _ hw), B.notSynchronized, B.returns, (name_of_methodNamed B.named B.method).1, hK, hN, fun q h => Or.inr h, Nat.le_refl _, Nat.le_refl _, Nat.le_refl _, Nat.le_refl _⟩ rfl r0 s.heap [] ls (fun _ _ => rfl) hP (rr_Aq_self hD0) va_S.rf hl
