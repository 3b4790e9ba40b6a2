/-! System.arraycopy of int rows; facts of methods and links -/
def rr_cpl : List Jvm.Cond := [.native arraycopyName, .static arraycopyName, .initialized "java/lang/System"]
theorem rr_cpl_ok : ∀ w ∈ rr_cpl, w ∈ rr_W := fun w h => by
  have h1 := List.all_eq_true.mp (show rr_cpl.all (fun w => decide (w ∈ lw_tbl) && goodWord w) = true by decide +kernel) w h
  rw [Bool.and_eq_true, decide_eq_true_eq] at h1
  exact rr_W_in h1.1 h1.2
theorem rr_copy {M : rr_M} {d mc ms : Nat} {Z : rr_Z} {nL cells slots : Nat} {Q : State → Prop} {pc idx : Nat} {l : List (Nat × Value)} {st : List Value} {w w' : rr_A} (hC : rr_X M d mc ms Z) (hk : rr_dk M.2.2.1 pc (.invokestatic idx) 3 = true) (hlk : Jvm.Cond.methodLink (rr_on M.1) idx arraycopyName ∈ rr_W) (hd : Nat.ble 1 d = true) (hnL : nL = M.2.2.2.1) (hst : Nat.ble (st.map fun v => v.category).sum 8 = true) {a b n0 n1 : Nat} {f g : Nat → Int32} (sp dp n : Nat) {xs xd xn : Int32} (h1 : xs = nI sp) (h2 : xd = nI dp) (h3 : xn = nI n) (ha : w[a]? = some (.inl (true, n0, f))) (hb : w[b]? = some (.inl (true, n1, g))) (hs : sp + n ≤ n0) (ht : dp + n ≤ n1) (hb0 : Nat.ble n0 1000 = true) (hb1 : Nat.ble n1 1000 = true) (hw' : w.set b (.inl (true, n1, va_cpy f g sp dp n)) = w') (k : rr_J Z nL cells slots Q (pc + 3) l st w') : rr_J Z nL cells slots Q pc l (.int xn :: .int xd :: .ref b :: .int xs :: .ref a :: st) w := by
  obtain ⟨p, lc, e, R, s, m, args, below, meth, c, D, cI, cZ, A, r0, m0⟩ := Z
  obtain ⟨hx0, hbt, hml, hown, hts, hlocks, hret, hname, hK, hN, hA, hR1, hR2, hR3, hR4⟩ := hC
  subst hw'
  intro r H locs ls hr hP hD hS hl
  have g0 := Nat.le_of_ble_eq_true hb0
  have g1 := Nat.le_of_ble_eq_true hb1
  have g2 := Nat.le_of_ble_eq_true hd
  have g3 := Nat.le_of_ble_eq_true hst
  have c1 : xs.toNatClampNeg = sp := by rw [h1]; exact nI_clamp (by omega)
  have c2 : xd.toNatClampNeg = dp := by rw [h2]; exact nI_clamp (by omega)
  have c3 : xn.toNatClampNeg = n := by rw [h3]; exact nI_clamp (by omega)
  have hw1 := hts _ (rr_cpl_ok (.native arraycopyName) (by simp [rr_cpl]))
  have hw2 := hts _ (rr_cpl_ok (.static arraycopyName) (by simp [rr_cpl]))
  have hw3 := hts _ (rr_cpl_ok (.initialized "java/lang/System") (by simp [rr_cpl]))
  refine va_copyi hx0 hbt (by rw [hml, ← hnL]; exact hl.1.symm) hown (hts _ hlk) hw1 hw2 hw3 hK hP hD hS a b 0 0 (rr_cw_at ha) (rr_cw_at hb) (ty := .int) rfl rfl rfl (by rw [h1]; exact nI_pos (by omega)) (by rw [h2]; exact nI_pos (by omega)) (by rw [h3]; exact nI_pos (by omega)) (by rw [c1, c3]; exact hs) (by rw [c2, c3]; exact ht) (fun _ _ => rfl) (by omega) (by
    rw [rr_cats]
    have z : nativeFrameWords "java/lang/System" "arraycopy" 5 ≤ 40 := by decide +kernel
    omega) (of_decide_eq_true hk) (fun H1 locs1 hP1 hD1 hS1 => ?_)
  rw [c1, c2, c3] at hP1 hD1
  have e4 : rr_cw cI cZ r (w.set b (.inl (true, n1, va_cpy f g sp dp n))) = (rr_cw cI cZ r w).set b (r b, .inl (cI, n1, .inl (va_cpy f g sp dp n))) := by
    rw [rr_cw_set]; rfl
  exact k r H1 locs1 ls (by rw [List.length_set]; exact hr) (by rw [e4]; exact hP1) (by rw [e4]; exact hD1) hS1 hl
def rr_mmaxl : List Jvm.Cond := [.static Jvm.Lib.Math.max.name, .initialized "java/lang/Math", .code Jvm.Lib.Math.max.name Jvm.Lib.Math.max.code 2 (some .int)]
theorem rr_mmaxl_ok : ∀ w ∈ rr_mmaxl, w ∈ rr_W := fun w h => by
  have h1 := List.all_eq_true.mp (show rr_mmaxl.all (fun w => decide (w ∈ lw_tbl) && goodWord w) = true by decide +kernel) w h
  rw [Bool.and_eq_true, decide_eq_true_eq] at h1
  exact rr_W_in h1.1 h1.2
theorem rr_mmax {M : rr_M} {d mc ms : Nat} {Z : rr_Z} {nL cells slots : Nat} {Q : State → Prop} {pc idx : Nat} {l : List (Nat × Value)} {st : List Value} {w : rr_A} (hC : rr_X M d mc ms Z) (hk : rr_dk M.2.2.1 pc (.invokestatic idx) 3 = true) (hlk : Jvm.Cond.methodLink (rr_on M.1) idx Jvm.Lib.Math.max.name ∈ rr_W) (hd : Nat.ble 1 d = true) (hnL : nL = M.2.2.2.1) (hst : Nat.ble (st.map fun v => v.category).sum 8 = true) (hz : cells ≤ mc ∧ slots ≤ ms) {x y : Int32} (k : rr_J Z nL cells slots Q (pc + 3) l (.int (if x < y then y else x) :: st) w) : rr_J Z nL cells slots Q pc l (.int y :: .int x :: st) w := by
  obtain ⟨p, lc, e, R, s, m, args, below, meth, c, D, cI, cZ, A, r0, m0⟩ := Z
  obtain ⟨hx0, hbt, hml, hown, hts, hlocks, hret, hname, hK, hN, hA, hR1, hR2, hR3, hR4⟩ := hC
  intro r H locs ls hr hP hD hS hl
  have g2 := Nat.le_of_ble_eq_true hd
  have g3 := Nat.le_of_ble_eq_true hst
  exact va_mmax hx0 hbt (by rw [hml, ← hnL]; exact hl.1.symm) hown (hts _ hlk) (hts _ (rr_mmaxl_ok _ (by simp [rr_mmaxl]))) (hts _ (rr_mmaxl_ok _ (by simp [rr_mmaxl]))) (hts _ (rr_mmaxl_ok _ (by simp [rr_mmaxl]))) (by omega) (by rw [rr_cats]; omega) (by omega) (by omega) (of_decide_eq_true hk) (k r H locs ls hr hP hD hS hl)
def rr_mminl : List Jvm.Cond := [.static Jvm.Lib.Math.min.name, .initialized "java/lang/Math", .code Jvm.Lib.Math.min.name Jvm.Lib.Math.min.code 2 (some .int)]
theorem rr_mminl_ok : ∀ w ∈ rr_mminl, w ∈ rr_W := fun w h => by
  have h1 := List.all_eq_true.mp (show rr_mminl.all (fun w => decide (w ∈ lw_tbl) && goodWord w) = true by decide +kernel) w h
  rw [Bool.and_eq_true, decide_eq_true_eq] at h1
  exact rr_W_in h1.1 h1.2
theorem rr_mmin {M : rr_M} {d mc ms : Nat} {Z : rr_Z} {nL cells slots : Nat} {Q : State → Prop} {pc idx : Nat} {l : List (Nat × Value)} {st : List Value} {w : rr_A} (hC : rr_X M d mc ms Z) (hk : rr_dk M.2.2.1 pc (.invokestatic idx) 3 = true) (hlk : Jvm.Cond.methodLink (rr_on M.1) idx Jvm.Lib.Math.min.name ∈ rr_W) (hd : Nat.ble 1 d = true) (hnL : nL = M.2.2.2.1) (hst : Nat.ble (st.map fun v => v.category).sum 8 = true) (hz : cells ≤ mc ∧ slots ≤ ms) {x y : Int32} (k : rr_J Z nL cells slots Q (pc + 3) l (.int (if y < x then y else x) :: st) w) : rr_J Z nL cells slots Q pc l (.int y :: .int x :: st) w := by
  obtain ⟨p, lc, e, R, s, m, args, below, meth, c, D, cI, cZ, A, r0, m0⟩ := Z
  obtain ⟨hx0, hbt, hml, hown, hts, hlocks, hret, hname, hK, hN, hA, hR1, hR2, hR3, hR4⟩ := hC
  intro r H locs ls hr hP hD hS hl
  have g2 := Nat.le_of_ble_eq_true hd
  have g3 := Nat.le_of_ble_eq_true hst
  exact va_mmin hx0 hbt (by rw [hml, ← hnL]; exact hl.1.symm) hown (hts _ hlk) (hts _ (rr_mminl_ok _ (by simp [rr_mminl]))) (hts _ (rr_mminl_ok _ (by simp [rr_mminl]))) (hts _ (rr_mminl_ok _ (by simp [rr_mminl]))) (by omega) (by rw [rr_cats]; omega) (by omega) (by omega) (of_decide_eq_true hk) (k r H locs ls hr hP hD hS hl)
def rr_mob (M : rr_M) (n : Nat) (pi : Nat) (ws : List (Nat × Jvm.Cond)) : Bool := plainName M.2.1.cls && (decide (M.2.1.cls = rr_on M.1) && (decide (lw_tbl[pi]? = some (Jvm.Cond.initialized M.2.1.cls)) && (decide (M.2.1.cls ≠ "java/lang/invoke/MethodHandle") && (decide (M.2.1.cls ≠ "java/lang/invoke/VarHandle") && (decide ((parseMethodDescriptor M.2.1.desc).map (fun d => d.parameters.length) = some n) && (decide (M.2.2.2.1 ≤ 40) && ws.all (fun q => decide (lw_tbl[q.1]? = some q.2) && goodWord q.2)))))))
theorem rr_mob_ok {M : rr_M} {n pi : Nat} {ws : List (Nat × Jvm.Cond)} (h : rr_mob M n pi ws = true) (hc : Jvm.Cond.code M.2.1 M.2.2.1 M.2.2.2.1 M.2.2.2.2 ∈ lw_tbl) : rr_mo M n ∧ ∀ q ∈ ws, q.2 ∈ rr_W := by
  unfold rr_mob at h
  simp only [Bool.and_eq_true, decide_eq_true_eq] at h
  obtain ⟨h1, h2, h3, h4, h5, h6, h7, h8⟩ := h
  refine ⟨⟨h1, h2, rr_W_in hc rfl, rr_W_in (List.mem_of_getElem? h3) rfl, ⟨h4, h5, h6⟩, h7⟩, fun q hq => ?_⟩
  have h9 := List.all_eq_true.mp h8 q hq
  rw [Bool.and_eq_true, decide_eq_true_eq] at h9
  exact rr_W_in (List.mem_of_getElem? h9.1) h9.2
abbrev mX0_init : rr_M := (0, yX0_init, cX0_init, 1, none)
set_option maxRecDepth 100000 in
theorem fX0_init : rr_mo mX0_init 0 ∧ Jvm.Cond.instanceMethod yX0_init ∈ rr_W := by
  have z := rr_mob_ok (M := mX0_init) (n := 0) (pi := 66) (ws := [(336, .instanceMethod yX0_init)]) (by decide +kernel) (List.mem_of_getElem? (i := 337) rfl)
  exact ⟨z.1, z.2 _ List.mem_cons_self⟩
abbrev mX0_add : rr_M := (0, yX0_add, cX0_add, 3, (some .boolean))
set_option maxRecDepth 100000 in
theorem fX0_add : rr_fv mX0_add 2 := by
  have z := rr_mob_ok (M := mX0_add) (n := 2) (pi := 66) (ws := [(830, .instanceMethod yX0_add), (831, .selects (rr_on 0) yX0_add yX0_add)]) (by decide +kernel) (List.mem_of_getElem? (i := 832) rfl)
  exact ⟨z.1, z.2 _ List.mem_cons_self, z.2 _ (List.mem_cons_of_mem _ List.mem_cons_self)⟩
abbrev mX0_forget : rr_M := (0, yX0_forget, cX0_forget, 1, none)
set_option maxRecDepth 100000 in
theorem fX0_forget : rr_fv mX0_forget 0 := by
  have z := rr_mob_ok (M := mX0_forget) (n := 0) (pi := 66) (ws := [(490, .instanceMethod yX0_forget), (491, .selects (rr_on 0) yX0_forget yX0_forget)]) (by decide +kernel) (List.mem_of_getElem? (i := 492) rfl)
  exact ⟨z.1, z.2 _ List.mem_cons_self, z.2 _ (List.mem_cons_of_mem _ List.mem_cons_self)⟩
abbrev mX0_firstWrong : rr_M := (0, yX0_firstWrong, cX0_firstWrong, 4, (some .int))
set_option maxRecDepth 100000 in
theorem fX0_firstWrong : rr_fv mX0_firstWrong 1 := by
  have z := rr_mob_ok (M := mX0_firstWrong) (n := 1) (pi := 66) (ws := [(838, .instanceMethod yX0_firstWrong), (839, .selects (rr_on 0) yX0_firstWrong yX0_firstWrong)]) (by decide +kernel) (List.mem_of_getElem? (i := 840) rfl)
  exact ⟨z.1, z.2 _ List.mem_cons_self, z.2 _ (List.mem_cons_of_mem _ List.mem_cons_self)⟩
abbrev mX1_init : rr_M := (1, yX1_init, cX1_init, 1, none)
set_option maxRecDepth 100000 in
theorem fX1_init : rr_mo mX1_init 0 ∧ Jvm.Cond.instanceMethod yX1_init ∈ rr_W := by
  have z := rr_mob_ok (M := mX1_init) (n := 0) (pi := 67) (ws := [(353, .instanceMethod yX1_init)]) (by decide +kernel) (List.mem_of_getElem? (i := 354) rfl)
  exact ⟨z.1, z.2 _ List.mem_cons_self⟩
abbrev mX1_next : rr_M := (1, yX1_next, cX1_next, 2, (some .int))
set_option maxRecDepth 100000 in
theorem fX1_next : rr_fv mX1_next 1 := by
  have z := rr_mob_ok (M := mX1_next) (n := 1) (pi := 67) (ws := [(629, .instanceMethod yX1_next), (630, .selects (rr_on 1) yX1_next yX1_next)]) (by decide +kernel) (List.mem_of_getElem? (i := 631) rfl)
  exact ⟨z.1, z.2 _ List.mem_cons_self, z.2 _ (List.mem_cons_of_mem _ List.mem_cons_self)⟩
abbrev mX2_init : rr_M := (2, yX2_init, cX2_init, 1, none)
set_option maxRecDepth 100000 in
theorem fX2_init : rr_mo mX2_init 0 ∧ Jvm.Cond.instanceMethod yX2_init ∈ rr_W := by
  have z := rr_mob_ok (M := mX2_init) (n := 0) (pi := 62) (ws := [(246, .instanceMethod yX2_init)]) (by decide +kernel) (List.mem_of_getElem? (i := 247) rfl)
  exact ⟨z.1, z.2 _ List.mem_cons_self⟩
abbrev mX2_has : rr_M := (2, yX2_has, cX2_has, 2, (some .boolean))
set_option maxRecDepth 100000 in
theorem fX2_has : rr_fv mX2_has 1 := by
  have z := rr_mob_ok (M := mX2_has) (n := 1) (pi := 62) (ws := [(863, .instanceMethod yX2_has), (864, .selects (rr_on 2) yX2_has yX2_has)]) (by decide +kernel) (List.mem_of_getElem? (i := 865) rfl)
  exact ⟨z.1, z.2 _ List.mem_cons_self, z.2 _ (List.mem_cons_of_mem _ List.mem_cons_self)⟩
abbrev mX2_take : rr_M := (2, yX2_take, cX2_take, 4, none)
set_option maxRecDepth 100000 in
theorem fX2_take : rr_fv mX2_take 3 := by
  have z := rr_mob_ok (M := mX2_take) (n := 3) (pi := 62) (ws := [(854, .instanceMethod yX2_take), (855, .selects (rr_on 2) yX2_take yX2_take)]) (by decide +kernel) (List.mem_of_getElem? (i := 856) rfl)
  exact ⟨z.1, z.2 _ List.mem_cons_self, z.2 _ (List.mem_cons_of_mem _ List.mem_cons_self)⟩
abbrev mX2_restore : rr_M := (2, yX2_restore, cX2_restore, 4, none)
set_option maxRecDepth 100000 in
theorem fX2_restore : rr_fv mX2_restore 3 := by
  have z := rr_mob_ok (M := mX2_restore) (n := 3) (pi := 62) (ws := [(867, .instanceMethod yX2_restore), (868, .selects (rr_on 2) yX2_restore yX2_restore)]) (by decide +kernel) (List.mem_of_getElem? (i := 869) rfl)
  exact ⟨z.1, z.2 _ List.mem_cons_self, z.2 _ (List.mem_cons_of_mem _ List.mem_cons_self)⟩
abbrev mX2_forget : rr_M := (2, yX2_forget, cX2_forget, 2, none)
set_option maxRecDepth 100000 in
theorem fX2_forget : rr_fv mX2_forget 0 := by
  have z := rr_mob_ok (M := mX2_forget) (n := 0) (pi := 62) (ws := [(494, .instanceMethod yX2_forget), (495, .selects (rr_on 2) yX2_forget yX2_forget)]) (by decide +kernel) (List.mem_of_getElem? (i := 496) rfl)
  exact ⟨z.1, z.2 _ List.mem_cons_self, z.2 _ (List.mem_cons_of_mem _ List.mem_cons_self)⟩
abbrev mX3_init : rr_M := (3, yX3_init, cX3_init, 1, none)
set_option maxRecDepth 100000 in
theorem fX3_init : rr_mo mX3_init 0 ∧ Jvm.Cond.instanceMethod yX3_init ∈ rr_W := by
  have z := rr_mob_ok (M := mX3_init) (n := 0) (pi := 61) (ws := [(229, .instanceMethod yX3_init)]) (by decide +kernel) (List.mem_of_getElem? (i := 230) rfl)
  exact ⟨z.1, z.2 _ List.mem_cons_self⟩
abbrev mX3_add : rr_M := (3, yX3_add, cX3_add, 2, none)
set_option maxRecDepth 100000 in
theorem fX3_add : rr_fv mX3_add 1 := by
  have z := rr_mob_ok (M := mX3_add) (n := 1) (pi := 61) (ws := [(567, .instanceMethod yX3_add), (568, .selects (rr_on 3) yX3_add yX3_add)]) (by decide +kernel) (List.mem_of_getElem? (i := 569) rfl)
  exact ⟨z.1, z.2 _ List.mem_cons_self, z.2 _ (List.mem_cons_of_mem _ List.mem_cons_self)⟩
abbrev mX3_restore : rr_M := (3, yX3_restore, cX3_restore, 3, none)
set_option maxRecDepth 100000 in
theorem fX3_restore : rr_fv mX3_restore 2 := by
  have z := rr_mob_ok (M := mX3_restore) (n := 2) (pi := 61) (ws := [(641, .instanceMethod yX3_restore), (642, .selects (rr_on 3) yX3_restore yX3_restore)]) (by decide +kernel) (List.mem_of_getElem? (i := 643) rfl)
  exact ⟨z.1, z.2 _ List.mem_cons_self, z.2 _ (List.mem_cons_of_mem _ List.mem_cons_self)⟩
abbrev mX3_forget : rr_M := (3, yX3_forget, cX3_forget, 1, none)
set_option maxRecDepth 100000 in
theorem fX3_forget : rr_fv mX3_forget 0 := by
  have z := rr_mob_ok (M := mX3_forget) (n := 0) (pi := 61) (ws := [(498, .instanceMethod yX3_forget), (499, .selects (rr_on 3) yX3_forget yX3_forget)]) (by decide +kernel) (List.mem_of_getElem? (i := 500) rfl)
  exact ⟨z.1, z.2 _ List.mem_cons_self, z.2 _ (List.mem_cons_of_mem _ List.mem_cons_self)⟩
abbrev mX4_init : rr_M := (4, yX4_init, cX4_init, 2, none)
set_option maxRecDepth 100000 in
theorem fX4_init : rr_mo mX4_init 1 ∧ Jvm.Cond.instanceMethod yX4_init ∈ rr_W := by
  have z := rr_mob_ok (M := mX4_init) (n := 1) (pi := 63) (ws := [(263, .instanceMethod yX4_init)]) (by decide +kernel) (List.mem_of_getElem? (i := 264) rfl)
  exact ⟨z.1, z.2 _ List.mem_cons_self⟩
abbrev mX4_search : rr_M := (4, yX4_search, cX4_search, 4, none)
set_option maxRecDepth 100000 in
theorem fX4_search : rr_fv mX4_search 3 := by
  have z := rr_mob_ok (M := mX4_search) (n := 3) (pi := 63) (ws := [(683, .instanceMethod yX4_search), (684, .selects (rr_on 4) yX4_search yX4_search)]) (by decide +kernel) (List.mem_of_getElem? (i := 685) rfl)
  exact ⟨z.1, z.2 _ List.mem_cons_self, z.2 _ (List.mem_cons_of_mem _ List.mem_cons_self)⟩
abbrev mX4_soonest : rr_M := (4, yX4_soonest, cX4_soonest, 1, (some .int))
set_option maxRecDepth 100000 in
theorem fX4_soonest : rr_fv mX4_soonest 0 := by
  have z := rr_mob_ok (M := mX4_soonest) (n := 0) (pi := 63) (ws := [(720, .instanceMethod yX4_soonest), (721, .selects (rr_on 4) yX4_soonest yX4_soonest)]) (by decide +kernel) (List.mem_of_getElem? (i := 722) rfl)
  exact ⟨z.1, z.2 _ List.mem_cons_self, z.2 _ (List.mem_cons_of_mem _ List.mem_cons_self)⟩
abbrev mX4_placed : rr_M := (4, yX4_placed, cX4_placed, 2, (some .int))
set_option maxRecDepth 100000 in
theorem fX4_placed : rr_fv mX4_placed 1 := by
  have z := rr_mob_ok (M := mX4_placed) (n := 1) (pi := 63) (ws := [(724, .instanceMethod yX4_placed), (725, .selects (rr_on 4) yX4_placed yX4_placed)]) (by decide +kernel) (List.mem_of_getElem? (i := 726) rfl)
  exact ⟨z.1, z.2 _ List.mem_cons_self, z.2 _ (List.mem_cons_of_mem _ List.mem_cons_self)⟩
abbrev mX4_place : rr_M := (4, yX4_place, cX4_place, 9, none)
set_option maxRecDepth 100000 in
theorem fX4_place : rr_fs mX4_place 4 := by
  have z := rr_mob_ok (M := mX4_place) (n := 4) (pi := 63) (ws := [(696, .static yX4_place)]) (by decide +kernel) (List.mem_of_getElem? (i := 697) rfl)
  exact ⟨z.1, z.2 _ List.mem_cons_self⟩
abbrev mX4_isBetter : rr_M := (4, yX4_isBetter, cX4_isBetter, 4, (some .boolean))
set_option maxRecDepth 100000 in
theorem fX4_isBetter : rr_fv mX4_isBetter 2 := by
  have z := rr_mob_ok (M := mX4_isBetter) (n := 2) (pi := 63) (ws := [(704, .instanceMethod yX4_isBetter), (14, .selects (rr_on 4) yX4_isBetter yX4_isBetter)]) (by decide +kernel) (List.mem_of_getElem? (i := 705) rfl)
  exact ⟨z.1, z.2 _ List.mem_cons_self, z.2 _ (List.mem_cons_of_mem _ List.mem_cons_self)⟩
abbrev mX4_isPlaced : rr_M := (4, yX4_isPlaced, cX4_isPlaced, 4, (some .boolean))
set_option maxRecDepth 100000 in
theorem fX4_isPlaced : rr_fv mX4_isPlaced 2 := by
  have z := rr_mob_ok (M := mX4_isPlaced) (n := 2) (pi := 63) (ws := [(709, .instanceMethod yX4_isPlaced), (15, .selects (rr_on 4) yX4_isPlaced yX4_isPlaced)]) (by decide +kernel) (List.mem_of_getElem? (i := 710) rfl)
  exact ⟨z.1, z.2 _ List.mem_cons_self, z.2 _ (List.mem_cons_of_mem _ List.mem_cons_self)⟩
abbrev mX4_isTaken : rr_M := (4, yX4_isTaken, cX4_isTaken, 4, (some .boolean))
set_option maxRecDepth 100000 in
theorem fX4_isTaken : rr_fv mX4_isTaken 2 := by
  have z := rr_mob_ok (M := mX4_isTaken) (n := 2) (pi := 63) (ws := [(713, .instanceMethod yX4_isTaken), (16, .selects (rr_on 4) yX4_isTaken yX4_isTaken)]) (by decide +kernel) (List.mem_of_getElem? (i := 714) rfl)
  exact ⟨z.1, z.2 _ List.mem_cons_self, z.2 _ (List.mem_cons_of_mem _ List.mem_cons_self)⟩
abbrev mX4_offer : rr_M := (4, yX4_offer, cX4_offer, 3, none)
set_option maxRecDepth 100000 in
theorem fX4_offer : rr_fv mX4_offer 2 := by
  have z := rr_mob_ok (M := mX4_offer) (n := 2) (pi := 63) (ws := [(700, .instanceMethod yX4_offer), (13, .selects (rr_on 4) yX4_offer yX4_offer)]) (by decide +kernel) (List.mem_of_getElem? (i := 701) rfl)
  exact ⟨z.1, z.2 _ List.mem_cons_self, z.2 _ (List.mem_cons_of_mem _ List.mem_cons_self)⟩
abbrev mX5_init : rr_M := (5, yX5_init, cX5_init, 1, none)
set_option maxRecDepth 100000 in
theorem fX5_init : rr_mo mX5_init 0 ∧ Jvm.Cond.instanceMethod yX5_init ∈ rr_W := by
  have z := rr_mob_ok (M := mX5_init) (n := 0) (pi := 59) (ws := [(145, .instanceMethod yX5_init)]) (by decide +kernel) (List.mem_of_getElem? (i := 146) rfl)
  exact ⟨z.1, z.2 _ List.mem_cons_self⟩
abbrev mX5_add : rr_M := (5, yX5_add, cX5_add, 2, (some .boolean))
set_option maxRecDepth 100000 in
theorem fX5_add : rr_fv mX5_add 1 := by
  have z := rr_mob_ok (M := mX5_add) (n := 1) (pi := 59) (ws := [(402, .instanceMethod yX5_add), (403, .selects (rr_on 5) yX5_add yX5_add)]) (by decide +kernel) (List.mem_of_getElem? (i := 404) rfl)
  exact ⟨z.1, z.2 _ List.mem_cons_self, z.2 _ (List.mem_cons_of_mem _ List.mem_cons_self)⟩
abbrev mX5_read : rr_M := (5, yX5_read, cX5_read, 2, none)
set_option maxRecDepth 100000 in
theorem fX5_read : rr_fv mX5_read 0 := by
  have z := rr_mob_ok (M := mX5_read) (n := 0) (pi := 59) (ws := [(411, .instanceMethod yX5_read), (412, .selects (rr_on 5) yX5_read yX5_read)]) (by decide +kernel) (List.mem_of_getElem? (i := 413) rfl)
  exact ⟨z.1, z.2 _ List.mem_cons_self, z.2 _ (List.mem_cons_of_mem _ List.mem_cons_self)⟩
abbrev mX5_fail : rr_M := (5, yX5_fail, cX5_fail, 3, none)
set_option maxRecDepth 100000 in
theorem fX5_fail : rr_fv mX5_fail 2 := by
  have z := rr_mob_ok (M := mX5_fail) (n := 2) (pi := 59) (ws := [(428, .instanceMethod yX5_fail), (2, .selects (rr_on 5) yX5_fail yX5_fail)]) (by decide +kernel) (List.mem_of_getElem? (i := 429) rfl)
  exact ⟨z.1, z.2 _ List.mem_cons_self, z.2 _ (List.mem_cons_of_mem _ List.mem_cons_self)⟩
abbrev mX5_nextLetter : rr_M := (5, yX5_nextLetter, cX5_nextLetter, 1, (some .int))
set_option maxRecDepth 100000 in
theorem fX5_nextLetter : rr_fv mX5_nextLetter 0 := by
  have z := rr_mob_ok (M := mX5_nextLetter) (n := 0) (pi := 59) (ws := [(420, .instanceMethod yX5_nextLetter), (0, .selects (rr_on 5) yX5_nextLetter yX5_nextLetter)]) (by decide +kernel) (List.mem_of_getElem? (i := 421) rfl)
  exact ⟨z.1, z.2 _ List.mem_cons_self, z.2 _ (List.mem_cons_of_mem _ List.mem_cons_self)⟩
abbrev mX5_isFigure : rr_M := (5, yX5_isFigure, cX5_isFigure, 1, (some .boolean))
set_option maxRecDepth 100000 in
theorem fX5_isFigure : rr_fs mX5_isFigure 1 := by
  have z := rr_mob_ok (M := mX5_isFigure) (n := 1) (pi := 59) (ws := [(435, .static yX5_isFigure)]) (by decide +kernel) (List.mem_of_getElem? (i := 436) rfl)
  exact ⟨z.1, z.2 _ List.mem_cons_self⟩
abbrev mX5_readNumber : rr_M := (5, yX5_readNumber, cX5_readNumber, 4, (some .int))
set_option maxRecDepth 100000 in
theorem fX5_readNumber : rr_fv mX5_readNumber 2 := by
  have z := rr_mob_ok (M := mX5_readNumber) (n := 2) (pi := 59) (ws := [(432, .instanceMethod yX5_readNumber), (3, .selects (rr_on 5) yX5_readNumber yX5_readNumber)]) (by decide +kernel) (List.mem_of_getElem? (i := 433) rfl)
  exact ⟨z.1, z.2 _ List.mem_cons_self, z.2 _ (List.mem_cons_of_mem _ List.mem_cons_self)⟩
abbrev mX5_readEnd : rr_M := (5, yX5_readEnd, cX5_readEnd, 1, none)
set_option maxRecDepth 100000 in
theorem fX5_readEnd : rr_fv mX5_readEnd 0 := by
  have z := rr_mob_ok (M := mX5_readEnd) (n := 0) (pi := 59) (ws := [(443, .instanceMethod yX5_readEnd), (4, .selects (rr_on 5) yX5_readEnd yX5_readEnd)]) (by decide +kernel) (List.mem_of_getElem? (i := 444) rfl)
  exact ⟨z.1, z.2 _ List.mem_cons_self, z.2 _ (List.mem_cons_of_mem _ List.mem_cons_self)⟩
abbrev mX5_readTides : rr_M := (5, yX5_readTides, cX5_readTides, 2, none)
set_option maxRecDepth 100000 in
theorem fX5_readTides : rr_fv mX5_readTides 0 := by
  have z := rr_mob_ok (M := mX5_readTides) (n := 0) (pi := 59) (ws := [(424, .instanceMethod yX5_readTides), (1, .selects (rr_on 5) yX5_readTides yX5_readTides)]) (by decide +kernel) (List.mem_of_getElem? (i := 425) rfl)
  exact ⟨z.1, z.2 _ List.mem_cons_self, z.2 _ (List.mem_cons_of_mem _ List.mem_cons_self)⟩
abbrev mX5_readPart : rr_M := (5, yX5_readPart, cX5_readPart, 1, none)
set_option maxRecDepth 100000 in
theorem fX5_readPart : rr_fv mX5_readPart 0 := by
  have z := rr_mob_ok (M := mX5_readPart) (n := 0) (pi := 59) (ws := [(447, .instanceMethod yX5_readPart), (5, .selects (rr_on 5) yX5_readPart yX5_readPart)]) (by decide +kernel) (List.mem_of_getElem? (i := 448) rfl)
  exact ⟨z.1, z.2 _ List.mem_cons_self, z.2 _ (List.mem_cons_of_mem _ List.mem_cons_self)⟩
abbrev mX5_readWind : rr_M := (5, yX5_readWind, cX5_readWind, 1, none)
set_option maxRecDepth 100000 in
theorem fX5_readWind : rr_fv mX5_readWind 0 := by
  have z := rr_mob_ok (M := mX5_readWind) (n := 0) (pi := 59) (ws := [(451, .instanceMethod yX5_readWind), (6, .selects (rr_on 5) yX5_readWind yX5_readWind)]) (by decide +kernel) (List.mem_of_getElem? (i := 452) rfl)
  exact ⟨z.1, z.2 _ List.mem_cons_self, z.2 _ (List.mem_cons_of_mem _ List.mem_cons_self)⟩
abbrev mX5_readCell : rr_M := (5, yX5_readCell, cX5_readCell, 1, none)
set_option maxRecDepth 100000 in
theorem fX5_readCell : rr_fv mX5_readCell 0 := by
  have z := rr_mob_ok (M := mX5_readCell) (n := 0) (pi := 59) (ws := [(455, .instanceMethod yX5_readCell), (7, .selects (rr_on 5) yX5_readCell yX5_readCell)]) (by decide +kernel) (List.mem_of_getElem? (i := 456) rfl)
  exact ⟨z.1, z.2 _ List.mem_cons_self, z.2 _ (List.mem_cons_of_mem _ List.mem_cons_self)⟩
abbrev mX5_readClause : rr_M := (5, yX5_readClause, cX5_readClause, 5, none)
set_option maxRecDepth 100000 in
theorem fX5_readClause : rr_fv mX5_readClause 0 := by
  have z := rr_mob_ok (M := mX5_readClause) (n := 0) (pi := 59) (ws := [(463, .instanceMethod yX5_readClause), (8, .selects (rr_on 5) yX5_readClause yX5_readClause)]) (by decide +kernel) (List.mem_of_getElem? (i := 464) rfl)
  exact ⟨z.1, z.2 _ List.mem_cons_self, z.2 _ (List.mem_cons_of_mem _ List.mem_cons_self)⟩
abbrev mX5_readLean : rr_M := (5, yX5_readLean, cX5_readLean, 2, (some .int))
set_option maxRecDepth 100000 in
theorem fX5_readLean : rr_fv mX5_readLean 0 := by
  have z := rr_mob_ok (M := mX5_readLean) (n := 0) (pi := 59) (ws := [(467, .instanceMethod yX5_readLean), (9, .selects (rr_on 5) yX5_readLean yX5_readLean)]) (by decide +kernel) (List.mem_of_getElem? (i := 468) rfl)
  exact ⟨z.1, z.2 _ List.mem_cons_self, z.2 _ (List.mem_cons_of_mem _ List.mem_cons_self)⟩
abbrev mX6_init : rr_M := (6, yX6_init, cX6_init, 2, none)
set_option maxRecDepth 100000 in
theorem fX6_init : rr_mo mX6_init 1 ∧ Jvm.Cond.instanceMethod yX6_init ∈ rr_W := by
  have z := rr_mob_ok (M := mX6_init) (n := 1) (pi := 60) (ws := [(182, .instanceMethod yX6_init)]) (by decide +kernel) (List.mem_of_getElem? (i := 183) rfl)
  exact ⟨z.1, z.2 _ List.mem_cons_self⟩
abbrev mX6_restart : rr_M := (6, yX6_restart, cX6_restart, 2, none)
set_option maxRecDepth 100000 in
theorem fX6_restart : rr_fv mX6_restart 0 := by
  have z := rr_mob_ok (M := mX6_restart) (n := 0) (pi := 60) (ws := [(186, .instanceMethod yX6_restart), (187, .selects (rr_on 6) yX6_restart yX6_restart)]) (by decide +kernel) (List.mem_of_getElem? (i := 188) rfl)
  exact ⟨z.1, z.2 _ List.mem_cons_self, z.2 _ (List.mem_cons_of_mem _ List.mem_cons_self)⟩
abbrev mX6_copy : rr_M := (6, yX6_copy, cX6_copy, 2, none)
set_option maxRecDepth 100000 in
theorem fX6_copy : rr_fv mX6_copy 1 := by
  have z := rr_mob_ok (M := mX6_copy) (n := 1) (pi := 60) (ws := [(653, .instanceMethod yX6_copy), (654, .selects (rr_on 6) yX6_copy yX6_copy)]) (by decide +kernel) (List.mem_of_getElem? (i := 655) rfl)
  exact ⟨z.1, z.2 _ List.mem_cons_self, z.2 _ (List.mem_cons_of_mem _ List.mem_cons_self)⟩
abbrev mX6_save : rr_M := (6, yX6_save, cX6_save, 3, none)
set_option maxRecDepth 100000 in
theorem fX6_save : rr_fv mX6_save 2 := by
  have z := rr_mob_ok (M := mX6_save) (n := 2) (pi := 60) (ws := [(571, .instanceMethod yX6_save), (572, .selects (rr_on 6) yX6_save yX6_save)]) (by decide +kernel) (List.mem_of_getElem? (i := 573) rfl)
  exact ⟨z.1, z.2 _ List.mem_cons_self, z.2 _ (List.mem_cons_of_mem _ List.mem_cons_self)⟩
abbrev mX6_load : rr_M := (6, yX6_load, cX6_load, 3, none)
set_option maxRecDepth 100000 in
theorem fX6_load : rr_fv mX6_load 2 := by
  have z := rr_mob_ok (M := mX6_load) (n := 2) (pi := 60) (ws := [(645, .instanceMethod yX6_load), (646, .selects (rr_on 6) yX6_load yX6_load)]) (by decide +kernel) (List.mem_of_getElem? (i := 647) rfl)
  exact ⟨z.1, z.2 _ List.mem_cons_self, z.2 _ (List.mem_cons_of_mem _ List.mem_cons_self)⟩
abbrev mX6_isNowhere : rr_M := (6, yX6_isNowhere, cX6_isNowhere, 2, (some .boolean))
set_option maxRecDepth 100000 in
theorem fX6_isNowhere : rr_fv mX6_isNowhere 1 := by
  have z := rr_mob_ok (M := mX6_isNowhere) (n := 1) (pi := 60) (ws := [(535, .instanceMethod yX6_isNowhere), (536, .selects (rr_on 6) yX6_isNowhere yX6_isNowhere)]) (by decide +kernel) (List.mem_of_getElem? (i := 537) rfl)
  exact ⟨z.1, z.2 _ List.mem_cons_self, z.2 _ (List.mem_cons_of_mem _ List.mem_cons_self)⟩
abbrev mX6_clauseIn : rr_M := (6, yX6_clauseIn, cX6_clauseIn, 3, (some .int))
set_option maxRecDepth 100000 in
theorem fX6_clauseIn : rr_fv mX6_clauseIn 1 := by
  have z := rr_mob_ok (M := mX6_clauseIn) (n := 1) (pi := 60) (ws := [(551, .instanceMethod yX6_clauseIn), (552, .selects (rr_on 6) yX6_clauseIn yX6_clauseIn)]) (by decide +kernel) (List.mem_of_getElem? (i := 553) rfl)
  exact ⟨z.1, z.2 _ List.mem_cons_self, z.2 _ (List.mem_cons_of_mem _ List.mem_cons_self)⟩
abbrev mX6_mayWrite : rr_M := (6, yX6_mayWrite, cX6_mayWrite, 3, (some .boolean))
set_option maxRecDepth 100000 in
theorem fX6_mayWrite : rr_fv mX6_mayWrite 2 := by
  have z := rr_mob_ok (M := mX6_mayWrite) (n := 2) (pi := 60) (ws := [(560, .instanceMethod yX6_mayWrite), (561, .selects (rr_on 6) yX6_mayWrite yX6_mayWrite)]) (by decide +kernel) (List.mem_of_getElem? (i := 562) rfl)
  exact ⟨z.1, z.2 _ List.mem_cons_self, z.2 _ (List.mem_cons_of_mem _ List.mem_cons_self)⟩
abbrev mX6_begin : rr_M := (6, yX6_begin, cX6_begin, 3, none)
set_option maxRecDepth 100000 in
theorem fX6_begin : rr_fv mX6_begin 2 := by
  have z := rr_mob_ok (M := mX6_begin) (n := 2) (pi := 60) (ws := [(576, .instanceMethod yX6_begin), (577, .selects (rr_on 6) yX6_begin yX6_begin)]) (by decide +kernel) (List.mem_of_getElem? (i := 578) rfl)
  exact ⟨z.1, z.2 _ List.mem_cons_self, z.2 _ (List.mem_cons_of_mem _ List.mem_cons_self)⟩
abbrev mX6_freeStick : rr_M := (6, yX6_freeStick, cX6_freeStick, 1, none)
set_option maxRecDepth 100000 in
theorem fX6_freeStick : rr_fv mX6_freeStick 0 := by
  have z := rr_mob_ok (M := mX6_freeStick) (n := 0) (pi := 60) (ws := [(657, .instanceMethod yX6_freeStick), (658, .selects (rr_on 6) yX6_freeStick yX6_freeStick)]) (by decide +kernel) (List.mem_of_getElem? (i := 659) rfl)
  exact ⟨z.1, z.2 _ List.mem_cons_self, z.2 _ (List.mem_cons_of_mem _ List.mem_cons_self)⟩
abbrev mX6_remove : rr_M := (6, yX6_remove, cX6_remove, 2, none)
set_option maxRecDepth 100000 in
theorem fX6_remove : rr_fv mX6_remove 1 := by
  have z := rr_mob_ok (M := mX6_remove) (n := 1) (pi := 60) (ws := [(190, .instanceMethod yX6_remove), (191, .selects (rr_on 6) yX6_remove yX6_remove)]) (by decide +kernel) (List.mem_of_getElem? (i := 192) rfl)
  exact ⟨z.1, z.2 _ List.mem_cons_self, z.2 _ (List.mem_cons_of_mem _ List.mem_cons_self)⟩
abbrev mX6_removeAll : rr_M := (6, yX6_removeAll, cX6_removeAll, 3, (some .int))
set_option maxRecDepth 100000 in
theorem fX6_removeAll : rr_fv mX6_removeAll 0 := by
  have z := rr_mob_ok (M := mX6_removeAll) (n := 0) (pi := 60) (ws := [(596, .instanceMethod yX6_removeAll), (597, .selects (rr_on 6) yX6_removeAll yX6_removeAll)]) (by decide +kernel) (List.mem_of_getElem? (i := 598) rfl)
  exact ⟨z.1, z.2 _ List.mem_cons_self, z.2 _ (List.mem_cons_of_mem _ List.mem_cons_self)⟩
abbrev mX6_layAll : rr_M := (6, yX6_layAll, cX6_layAll, 3, none)
set_option maxRecDepth 100000 in
theorem fX6_layAll : rr_fv mX6_layAll 1 := by
  have z := rr_mob_ok (M := mX6_layAll) (n := 1) (pi := 60) (ws := [(792, .instanceMethod yX6_layAll), (793, .selects (rr_on 6) yX6_layAll yX6_layAll)]) (by decide +kernel) (List.mem_of_getElem? (i := 794) rfl)
  exact ⟨z.1, z.2 _ List.mem_cons_self, z.2 _ (List.mem_cons_of_mem _ List.mem_cons_self)⟩
abbrev mX6_isDone : rr_M := (6, yX6_isDone, cX6_isDone, 2, (some .boolean))
set_option maxRecDepth 100000 in
theorem fX6_isDone : rr_fv mX6_isDone 1 := by
  have z := rr_mob_ok (M := mX6_isDone) (n := 1) (pi := 60) (ws := [(531, .instanceMethod yX6_isDone), (532, .selects (rr_on 6) yX6_isDone yX6_isDone)]) (by decide +kernel) (List.mem_of_getElem? (i := 533) rfl)
  exact ⟨z.1, z.2 _ List.mem_cons_self, z.2 _ (List.mem_cons_of_mem _ List.mem_cons_self)⟩
abbrev mX6_forceSet : rr_M := (6, yX6_forceSet, cX6_forceSet, 4, (some .int))
set_option maxRecDepth 100000 in
theorem fX6_forceSet : rr_fv mX6_forceSet 0 := by
  have z := rr_mob_ok (M := mX6_forceSet) (n := 0) (pi := 60) (ws := [(527, .instanceMethod yX6_forceSet), (528, .selects (rr_on 6) yX6_forceSet yX6_forceSet)]) (by decide +kernel) (List.mem_of_getElem? (i := 529) rfl)
  exact ⟨z.1, z.2 _ List.mem_cons_self, z.2 _ (List.mem_cons_of_mem _ List.mem_cons_self)⟩
abbrev mX6_isInForce : rr_M := (6, yX6_isInForce, cX6_isInForce, 2, (some .boolean))
set_option maxRecDepth 100000 in
theorem fX6_isInForce : rr_fv mX6_isInForce 1 := by
  have z := rr_mob_ok (M := mX6_isInForce) (n := 1) (pi := 60) (ws := [(661, .instanceMethod yX6_isInForce), (662, .selects (rr_on 6) yX6_isInForce yX6_isInForce)]) (by decide +kernel) (List.mem_of_getElem? (i := 663) rfl)
  exact ⟨z.1, z.2 _ List.mem_cons_self, z.2 _ (List.mem_cons_of_mem _ List.mem_cons_self)⟩
abbrev mX6_passHour : rr_M := (6, yX6_passHour, cX6_passHour, 2, none)
set_option maxRecDepth 100000 in
theorem fX6_passHour : rr_fv mX6_passHour 0 := by
  have z := rr_mob_ok (M := mX6_passHour) (n := 0) (pi := 60) (ws := [(608, .instanceMethod yX6_passHour), (609, .selects (rr_on 6) yX6_passHour yX6_passHour)]) (by decide +kernel) (List.mem_of_getElem? (i := 610) rfl)
  exact ⟨z.1, z.2 _ List.mem_cons_self, z.2 _ (List.mem_cons_of_mem _ List.mem_cons_self)⟩
abbrev mX6_age : rr_M := (6, yX6_age, cX6_age, 2, none)
set_option maxRecDepth 100000 in
theorem fX6_age : rr_fv mX6_age 1 := by
  have z := rr_mob_ok (M := mX6_age) (n := 1) (pi := 60) (ws := [(613, .instanceMethod yX6_age), (11, .selects (rr_on 6) yX6_age yX6_age)]) (by decide +kernel) (List.mem_of_getElem? (i := 614) rfl)
  exact ⟨z.1, z.2 _ List.mem_cons_self, z.2 _ (List.mem_cons_of_mem _ List.mem_cons_self)⟩
abbrev mX7_init : rr_M := (7, yX7_init, cX7_init, 3, none)
set_option maxRecDepth 100000 in
theorem fX7_init : rr_mo mX7_init 2 ∧ Jvm.Cond.instanceMethod yX7_init ∈ rr_W := by
  have z := rr_mob_ok (M := mX7_init) (n := 2) (pi := 65) (ws := [(307, .instanceMethod yX7_init)]) (by decide +kernel) (List.mem_of_getElem? (i := 308) rfl)
  exact ⟨z.1, z.2 _ List.mem_cons_self⟩
abbrev mX7_add : rr_M := (7, yX7_add, cX7_add, 4, (some .boolean))
set_option maxRecDepth 100000 in
theorem fX7_add : rr_fv mX7_add 3 := by
  have z := rr_mob_ok (M := mX7_add) (n := 3) (pi := 65) (ws := [(768, .instanceMethod yX7_add), (769, .selects (rr_on 7) yX7_add yX7_add)]) (by decide +kernel) (List.mem_of_getElem? (i := 770) rfl)
  exact ⟨z.1, z.2 _ List.mem_cons_self, z.2 _ (List.mem_cons_of_mem _ List.mem_cons_self)⟩
abbrev mX7_forget : rr_M := (7, yX7_forget, cX7_forget, 1, none)
set_option maxRecDepth 100000 in
theorem fX7_forget : rr_fv mX7_forget 0 := by
  have z := rr_mob_ok (M := mX7_forget) (n := 0) (pi := 65) (ws := [(486, .instanceMethod yX7_forget), (487, .selects (rr_on 7) yX7_forget yX7_forget)]) (by decide +kernel) (List.mem_of_getElem? (i := 488) rfl)
  exact ⟨z.1, z.2 _ List.mem_cons_self, z.2 _ (List.mem_cons_of_mem _ List.mem_cons_self)⟩
abbrev mX7_begins : rr_M := (7, yX7_begins, cX7_begins, 3, (some .int))
set_option maxRecDepth 100000 in
theorem fX7_begins : rr_fv mX7_begins 0 := by
  have z := rr_mob_ok (M := mX7_begins) (n := 0) (pi := 65) (ws := [(776, .instanceMethod yX7_begins), (777, .selects (rr_on 7) yX7_begins yX7_begins)]) (by decide +kernel) (List.mem_of_getElem? (i := 778) rfl)
  exact ⟨z.1, z.2 _ List.mem_cons_self, z.2 _ (List.mem_cons_of_mem _ List.mem_cons_self)⟩
abbrev mX7_fits : rr_M := (7, yX7_fits, cX7_fits, 4, (some .boolean))
set_option maxRecDepth 100000 in
theorem fX7_fits : rr_fv mX7_fits 1 := by
  have z := rr_mob_ok (M := mX7_fits) (n := 1) (pi := 65) (ws := [(782, .instanceMethod yX7_fits), (18, .selects (rr_on 7) yX7_fits yX7_fits)]) (by decide +kernel) (List.mem_of_getElem? (i := 783) rfl)
  exact ⟨z.1, z.2 _ List.mem_cons_self, z.2 _ (List.mem_cons_of_mem _ List.mem_cons_self)⟩
abbrev mX7_latestHour : rr_M := (7, yX7_latestHour, cX7_latestHour, 3, (some .int))
set_option maxRecDepth 100000 in
theorem fX7_latestHour : rr_fv mX7_latestHour 0 := by
  have z := rr_mob_ok (M := mX7_latestHour) (n := 0) (pi := 65) (ws := [(786, .instanceMethod yX7_latestHour), (19, .selects (rr_on 7) yX7_latestHour yX7_latestHour)]) (by decide +kernel) (List.mem_of_getElem? (i := 787) rfl)
  exact ⟨z.1, z.2 _ List.mem_cons_self, z.2 _ (List.mem_cons_of_mem _ List.mem_cons_self)⟩
abbrev mX7_fitsBehind : rr_M := (7, yX7_fitsBehind, cX7_fitsBehind, 5, (some .boolean))
set_option maxRecDepth 100000 in
theorem fX7_fitsBehind : rr_fv mX7_fitsBehind 2 := by
  have z := rr_mob_ok (M := mX7_fitsBehind) (n := 2) (pi := 65) (ws := [(798, .instanceMethod yX7_fitsBehind), (20, .selects (rr_on 7) yX7_fitsBehind yX7_fitsBehind)]) (by decide +kernel) (List.mem_of_getElem? (i := 799) rfl)
  exact ⟨z.1, z.2 _ List.mem_cons_self, z.2 _ (List.mem_cons_of_mem _ List.mem_cons_self)⟩
abbrev mX7_countInForce : rr_M := (7, yX7_countInForce, cX7_countInForce, 4, none)
set_option maxRecDepth 100000 in
theorem fX7_countInForce : rr_fv mX7_countInForce 2 := by
  have z := rr_mob_ok (M := mX7_countInForce) (n := 2) (pi := 65) (ws := [(810, .instanceMethod yX7_countInForce), (811, .selects (rr_on 7) yX7_countInForce yX7_countInForce)]) (by decide +kernel) (List.mem_of_getElem? (i := 812) rfl)
  exact ⟨z.1, z.2 _ List.mem_cons_self, z.2 _ (List.mem_cons_of_mem _ List.mem_cons_self)⟩
abbrev mX7_forceBehind : rr_M := (7, yX7_forceBehind, cX7_forceBehind, 4, (some .int))
set_option maxRecDepth 100000 in
theorem fX7_forceBehind : rr_fv mX7_forceBehind 2 := by
  have z := rr_mob_ok (M := mX7_forceBehind) (n := 2) (pi := 65) (ws := [(815, .instanceMethod yX7_forceBehind), (21, .selects (rr_on 7) yX7_forceBehind yX7_forceBehind)]) (by decide +kernel) (List.mem_of_getElem? (i := 816) rfl)
  exact ⟨z.1, z.2 _ List.mem_cons_self, z.2 _ (List.mem_cons_of_mem _ List.mem_cons_self)⟩
abbrev mX7_addForce : rr_M := (7, yX7_addForce, cX7_addForce, 3, none)
set_option maxRecDepth 100000 in
theorem fX7_addForce : rr_fv mX7_addForce 1 := by
  have z := rr_mob_ok (M := mX7_addForce) (n := 1) (pi := 65) (ws := [(819, .instanceMethod yX7_addForce), (22, .selects (rr_on 7) yX7_addForce yX7_addForce)]) (by decide +kernel) (List.mem_of_getElem? (i := 820) rfl)
  exact ⟨z.1, z.2 _ List.mem_cons_self, z.2 _ (List.mem_cons_of_mem _ List.mem_cons_self)⟩
abbrev mX7_bestToAsk : rr_M := (7, yX7_bestToAsk, cX7_bestToAsk, 6, (some .int))
set_option maxRecDepth 100000 in
theorem fX7_bestToAsk : rr_fv mX7_bestToAsk 1 := by
  have z := rr_mob_ok (M := mX7_bestToAsk) (n := 1) (pi := 65) (ws := [(822, .instanceMethod yX7_bestToAsk), (823, .selects (rr_on 7) yX7_bestToAsk yX7_bestToAsk)]) (by decide +kernel) (List.mem_of_getElem? (i := 824) rfl)
  exact ⟨z.1, z.2 _ List.mem_cons_self, z.2 _ (List.mem_cons_of_mem _ List.mem_cons_self)⟩
abbrev mX8_init : rr_M := (8, yX8_init, cX8_init, 1, none)
set_option maxRecDepth 100000 in
theorem fX8_init : rr_mo mX8_init 0 ∧ Jvm.Cond.instanceMethod yX8_init ∈ rr_W := by
  have z := rr_mob_ok (M := mX8_init) (n := 0) (pi := 58) (ws := [(83, .instanceMethod yX8_init)]) (by decide +kernel) (List.mem_of_getElem? (i := 84) rfl)
  exact ⟨z.1, z.2 _ List.mem_cons_self⟩
abbrev mX8_empty : rr_M := (8, yX8_empty, cX8_empty, 1, none)
set_option maxRecDepth 100000 in
theorem fX8_empty : rr_fv mX8_empty 0 := by
  have z := rr_mob_ok (M := mX8_empty) (n := 0) (pi := 58) (ws := [(415, .instanceMethod yX8_empty), (416, .selects (rr_on 8) yX8_empty yX8_empty)]) (by decide +kernel) (List.mem_of_getElem? (i := 417) rfl)
  exact ⟨z.1, z.2 _ List.mem_cons_self, z.2 _ (List.mem_cons_of_mem _ List.mem_cons_self)⟩
abbrev mX8_become : rr_M := (8, yX8_become, cX8_become, 2, none)
set_option maxRecDepth 100000 in
theorem fX8_become : rr_fv mX8_become 1 := by
  have z := rr_mob_ok (M := mX8_become) (n := 1) (pi := 58) (ws := [(478, .instanceMethod yX8_become), (479, .selects (rr_on 8) yX8_become yX8_become)]) (by decide +kernel) (List.mem_of_getElem? (i := 480) rfl)
  exact ⟨z.1, z.2 _ List.mem_cons_self, z.2 _ (List.mem_cons_of_mem _ List.mem_cons_self)⟩
abbrev mX8_addTide : rr_M := (8, yX8_addTide, cX8_addTide, 2, none)
set_option maxRecDepth 100000 in
theorem fX8_addTide : rr_fv mX8_addTide 1 := by
  have z := rr_mob_ok (M := mX8_addTide) (n := 1) (pi := 58) (ws := [(438, .instanceMethod yX8_addTide), (439, .selects (rr_on 8) yX8_addTide yX8_addTide)]) (by decide +kernel) (List.mem_of_getElem? (i := 440) rfl)
  exact ⟨z.1, z.2 _ List.mem_cons_self, z.2 _ (List.mem_cons_of_mem _ List.mem_cons_self)⟩
abbrev mX8_addCell : rr_M := (8, yX8_addCell, cX8_addCell, 2, none)
set_option maxRecDepth 100000 in
theorem fX8_addCell : rr_fv mX8_addCell 1 := by
  have z := rr_mob_ok (M := mX8_addCell) (n := 1) (pi := 58) (ws := [(458, .instanceMethod yX8_addCell), (459, .selects (rr_on 8) yX8_addCell yX8_addCell)]) (by decide +kernel) (List.mem_of_getElem? (i := 460) rfl)
  exact ⟨z.1, z.2 _ List.mem_cons_self, z.2 _ (List.mem_cons_of_mem _ List.mem_cons_self)⟩
abbrev mX8_addClause : rr_M := (8, yX8_addClause, cX8_addClause, 5, none)
set_option maxRecDepth 100000 in
theorem fX8_addClause : rr_fv mX8_addClause 4 := by
  have z := rr_mob_ok (M := mX8_addClause) (n := 4) (pi := 58) (ws := [(474, .instanceMethod yX8_addClause), (475, .selects (rr_on 8) yX8_addClause yX8_addClause)]) (by decide +kernel) (List.mem_of_getElem? (i := 476) rfl)
  exact ⟨z.1, z.2 _ List.mem_cons_self, z.2 _ (List.mem_cons_of_mem _ List.mem_cons_self)⟩
abbrev mX8_isTold : rr_M := (8, yX8_isTold, cX8_isTold, 1, (some .boolean))
set_option maxRecDepth 100000 in
theorem fX8_isTold : rr_fv mX8_isTold 0 := by
  have z := rr_mob_ok (M := mX8_isTold) (n := 0) (pi := 58) (ws := [(592, .instanceMethod yX8_isTold), (593, .selects (rr_on 8) yX8_isTold yX8_isTold)]) (by decide +kernel) (List.mem_of_getElem? (i := 594) rfl)
  exact ⟨z.1, z.2 _ List.mem_cons_self, z.2 _ (List.mem_cons_of_mem _ List.mem_cons_self)⟩
abbrev mX8_hasClause : rr_M := (8, yX8_hasClause, cX8_hasClause, 2, (some .boolean))
set_option maxRecDepth 100000 in
theorem fX8_hasClause : rr_fv mX8_hasClause 1 := by
  have z := rr_mob_ok (M := mX8_hasClause) (n := 1) (pi := 58) (ws := [(470, .instanceMethod yX8_hasClause), (471, .selects (rr_on 8) yX8_hasClause yX8_hasClause)]) (by decide +kernel) (List.mem_of_getElem? (i := 472) rfl)
  exact ⟨z.1, z.2 _ List.mem_cons_self, z.2 _ (List.mem_cons_of_mem _ List.mem_cons_self)⟩
abbrev mX8_hasCell : rr_M := (8, yX8_hasCell, cX8_hasCell, 2, (some .boolean))
set_option maxRecDepth 100000 in
theorem fX8_hasCell : rr_fv mX8_hasCell 1 := by
  have z := rr_mob_ok (M := mX8_hasCell) (n := 1) (pi := 58) (ws := [(522, .instanceMethod yX8_hasCell), (523, .selects (rr_on 8) yX8_hasCell yX8_hasCell)]) (by decide +kernel) (List.mem_of_getElem? (i := 524) rfl)
  exact ⟨z.1, z.2 _ List.mem_cons_self, z.2 _ (List.mem_cons_of_mem _ List.mem_cons_self)⟩
abbrev mX8_hasSet : rr_M := (8, yX8_hasSet, cX8_hasSet, 2, (some .boolean))
set_option maxRecDepth 100000 in
theorem fX8_hasSet : rr_fv mX8_hasSet 1 := by
  have z := rr_mob_ok (M := mX8_hasSet) (n := 1) (pi := 58) (ws := [(673, .instanceMethod yX8_hasSet), (674, .selects (rr_on 8) yX8_hasSet yX8_hasSet)]) (by decide +kernel) (List.mem_of_getElem? (i := 675) rfl)
  exact ⟨z.1, z.2 _ List.mem_cons_self, z.2 _ (List.mem_cons_of_mem _ List.mem_cons_self)⟩
abbrev mX8_tideAt : rr_M := (8, yX8_tideAt, cX8_tideAt, 2, (some .int))
set_option maxRecDepth 100000 in
theorem fX8_tideAt : rr_fv mX8_tideAt 1 := by
  have z := rr_mob_ok (M := mX8_tideAt) (n := 1) (pi := 58) (ws := [(510, .instanceMethod yX8_tideAt), (511, .selects (rr_on 8) yX8_tideAt yX8_tideAt)]) (by decide +kernel) (List.mem_of_getElem? (i := 512) rfl)
  exact ⟨z.1, z.2 _ List.mem_cons_self, z.2 _ (List.mem_cons_of_mem _ List.mem_cons_self)⟩
abbrev mX8_isWet : rr_M := (8, yX8_isWet, cX8_isWet, 3, (some .boolean))
set_option maxRecDepth 100000 in
theorem fX8_isWet : rr_fv mX8_isWet 2 := by
  have z := rr_mob_ok (M := mX8_isWet) (n := 2) (pi := 58) (ws := [(518, .instanceMethod yX8_isWet), (519, .selects (rr_on 8) yX8_isWet yX8_isWet)]) (by decide +kernel) (List.mem_of_getElem? (i := 520) rfl)
  exact ⟨z.1, z.2 _ List.mem_cons_self, z.2 _ (List.mem_cons_of_mem _ List.mem_cons_self)⟩
abbrev mX8_wetSet : rr_M := (8, yX8_wetSet, cX8_wetSet, 4, (some .int))
set_option maxRecDepth 100000 in
theorem fX8_wetSet : rr_fv mX8_wetSet 1 := by
  have z := rr_mob_ok (M := mX8_wetSet) (n := 1) (pi := 58) (ws := [(514, .instanceMethod yX8_wetSet), (515, .selects (rr_on 8) yX8_wetSet yX8_wetSet)]) (by decide +kernel) (List.mem_of_getElem? (i := 516) rfl)
  exact ⟨z.1, z.2 _ List.mem_cons_self, z.2 _ (List.mem_cons_of_mem _ List.mem_cons_self)⟩
abbrev mX8_firstHour : rr_M := (8, yX8_firstHour, cX8_firstHour, 6, (some .int))
set_option maxRecDepth 100000 in
theorem fX8_firstHour : rr_fv mX8_firstHour 4 := by
  have z := rr_mob_ok (M := mX8_firstHour) (n := 4) (pi := 58) (ws := [(716, .instanceMethod yX8_firstHour), (717, .selects (rr_on 8) yX8_firstHour yX8_firstHour)]) (by decide +kernel) (List.mem_of_getElem? (i := 718) rfl)
  exact ⟨z.1, z.2 _ List.mem_cons_self, z.2 _ (List.mem_cons_of_mem _ List.mem_cons_self)⟩
abbrev mX8_leanersOf : rr_M := (8, yX8_leanersOf, cX8_leanersOf, 4, (some .int))
set_option maxRecDepth 100000 in
theorem fX8_leanersOf : rr_fv mX8_leanersOf 1 := by
  have z := rr_mob_ok (M := mX8_leanersOf) (n := 1) (pi := 58) (ws := [(754, .instanceMethod yX8_leanersOf), (755, .selects (rr_on 8) yX8_leanersOf yX8_leanersOf)]) (by decide +kernel) (List.mem_of_getElem? (i := 756) rfl)
  exact ⟨z.1, z.2 _ List.mem_cons_self, z.2 _ (List.mem_cons_of_mem _ List.mem_cons_self)⟩
abbrev mX8_worthOf : rr_M := (8, yX8_worthOf, cX8_worthOf, 5, (some .int))
set_option maxRecDepth 100000 in
theorem fX8_worthOf : rr_fv mX8_worthOf 2 := by
  have z := rr_mob_ok (M := mX8_worthOf) (n := 2) (pi := 58) (ws := [(617, .instanceMethod yX8_worthOf), (618, .selects (rr_on 8) yX8_worthOf yX8_worthOf)]) (by decide +kernel) (List.mem_of_getElem? (i := 619) rfl)
  exact ⟨z.1, z.2 _ List.mem_cons_self, z.2 _ (List.mem_cons_of_mem _ List.mem_cons_self)⟩
abbrev mX8_hoursOf : rr_M := (8, yX8_hoursOf, cX8_hoursOf, 4, (some .int))
set_option maxRecDepth 100000 in
theorem fX8_hoursOf : rr_fv mX8_hoursOf 1 := by
  have z := rr_mob_ok (M := mX8_hoursOf) (n := 1) (pi := 58) (ws := [(741, .instanceMethod yX8_hoursOf), (742, .selects (rr_on 8) yX8_hoursOf yX8_hoursOf)]) (by decide +kernel) (List.mem_of_getElem? (i := 743) rfl)
  exact ⟨z.1, z.2 _ List.mem_cons_self, z.2 _ (List.mem_cons_of_mem _ List.mem_cons_self)⟩
abbrev mX8_isWhole : rr_M := (8, yX8_isWhole, cX8_isWhole, 3, (some .boolean))
set_option maxRecDepth 100000 in
theorem fX8_isWhole : rr_fv mX8_isWhole 1 := by
  have z := rr_mob_ok (M := mX8_isWhole) (n := 1) (pi := 58) (ws := [(691, .instanceMethod yX8_isWhole), (692, .selects (rr_on 8) yX8_isWhole yX8_isWhole)]) (by decide +kernel) (List.mem_of_getElem? (i := 693) rfl)
  exact ⟨z.1, z.2 _ List.mem_cons_self, z.2 _ (List.mem_cons_of_mem _ List.mem_cons_self)⟩
abbrev mX9_init : rr_M := (9, yX9_init, cX9_init, 2, none)
set_option maxRecDepth 100000 in
theorem fX9_init : rr_mo mX9_init 1 ∧ Jvm.Cond.instanceMethod yX9_init ∈ rr_W := by
  have z := rr_mob_ok (M := mX9_init) (n := 1) (pi := 64) (ws := [(294, .instanceMethod yX9_init)]) (by decide +kernel) (List.mem_of_getElem? (i := 295) rfl)
  exact ⟨z.1, z.2 _ List.mem_cons_self⟩
abbrev mX9_settle : rr_M := (9, yX9_settle, cX9_settle, 7, (some .int))
set_option maxRecDepth 100000 in
theorem fX9_settle : rr_fv mX9_settle 3 := by
  have z := rr_mob_ok (M := mX9_settle) (n := 3) (pi := 64) (ws := [(732, .instanceMethod yX9_settle), (733, .selects (rr_on 9) yX9_settle yX9_settle)]) (by decide +kernel) (List.mem_of_getElem? (i := 734) rfl)
  exact ⟨z.1, z.2 _ List.mem_cons_self, z.2 _ (List.mem_cons_of_mem _ List.mem_cons_self)⟩
abbrev mX9_choose : rr_M := (9, yX9_choose, cX9_choose, 12, (some .int))
set_option maxRecDepth 100000 in
theorem fX9_choose : rr_fv mX9_choose 4 := by
  have z := rr_mob_ok (M := mX9_choose) (n := 4) (pi := 64) (ws := [(737, .instanceMethod yX9_choose), (17, .selects (rr_on 9) yX9_choose yX9_choose)]) (by decide +kernel) (List.mem_of_getElem? (i := 738) rfl)
  exact ⟨z.1, z.2 _ List.mem_cons_self, z.2 _ (List.mem_cons_of_mem _ List.mem_cons_self)⟩
abbrev mX10_init : rr_M := (10, yX10_init, cX10_init, 1, none)
set_option maxRecDepth 100000 in
theorem fX10_init : rr_mo mX10_init 0 ∧ Jvm.Cond.instanceMethod yX10_init ∈ rr_W := by
  have z := rr_mob_ok (M := mX10_init) (n := 0) (pi := 57) (ws := [(75, .instanceMethod yX10_init)]) (by decide +kernel) (List.mem_of_getElem? (i := 76) rfl)
  exact ⟨z.1, z.2 _ List.mem_cons_self⟩
abbrev mX10_feed : rr_M := (10, yX10_feed, cX10_feed, 2, (some .int))
set_option maxRecDepth 100000 in
theorem fX10_feed : rr_fv mX10_feed 1 := by
  have z := rr_mob_ok (M := mX10_feed) (n := 1) (pi := 57) (ws := [(397, .instanceMethod yX10_feed), (398, .selects (rr_on 10) yX10_feed yX10_feed)]) (by decide +kernel) (List.mem_of_getElem? (i := 399) rfl)
  exact ⟨z.1, z.2 _ List.mem_cons_self, z.2 _ (List.mem_cons_of_mem _ List.mem_cons_self)⟩
abbrev mX10_strand : rr_M := (10, yX10_strand, cX10_strand, 1, (some .int))
set_option maxRecDepth 100000 in
theorem fX10_strand : rr_fv mX10_strand 0 := by
  have z := rr_mob_ok (M := mX10_strand) (n := 0) (pi := 57) (ws := [(407, .instanceMethod yX10_strand), (408, .selects (rr_on 10) yX10_strand yX10_strand)]) (by decide +kernel) (List.mem_of_getElem? (i := 409) rfl)
  exact ⟨z.1, z.2 _ List.mem_cons_self, z.2 _ (List.mem_cons_of_mem _ List.mem_cons_self)⟩
abbrev mX10_fault : rr_M := (10, yX10_fault, cX10_fault, 1, (some .int))
set_option maxRecDepth 100000 in
theorem fX10_fault : rr_fv mX10_fault 0 := by
  have z := rr_mob_ok (M := mX10_fault) (n := 0) (pi := 57) (ws := [(502, .instanceMethod yX10_fault), (503, .selects (rr_on 10) yX10_fault yX10_fault)]) (by decide +kernel) (List.mem_of_getElem? (i := 504) rfl)
  exact ⟨z.1, z.2 _ List.mem_cons_self, z.2 _ (List.mem_cons_of_mem _ List.mem_cons_self)⟩
abbrev mX10_told : rr_M := (10, yX10_told, cX10_told, 2, (some .int))
set_option maxRecDepth 100000 in
theorem fX10_told : rr_fv mX10_told 1 := by
  have z := rr_mob_ok (M := mX10_told) (n := 1) (pi := 57) (ws := [(506, .instanceMethod yX10_told), (507, .selects (rr_on 10) yX10_told yX10_told)]) (by decide +kernel) (List.mem_of_getElem? (i := 508) rfl)
  exact ⟨z.1, z.2 _ List.mem_cons_self, z.2 _ (List.mem_cons_of_mem _ List.mem_cons_self)⟩
abbrev mX10_clause : rr_M := (10, yX10_clause, cX10_clause, 3, (some .int))
set_option maxRecDepth 100000 in
theorem fX10_clause : rr_fv mX10_clause 2 := by
  have z := rr_mob_ok (M := mX10_clause) (n := 2) (pi := 57) (ws := [(540, .instanceMethod yX10_clause), (541, .selects (rr_on 10) yX10_clause yX10_clause)]) (by decide +kernel) (List.mem_of_getElem? (i := 542) rfl)
  exact ⟨z.1, z.2 _ List.mem_cons_self, z.2 _ (List.mem_cons_of_mem _ List.mem_cons_self)⟩
abbrev mX10_cell : rr_M := (10, yX10_cell, cX10_cell, 3, (some .int))
set_option maxRecDepth 100000 in
theorem fX10_cell : rr_fv mX10_cell 2 := by
  have z := rr_mob_ok (M := mX10_cell) (n := 2) (pi := 57) (ws := [(546, .instanceMethod yX10_cell), (547, .selects (rr_on 10) yX10_cell yX10_cell)]) (by decide +kernel) (List.mem_of_getElem? (i := 548) rfl)
  exact ⟨z.1, z.2 _ List.mem_cons_self, z.2 _ (List.mem_cons_of_mem _ List.mem_cons_self)⟩
abbrev mX10_write : rr_M := (10, yX10_write, cX10_write, 3, (some .int))
set_option maxRecDepth 100000 in
theorem fX10_write : rr_fv mX10_write 2 := by
  have z := rr_mob_ok (M := mX10_write) (n := 2) (pi := 57) (ws := [(556, .instanceMethod yX10_write), (557, .selects (rr_on 10) yX10_write yX10_write)]) (by decide +kernel) (List.mem_of_getElem? (i := 558) rfl)
  exact ⟨z.1, z.2 _ List.mem_cons_self, z.2 _ (List.mem_cons_of_mem _ List.mem_cons_self)⟩
abbrev mX10_rub : rr_M := (10, yX10_rub, cX10_rub, 3, (some .int))
set_option maxRecDepth 100000 in
theorem fX10_rub : rr_fv mX10_rub 1 := by
  have z := rr_mob_ok (M := mX10_rub) (n := 1) (pi := 57) (ws := [(582, .instanceMethod yX10_rub), (583, .selects (rr_on 10) yX10_rub yX10_rub)]) (by decide +kernel) (List.mem_of_getElem? (i := 584) rfl)
  exact ⟨z.1, z.2 _ List.mem_cons_self, z.2 _ (List.mem_cons_of_mem _ List.mem_cons_self)⟩
abbrev mX10_storm : rr_M := (10, yX10_storm, cX10_storm, 1, (some .int))
set_option maxRecDepth 100000 in
theorem fX10_storm : rr_fv mX10_storm 0 := by
  have z := rr_mob_ok (M := mX10_storm) (n := 0) (pi := 57) (ws := [(588, .instanceMethod yX10_storm), (589, .selects (rr_on 10) yX10_storm yX10_storm)]) (by decide +kernel) (List.mem_of_getElem? (i := 590) rfl)
  exact ⟨z.1, z.2 _ List.mem_cons_self, z.2 _ (List.mem_cons_of_mem _ List.mem_cons_self)⟩
abbrev mX10_hour : rr_M := (10, yX10_hour, cX10_hour, 4, (some .int))
set_option maxRecDepth 100000 in
theorem fX10_hour : rr_fv mX10_hour 1 := by
  have z := rr_mob_ok (M := mX10_hour) (n := 1) (pi := 57) (ws := [(600, .instanceMethod yX10_hour), (601, .selects (rr_on 10) yX10_hour yX10_hour)]) (by decide +kernel) (List.mem_of_getElem? (i := 602) rfl)
  exact ⟨z.1, z.2 _ List.mem_cons_self, z.2 _ (List.mem_cons_of_mem _ List.mem_cons_self)⟩
abbrev mX10_drift : rr_M := (10, yX10_drift, cX10_drift, 4, (some .int))
set_option maxRecDepth 100000 in
theorem fX10_drift : rr_fv mX10_drift 1 := by
  have z := rr_mob_ok (M := mX10_drift) (n := 1) (pi := 57) (ws := [(621, .instanceMethod yX10_drift), (622, .selects (rr_on 10) yX10_drift yX10_drift)]) (by decide +kernel) (List.mem_of_getElem? (i := 623) rfl)
  exact ⟨z.1, z.2 _ List.mem_cons_self, z.2 _ (List.mem_cons_of_mem _ List.mem_cons_self)⟩
abbrev mX10_undo : rr_M := (10, yX10_undo, cX10_undo, 2, (some .int))
set_option maxRecDepth 100000 in
theorem fX10_undo : rr_fv mX10_undo 1 := by
  have z := rr_mob_ok (M := mX10_undo) (n := 1) (pi := 57) (ws := [(637, .instanceMethod yX10_undo), (638, .selects (rr_on 10) yX10_undo yX10_undo)]) (by decide +kernel) (List.mem_of_getElem? (i := 639) rfl)
  exact ⟨z.1, z.2 _ List.mem_cons_self, z.2 _ (List.mem_cons_of_mem _ List.mem_cons_self)⟩
abbrev mX10_refusalOfHours : rr_M := (10, yX10_refusalOfHours, cX10_refusalOfHours, 2, (some .int))
set_option maxRecDepth 100000 in
theorem fX10_refusalOfHours : rr_fv mX10_refusalOfHours 1 := by
  have z := rr_mob_ok (M := mX10_refusalOfHours) (n := 1) (pi := 57) (ws := [(605, .instanceMethod yX10_refusalOfHours), (10, .selects (rr_on 10) yX10_refusalOfHours yX10_refusalOfHours)]) (by decide +kernel) (List.mem_of_getElem? (i := 606) rfl)
  exact ⟨z.1, z.2 _ List.mem_cons_self, z.2 _ (List.mem_cons_of_mem _ List.mem_cons_self)⟩
abbrev mX10_drawDeeds : rr_M := (10, yX10_drawDeeds, cX10_drawDeeds, 3, none)
set_option maxRecDepth 100000 in
theorem fX10_drawDeeds : rr_fv mX10_drawDeeds 0 := by
  have z := rr_mob_ok (M := mX10_drawDeeds) (n := 0) (pi := 57) (ws := [(626, .instanceMethod yX10_drawDeeds), (12, .selects (rr_on 10) yX10_drawDeeds yX10_drawDeeds)]) (by decide +kernel) (List.mem_of_getElem? (i := 627) rfl)
  exact ⟨z.1, z.2 _ List.mem_cons_self, z.2 _ (List.mem_cons_of_mem _ List.mem_cons_self)⟩
abbrev mX10_lasts : rr_M := (10, yX10_lasts, cX10_lasts, 5, (some .int))
set_option maxRecDepth 100000 in
theorem fX10_lasts : rr_fv mX10_lasts 2 := by
  have z := rr_mob_ok (M := mX10_lasts) (n := 2) (pi := 57) (ws := [(649, .instanceMethod yX10_lasts), (650, .selects (rr_on 10) yX10_lasts yX10_lasts)]) (by decide +kernel) (List.mem_of_getElem? (i := 651) rfl)
  exact ⟨z.1, z.2 _ List.mem_cons_self, z.2 _ (List.mem_cons_of_mem _ List.mem_cons_self)⟩
abbrev mX10_washed : rr_M := (10, yX10_washed, cX10_washed, 3, (some .int))
set_option maxRecDepth 100000 in
theorem fX10_washed : rr_fv mX10_washed 1 := by
  have z := rr_mob_ok (M := mX10_washed) (n := 1) (pi := 57) (ws := [(665, .instanceMethod yX10_washed), (666, .selects (rr_on 10) yX10_washed yX10_washed)]) (by decide +kernel) (List.mem_of_getElem? (i := 667) rfl)
  exact ⟨z.1, z.2 _ List.mem_cons_self, z.2 _ (List.mem_cons_of_mem _ List.mem_cons_self)⟩
abbrev mX10_plan : rr_M := (10, yX10_plan, cX10_plan, 5, (some .int))
set_option maxRecDepth 100000 in
theorem fX10_plan : rr_fv mX10_plan 3 := by
  have z := rr_mob_ok (M := mX10_plan) (n := 3) (pi := 57) (ws := [(669, .instanceMethod yX10_plan), (670, .selects (rr_on 10) yX10_plan yX10_plan)]) (by decide +kernel) (List.mem_of_getElem? (i := 671) rfl)
  exact ⟨z.1, z.2 _ List.mem_cons_self, z.2 _ (List.mem_cons_of_mem _ List.mem_cons_self)⟩
abbrev mX10_bargain : rr_M := (10, yX10_bargain, cX10_bargain, 6, (some .int))
set_option maxRecDepth 100000 in
theorem fX10_bargain : rr_fv mX10_bargain 4 := by
  have z := rr_mob_ok (M := mX10_bargain) (n := 4) (pi := 57) (ws := [(728, .instanceMethod yX10_bargain), (729, .selects (rr_on 10) yX10_bargain yX10_bargain)]) (by decide +kernel) (List.mem_of_getElem? (i := 730) rfl)
  exact ⟨z.1, z.2 _ List.mem_cons_self, z.2 _ (List.mem_cons_of_mem _ List.mem_cons_self)⟩
abbrev mX10_crossing : rr_M := (10, yX10_crossing, cX10_crossing, 3, (some .int))
set_option maxRecDepth 100000 in
theorem fX10_crossing : rr_fv mX10_crossing 1 := by
  have z := rr_mob_ok (M := mX10_crossing) (n := 1) (pi := 57) (ws := [(746, .instanceMethod yX10_crossing), (747, .selects (rr_on 10) yX10_crossing yX10_crossing)]) (by decide +kernel) (List.mem_of_getElem? (i := 748) rfl)
  exact ⟨z.1, z.2 _ List.mem_cons_self, z.2 _ (List.mem_cons_of_mem _ List.mem_cons_self)⟩
abbrev mX10_leaners : rr_M := (10, yX10_leaners, cX10_leaners, 2, (some .int))
set_option maxRecDepth 100000 in
theorem fX10_leaners : rr_fv mX10_leaners 1 := by
  have z := rr_mob_ok (M := mX10_leaners) (n := 1) (pi := 57) (ws := [(750, .instanceMethod yX10_leaners), (751, .selects (rr_on 10) yX10_leaners yX10_leaners)]) (by decide +kernel) (List.mem_of_getElem? (i := 752) rfl)
  exact ⟨z.1, z.2 _ List.mem_cons_self, z.2 _ (List.mem_cons_of_mem _ List.mem_cons_self)⟩
abbrev mX10_storms : rr_M := (10, yX10_storms, cX10_storms, 6, (some .int))
set_option maxRecDepth 100000 in
theorem fX10_storms : rr_fv mX10_storms 2 := by
  have z := rr_mob_ok (M := mX10_storms) (n := 2) (pi := 57) (ws := [(758, .instanceMethod yX10_storms), (759, .selects (rr_on 10) yX10_storms yX10_storms)]) (by decide +kernel) (List.mem_of_getElem? (i := 760) rfl)
  exact ⟨z.1, z.2 _ List.mem_cons_self, z.2 _ (List.mem_cons_of_mem _ List.mem_cons_self)⟩
abbrev mX10_see : rr_M := (10, yX10_see, cX10_see, 4, (some .int))
set_option maxRecDepth 100000 in
theorem fX10_see : rr_fv mX10_see 3 := by
  have z := rr_mob_ok (M := mX10_see) (n := 3) (pi := 57) (ws := [(764, .instanceMethod yX10_see), (765, .selects (rr_on 10) yX10_see yX10_see)]) (by decide +kernel) (List.mem_of_getElem? (i := 766) rfl)
  exact ⟨z.1, z.2 _ List.mem_cons_self, z.2 _ (List.mem_cons_of_mem _ List.mem_cons_self)⟩
abbrev mX10_agreed : rr_M := (10, yX10_agreed, cX10_agreed, 3, (some .int))
set_option maxRecDepth 100000 in
theorem fX10_agreed : rr_fv mX10_agreed 1 := by
  have z := rr_mob_ok (M := mX10_agreed) (n := 1) (pi := 57) (ws := [(772, .instanceMethod yX10_agreed), (773, .selects (rr_on 10) yX10_agreed yX10_agreed)]) (by decide +kernel) (List.mem_of_getElem? (i := 774) rfl)
  exact ⟨z.1, z.2 _ List.mem_cons_self, z.2 _ (List.mem_cons_of_mem _ List.mem_cons_self)⟩
abbrev mX10_lookAt : rr_M := (10, yX10_lookAt, cX10_lookAt, 3, (some .int))
set_option maxRecDepth 100000 in
theorem fX10_lookAt : rr_fv mX10_lookAt 1 := by
  have z := rr_mob_ok (M := mX10_lookAt) (n := 1) (pi := 57) (ws := [(806, .instanceMethod yX10_lookAt), (807, .selects (rr_on 10) yX10_lookAt yX10_lookAt)]) (by decide +kernel) (List.mem_of_getElem? (i := 808) rfl)
  exact ⟨z.1, z.2 _ List.mem_cons_self, z.2 _ (List.mem_cons_of_mem _ List.mem_cons_self)⟩
abbrev mX10_note : rr_M := (10, yX10_note, cX10_note, 3, (some .int))
set_option maxRecDepth 100000 in
theorem fX10_note : rr_fv mX10_note 2 := by
  have z := rr_mob_ok (M := mX10_note) (n := 2) (pi := 57) (ws := [(826, .instanceMethod yX10_note), (827, .selects (rr_on 10) yX10_note yX10_note)]) (by decide +kernel) (List.mem_of_getElem? (i := 828) rfl)
  exact ⟨z.1, z.2 _ List.mem_cons_self, z.2 _ (List.mem_cons_of_mem _ List.mem_cons_self)⟩
abbrev mX10_judge : rr_M := (10, yX10_judge, cX10_judge, 1, (some .int))
set_option maxRecDepth 100000 in
theorem fX10_judge : rr_fv mX10_judge 0 := by
  have z := rr_mob_ok (M := mX10_judge) (n := 0) (pi := 57) (ws := [(834, .instanceMethod yX10_judge), (835, .selects (rr_on 10) yX10_judge yX10_judge)]) (by decide +kernel) (List.mem_of_getElem? (i := 836) rfl)
  exact ⟨z.1, z.2 _ List.mem_cons_self, z.2 _ (List.mem_cons_of_mem _ List.mem_cons_self)⟩
abbrev mX10_tear : rr_M := (10, yX10_tear, cX10_tear, 2, (some .int))
set_option maxRecDepth 100000 in
theorem fX10_tear : rr_fv mX10_tear 0 := by
  have z := rr_mob_ok (M := mX10_tear) (n := 0) (pi := 57) (ws := [(842, .instanceMethod yX10_tear), (843, .selects (rr_on 10) yX10_tear yX10_tear)]) (by decide +kernel) (List.mem_of_getElem? (i := 844) rfl)
  exact ⟨z.1, z.2 _ List.mem_cons_self, z.2 _ (List.mem_cons_of_mem _ List.mem_cons_self)⟩
abbrev mX10_seed : rr_M := (10, yX10_seed, cX10_seed, 3, (some .int))
set_option maxRecDepth 100000 in
theorem fX10_seed : rr_fv mX10_seed 1 := by
  have z := rr_mob_ok (M := mX10_seed) (n := 1) (pi := 57) (ws := [(846, .instanceMethod yX10_seed), (847, .selects (rr_on 10) yX10_seed yX10_seed)]) (by decide +kernel) (List.mem_of_getElem? (i := 848) rfl)
  exact ⟨z.1, z.2 _ List.mem_cons_self, z.2 _ (List.mem_cons_of_mem _ List.mem_cons_self)⟩
abbrev mX10_keep : rr_M := (10, yX10_keep, cX10_keep, 2, (some .int))
set_option maxRecDepth 100000 in
theorem fX10_keep : rr_fv mX10_keep 1 := by
  have z := rr_mob_ok (M := mX10_keep) (n := 1) (pi := 57) (ws := [(850, .instanceMethod yX10_keep), (851, .selects (rr_on 10) yX10_keep yX10_keep)]) (by decide +kernel) (List.mem_of_getElem? (i := 852) rfl)
  exact ⟨z.1, z.2 _ List.mem_cons_self, z.2 _ (List.mem_cons_of_mem _ List.mem_cons_self)⟩
abbrev mX10_goBack : rr_M := (10, yX10_goBack, cX10_goBack, 2, (some .int))
set_option maxRecDepth 100000 in
theorem fX10_goBack : rr_fv mX10_goBack 1 := by
  have z := rr_mob_ok (M := mX10_goBack) (n := 1) (pi := 57) (ws := [(859, .instanceMethod yX10_goBack), (860, .selects (rr_on 10) yX10_goBack yX10_goBack)]) (by decide +kernel) (List.mem_of_getElem? (i := 861) rfl)
  exact ⟨z.1, z.2 _ List.mem_cons_self, z.2 _ (List.mem_cons_of_mem _ List.mem_cons_self)⟩
abbrev mX11_init : rr_M := (11, yX11_init, cX11_init, 1, none)
set_option maxRecDepth 100000 in
theorem fX11_init : rr_mo mX11_init 0 ∧ Jvm.Cond.instanceMethod yX11_init ∈ rr_W := by
  have z := rr_mob_ok (M := mX11_init) (n := 0) (pi := 68) (ws := [(875, .instanceMethod yX11_init)]) (by decide +kernel) (List.mem_of_getElem? (i := 876) rfl)
  exact ⟨z.1, z.2 _ List.mem_cons_self⟩
abbrev mX11_in : rr_M := (11, yX11_in, cX11_in, 3, (some .boolean))
set_option maxRecDepth 100000 in
theorem fX11_in : rr_fs mX11_in 3 := by
  have z := rr_mob_ok (M := mX11_in) (n := 3) (pi := 68) (ws := [(974, .static yX11_in)]) (by decide +kernel) (List.mem_of_getElem? (i := 975) rfl)
  exact ⟨z.1, z.2 _ List.mem_cons_self⟩
abbrev mX11_has : rr_M := (11, yX11_has, cX11_has, 2, (some .boolean))
set_option maxRecDepth 100000 in
theorem fX11_has : rr_fs mX11_has 2 := by
  have z := rr_mob_ok (M := mX11_has) (n := 2) (pi := 68) (ws := [(1062, .static yX11_has)]) (by decide +kernel) (List.mem_of_getElem? (i := 1063) rfl)
  exact ⟨z.1, z.2 _ List.mem_cons_self⟩
abbrev mX11_ones : rr_M := (11, yX11_ones, cX11_ones, 3, (some .int))
set_option maxRecDepth 100000 in
theorem fX11_ones : rr_fs mX11_ones 1 := by
  have z := rr_mob_ok (M := mX11_ones) (n := 1) (pi := 68) (ws := [(1168, .static yX11_ones)]) (by decide +kernel) (List.mem_of_getElem? (i := 1169) rfl)
  exact ⟨z.1, z.2 _ List.mem_cons_self⟩
abbrev mX11_feed : rr_M := (11, yX11_feed, cX11_feed, 2, (some .int))
set_option maxRecDepth 100000 in
theorem fX11_feed : rr_fv mX11_feed 1 := by
  have z := rr_mob_ok (M := mX11_feed) (n := 1) (pi := 68) (ws := [(970, .instanceMethod yX11_feed), (971, .selects (rr_on 11) yX11_feed yX11_feed)]) (by decide +kernel) (List.mem_of_getElem? (i := 972) rfl)
  exact ⟨z.1, z.2 _ List.mem_cons_self, z.2 _ (List.mem_cons_of_mem _ List.mem_cons_self)⟩
abbrev mX11_look : rr_M := (11, yX11_look, cX11_look, 1, (some .int))
set_option maxRecDepth 100000 in
theorem fX11_look : rr_fv mX11_look 0 := by
  have z := rr_mob_ok (M := mX11_look) (n := 0) (pi := 68) (ws := [(988, .instanceMethod yX11_look), (24, .selects (rr_on 11) yX11_look yX11_look)]) (by decide +kernel) (List.mem_of_getElem? (i := 989) rfl)
  exact ⟨z.1, z.2 _ List.mem_cons_self, z.2 _ (List.mem_cons_of_mem _ List.mem_cons_self)⟩
abbrev mX11_skips : rr_M := (11, yX11_skips, cX11_skips, 1, none)
set_option maxRecDepth 100000 in
theorem fX11_skips : rr_fv mX11_skips 0 := by
  have z := rr_mob_ok (M := mX11_skips) (n := 0) (pi := 68) (ws := [(984, .instanceMethod yX11_skips), (23, .selects (rr_on 11) yX11_skips yX11_skips)]) (by decide +kernel) (List.mem_of_getElem? (i := 985) rfl)
  exact ⟨z.1, z.2 _ List.mem_cons_self, z.2 _ (List.mem_cons_of_mem _ List.mem_cons_self)⟩
abbrev mX11_fails : rr_M := (11, yX11_fails, cX11_fails, 2, none)
set_option maxRecDepth 100000 in
theorem fX11_fails : rr_fv mX11_fails 1 := by
  have z := rr_mob_ok (M := mX11_fails) (n := 1) (pi := 68) (ws := [(1004, .instanceMethod yX11_fails), (28, .selects (rr_on 11) yX11_fails yX11_fails)]) (by decide +kernel) (List.mem_of_getElem? (i := 1005) rfl)
  exact ⟨z.1, z.2 _ List.mem_cons_self, z.2 _ (List.mem_cons_of_mem _ List.mem_cons_self)⟩
abbrev mX11_word : rr_M := (11, yX11_word, cX11_word, 2, none)
set_option maxRecDepth 100000 in
theorem fX11_word : rr_fv mX11_word 1 := by
  have z := rr_mob_ok (M := mX11_word) (n := 1) (pi := 68) (ws := [(1012, .instanceMethod yX11_word), (30, .selects (rr_on 11) yX11_word yX11_word)]) (by decide +kernel) (List.mem_of_getElem? (i := 1013) rfl)
  exact ⟨z.1, z.2 _ List.mem_cons_self, z.2 _ (List.mem_cons_of_mem _ List.mem_cons_self)⟩
abbrev mX11_number : rr_M := (11, yX11_number, cX11_number, 5, (some .int))
set_option maxRecDepth 100000 in
theorem fX11_number : rr_fv mX11_number 2 := by
  have z := rr_mob_ok (M := mX11_number) (n := 2) (pi := 68) (ws := [(1008, .instanceMethod yX11_number), (29, .selects (rr_on 11) yX11_number yX11_number)]) (by decide +kernel) (List.mem_of_getElem? (i := 1009) rfl)
  exact ⟨z.1, z.2 _ List.mem_cons_self, z.2 _ (List.mem_cons_of_mem _ List.mem_cons_self)⟩
abbrev mX11_opens : rr_M := (11, yX11_opens, cX11_opens, 2, (some .boolean))
set_option maxRecDepth 100000 in
theorem fX11_opens : rr_fv mX11_opens 1 := by
  have z := rr_mob_ok (M := mX11_opens) (n := 1) (pi := 68) (ws := [(1000, .instanceMethod yX11_opens), (27, .selects (rr_on 11) yX11_opens yX11_opens)]) (by decide +kernel) (List.mem_of_getElem? (i := 1001) rfl)
  exact ⟨z.1, z.2 _ List.mem_cons_self, z.2 _ (List.mem_cons_of_mem _ List.mem_cons_self)⟩
abbrev mX11_readsTides : rr_M := (11, yX11_readsTides, cX11_readsTides, 1, none)
set_option maxRecDepth 100000 in
theorem fX11_readsTides : rr_fv mX11_readsTides 0 := by
  have z := rr_mob_ok (M := mX11_readsTides) (n := 0) (pi := 68) (ws := [(996, .instanceMethod yX11_readsTides), (26, .selects (rr_on 11) yX11_readsTides yX11_readsTides)]) (by decide +kernel) (List.mem_of_getElem? (i := 997) rfl)
  exact ⟨z.1, z.2 _ List.mem_cons_self, z.2 _ (List.mem_cons_of_mem _ List.mem_cons_self)⟩
abbrev mX11_readsWind : rr_M := (11, yX11_readsWind, cX11_readsWind, 1, none)
set_option maxRecDepth 100000 in
theorem fX11_readsWind : rr_fv mX11_readsWind 0 := by
  have z := rr_mob_ok (M := mX11_readsWind) (n := 0) (pi := 68) (ws := [(1016, .instanceMethod yX11_readsWind), (31, .selects (rr_on 11) yX11_readsWind yX11_readsWind)]) (by decide +kernel) (List.mem_of_getElem? (i := 1017) rfl)
  exact ⟨z.1, z.2 _ List.mem_cons_self, z.2 _ (List.mem_cons_of_mem _ List.mem_cons_self)⟩
abbrev mX11_readsCell : rr_M := (11, yX11_readsCell, cX11_readsCell, 1, none)
set_option maxRecDepth 100000 in
theorem fX11_readsCell : rr_fv mX11_readsCell 0 := by
  have z := rr_mob_ok (M := mX11_readsCell) (n := 0) (pi := 68) (ws := [(1020, .instanceMethod yX11_readsCell), (32, .selects (rr_on 11) yX11_readsCell yX11_readsCell)]) (by decide +kernel) (List.mem_of_getElem? (i := 1021) rfl)
  exact ⟨z.1, z.2 _ List.mem_cons_self, z.2 _ (List.mem_cons_of_mem _ List.mem_cons_self)⟩
abbrev mX11_readsClause : rr_M := (11, yX11_readsClause, cX11_readsClause, 4, none)
set_option maxRecDepth 100000 in
theorem fX11_readsClause : rr_fv mX11_readsClause 0 := by
  have z := rr_mob_ok (M := mX11_readsClause) (n := 0) (pi := 68) (ws := [(1024, .instanceMethod yX11_readsClause), (33, .selects (rr_on 11) yX11_readsClause yX11_readsClause)]) (by decide +kernel) (List.mem_of_getElem? (i := 1025) rfl)
  exact ⟨z.1, z.2 _ List.mem_cons_self, z.2 _ (List.mem_cons_of_mem _ List.mem_cons_self)⟩
abbrev mX11_reads : rr_M := (11, yX11_reads, cX11_reads, 1, none)
set_option maxRecDepth 100000 in
theorem fX11_reads : rr_fv mX11_reads 0 := by
  have z := rr_mob_ok (M := mX11_reads) (n := 0) (pi := 68) (ws := [(992, .instanceMethod yX11_reads), (25, .selects (rr_on 11) yX11_reads yX11_reads)]) (by decide +kernel) (List.mem_of_getElem? (i := 993) rfl)
  exact ⟨z.1, z.2 _ List.mem_cons_self, z.2 _ (List.mem_cons_of_mem _ List.mem_cons_self)⟩
abbrev mX11_copies : rr_M := (11, yX11_copies, cX11_copies, 6, none)
set_option maxRecDepth 100000 in
theorem fX11_copies : rr_fs mX11_copies 5 := by
  have z := rr_mob_ok (M := mX11_copies) (n := 5) (pi := 68) (ws := [(1027, .static yX11_copies)]) (by decide +kernel) (List.mem_of_getElem? (i := 1028) rfl)
  exact ⟨z.1, z.2 _ List.mem_cons_self⟩
abbrev mX11_strand : rr_M := (11, yX11_strand, cX11_strand, 3, (some .int))
set_option maxRecDepth 100000 in
theorem fX11_strand : rr_fv mX11_strand 0 := by
  have z := rr_mob_ok (M := mX11_strand) (n := 0) (pi := 68) (ws := [(979, .instanceMethod yX11_strand), (980, .selects (rr_on 11) yX11_strand yX11_strand)]) (by decide +kernel) (List.mem_of_getElem? (i := 981) rfl)
  exact ⟨z.1, z.2 _ List.mem_cons_self, z.2 _ (List.mem_cons_of_mem _ List.mem_cons_self)⟩
abbrev mX11_fault : rr_M := (11, yX11_fault, cX11_fault, 1, (some .int))
set_option maxRecDepth 100000 in
theorem fX11_fault : rr_fv mX11_fault 0 := by
  have z := rr_mob_ok (M := mX11_fault) (n := 0) (pi := 68) (ws := [(1030, .instanceMethod yX11_fault), (1031, .selects (rr_on 11) yX11_fault yX11_fault)]) (by decide +kernel) (List.mem_of_getElem? (i := 1032) rfl)
  exact ⟨z.1, z.2 _ List.mem_cons_self, z.2 _ (List.mem_cons_of_mem _ List.mem_cons_self)⟩
abbrev mX11_isStrand : rr_M := (11, yX11_isStrand, cX11_isStrand, 1, (some .boolean))
set_option maxRecDepth 100000 in
theorem fX11_isStrand : rr_fv mX11_isStrand 0 := by
  have z := rr_mob_ok (M := mX11_isStrand) (n := 0) (pi := 68) (ws := [(1039, .instanceMethod yX11_isStrand), (34, .selects (rr_on 11) yX11_isStrand yX11_isStrand)]) (by decide +kernel) (List.mem_of_getElem? (i := 1040) rfl)
  exact ⟨z.1, z.2 _ List.mem_cons_self, z.2 _ (List.mem_cons_of_mem _ List.mem_cons_self)⟩
abbrev mX11_isCell : rr_M := (11, yX11_isCell, cX11_isCell, 2, (some .boolean))
set_option maxRecDepth 100000 in
theorem fX11_isCell : rr_fv mX11_isCell 1 := by
  have z := rr_mob_ok (M := mX11_isCell) (n := 1) (pi := 68) (ws := [(1080, .instanceMethod yX11_isCell), (41, .selects (rr_on 11) yX11_isCell yX11_isCell)]) (by decide +kernel) (List.mem_of_getElem? (i := 1081) rfl)
  exact ⟨z.1, z.2 _ List.mem_cons_self, z.2 _ (List.mem_cons_of_mem _ List.mem_cons_self)⟩
abbrev mX11_isClause : rr_M := (11, yX11_isClause, cX11_isClause, 2, (some .boolean))
set_option maxRecDepth 100000 in
theorem fX11_isClause : rr_fv mX11_isClause 1 := by
  have z := rr_mob_ok (M := mX11_isClause) (n := 1) (pi := 68) (ws := [(1071, .instanceMethod yX11_isClause), (40, .selects (rr_on 11) yX11_isClause yX11_isClause)]) (by decide +kernel) (List.mem_of_getElem? (i := 1072) rfl)
  exact ⟨z.1, z.2 _ List.mem_cons_self, z.2 _ (List.mem_cons_of_mem _ List.mem_cons_self)⟩
abbrev mX11_areClauses : rr_M := (11, yX11_areClauses, cX11_areClauses, 2, (some .boolean))
set_option maxRecDepth 100000 in
theorem fX11_areClauses : rr_fv mX11_areClauses 1 := by
  have z := rr_mob_ok (M := mX11_areClauses) (n := 1) (pi := 68) (ws := [(1165, .instanceMethod yX11_areClauses), (49, .selects (rr_on 11) yX11_areClauses yX11_areClauses)]) (by decide +kernel) (List.mem_of_getElem? (i := 1166) rfl)
  exact ⟨z.1, z.2 _ List.mem_cons_self, z.2 _ (List.mem_cons_of_mem _ List.mem_cons_self)⟩
abbrev mX11_tideAt : rr_M := (11, yX11_tideAt, cX11_tideAt, 2, (some .int))
set_option maxRecDepth 100000 in
theorem fX11_tideAt : rr_fv mX11_tideAt 1 := by
  have z := rr_mob_ok (M := mX11_tideAt) (n := 1) (pi := 68) (ws := [(1043, .instanceMethod yX11_tideAt), (35, .selects (rr_on 11) yX11_tideAt yX11_tideAt)]) (by decide +kernel) (List.mem_of_getElem? (i := 1044) rfl)
  exact ⟨z.1, z.2 _ List.mem_cons_self, z.2 _ (List.mem_cons_of_mem _ List.mem_cons_self)⟩
abbrev mX11_isWet : rr_M := (11, yX11_isWet, cX11_isWet, 3, (some .boolean))
set_option maxRecDepth 100000 in
theorem fX11_isWet : rr_fv mX11_isWet 2 := by
  have z := rr_mob_ok (M := mX11_isWet) (n := 2) (pi := 68) (ws := [(1051, .instanceMethod yX11_isWet), (37, .selects (rr_on 11) yX11_isWet yX11_isWet)]) (by decide +kernel) (List.mem_of_getElem? (i := 1052) rfl)
  exact ⟨z.1, z.2 _ List.mem_cons_self, z.2 _ (List.mem_cons_of_mem _ List.mem_cons_self)⟩
abbrev mX11_wetAt : rr_M := (11, yX11_wetAt, cX11_wetAt, 4, (some .int))
set_option maxRecDepth 100000 in
theorem fX11_wetAt : rr_fv mX11_wetAt 1 := by
  have z := rr_mob_ok (M := mX11_wetAt) (n := 1) (pi := 68) (ws := [(1047, .instanceMethod yX11_wetAt), (36, .selects (rr_on 11) yX11_wetAt yX11_wetAt)]) (by decide +kernel) (List.mem_of_getElem? (i := 1048) rfl)
  exact ⟨z.1, z.2 _ List.mem_cons_self, z.2 _ (List.mem_cons_of_mem _ List.mem_cons_self)⟩
abbrev mX11_isDone : rr_M := (11, yX11_isDone, cX11_isDone, 3, (some .boolean))
set_option maxRecDepth 100000 in
theorem fX11_isDone : rr_fv mX11_isDone 2 := by
  have z := rr_mob_ok (M := mX11_isDone) (n := 2) (pi := 68) (ws := [(1059, .instanceMethod yX11_isDone), (39, .selects (rr_on 11) yX11_isDone yX11_isDone)]) (by decide +kernel) (List.mem_of_getElem? (i := 1060) rfl)
  exact ⟨z.1, z.2 _ List.mem_cons_self, z.2 _ (List.mem_cons_of_mem _ List.mem_cons_self)⟩
abbrev mX11_force : rr_M := (11, yX11_force, cX11_force, 5, (some .int))
set_option maxRecDepth 100000 in
theorem fX11_force : rr_fv mX11_force 1 := by
  have z := rr_mob_ok (M := mX11_force) (n := 1) (pi := 68) (ws := [(1055, .instanceMethod yX11_force), (38, .selects (rr_on 11) yX11_force yX11_force)]) (by decide +kernel) (List.mem_of_getElem? (i := 1056) rfl)
  exact ⟨z.1, z.2 _ List.mem_cons_self, z.2 _ (List.mem_cons_of_mem _ List.mem_cons_self)⟩
abbrev mX11_worth : rr_M := (11, yX11_worth, cX11_worth, 5, (some .int))
set_option maxRecDepth 100000 in
theorem fX11_worth : rr_fv mX11_worth 2 := by
  have z := rr_mob_ok (M := mX11_worth) (n := 2) (pi := 68) (ws := [(1129, .instanceMethod yX11_worth), (46, .selects (rr_on 11) yX11_worth yX11_worth)]) (by decide +kernel) (List.mem_of_getElem? (i := 1130) rfl)
  exact ⟨z.1, z.2 _ List.mem_cons_self, z.2 _ (List.mem_cons_of_mem _ List.mem_cons_self)⟩
abbrev mX11_clauseIn : rr_M := (11, yX11_clauseIn, cX11_clauseIn, 3, (some .int))
set_option maxRecDepth 100000 in
theorem fX11_clauseIn : rr_fs mX11_clauseIn 2 := by
  have z := rr_mob_ok (M := mX11_clauseIn) (n := 2) (pi := 68) (ws := [(1083, .static yX11_clauseIn)]) (by decide +kernel) (List.mem_of_getElem? (i := 1084) rfl)
  exact ⟨z.1, z.2 _ List.mem_cons_self⟩
abbrev mX11_told : rr_M := (11, yX11_told, cX11_told, 2, (some .int))
set_option maxRecDepth 100000 in
theorem fX11_told : rr_fv mX11_told 1 := by
  have z := rr_mob_ok (M := mX11_told) (n := 1) (pi := 68) (ws := [(1034, .instanceMethod yX11_told), (1035, .selects (rr_on 11) yX11_told yX11_told)]) (by decide +kernel) (List.mem_of_getElem? (i := 1036) rfl)
  exact ⟨z.1, z.2 _ List.mem_cons_self, z.2 _ (List.mem_cons_of_mem _ List.mem_cons_self)⟩
abbrev mX11_clause : rr_M := (11, yX11_clause, cX11_clause, 3, (some .int))
set_option maxRecDepth 100000 in
theorem fX11_clause : rr_fv mX11_clause 2 := by
  have z := rr_mob_ok (M := mX11_clause) (n := 2) (pi := 68) (ws := [(1066, .instanceMethod yX11_clause), (1067, .selects (rr_on 11) yX11_clause yX11_clause)]) (by decide +kernel) (List.mem_of_getElem? (i := 1068) rfl)
  exact ⟨z.1, z.2 _ List.mem_cons_self, z.2 _ (List.mem_cons_of_mem _ List.mem_cons_self)⟩
abbrev mX11_cell : rr_M := (11, yX11_cell, cX11_cell, 3, (some .int))
set_option maxRecDepth 100000 in
theorem fX11_cell : rr_fv mX11_cell 2 := by
  have z := rr_mob_ok (M := mX11_cell) (n := 2) (pi := 68) (ws := [(1075, .instanceMethod yX11_cell), (1076, .selects (rr_on 11) yX11_cell yX11_cell)]) (by decide +kernel) (List.mem_of_getElem? (i := 1077) rfl)
  exact ⟨z.1, z.2 _ List.mem_cons_self, z.2 _ (List.mem_cons_of_mem _ List.mem_cons_self)⟩
abbrev mX11_notes : rr_M := (11, yX11_notes, cX11_notes, 2, none)
set_option maxRecDepth 100000 in
theorem fX11_notes : rr_fv mX11_notes 0 := by
  have z := rr_mob_ok (M := mX11_notes) (n := 0) (pi := 68) (ws := [(1096, .instanceMethod yX11_notes), (43, .selects (rr_on 11) yX11_notes yX11_notes)]) (by decide +kernel) (List.mem_of_getElem? (i := 1097) rfl)
  exact ⟨z.1, z.2 _ List.mem_cons_self, z.2 _ (List.mem_cons_of_mem _ List.mem_cons_self)⟩
abbrev mX11_goes : rr_M := (11, yX11_goes, cX11_goes, 2, none)
set_option maxRecDepth 100000 in
theorem fX11_goes : rr_fs mX11_goes 2 := by
  have z := rr_mob_ok (M := mX11_goes) (n := 2) (pi := 68) (ws := [(1106, .static yX11_goes)]) (by decide +kernel) (List.mem_of_getElem? (i := 1107) rfl)
  exact ⟨z.1, z.2 _ List.mem_cons_self⟩
abbrev mX11_mayBe : rr_M := (11, yX11_mayBe, cX11_mayBe, 4, (some .boolean))
set_option maxRecDepth 100000 in
theorem fX11_mayBe : rr_fv mX11_mayBe 3 := by
  have z := rr_mob_ok (M := mX11_mayBe) (n := 3) (pi := 68) (ws := [(1091, .instanceMethod yX11_mayBe), (42, .selects (rr_on 11) yX11_mayBe yX11_mayBe)]) (by decide +kernel) (List.mem_of_getElem? (i := 1092) rfl)
  exact ⟨z.1, z.2 _ List.mem_cons_self, z.2 _ (List.mem_cons_of_mem _ List.mem_cons_self)⟩
abbrev mX11_writes : rr_M := (11, yX11_writes, cX11_writes, 3, none)
set_option maxRecDepth 100000 in
theorem fX11_writes : rr_fs mX11_writes 3 := by
  have z := rr_mob_ok (M := mX11_writes) (n := 3) (pi := 68) (ws := [(1099, .static yX11_writes)]) (by decide +kernel) (List.mem_of_getElem? (i := 1100) rfl)
  exact ⟨z.1, z.2 _ List.mem_cons_self⟩
abbrev mX11_write : rr_M := (11, yX11_write, cX11_write, 3, (some .int))
set_option maxRecDepth 100000 in
theorem fX11_write : rr_fv mX11_write 2 := by
  have z := rr_mob_ok (M := mX11_write) (n := 2) (pi := 68) (ws := [(1086, .instanceMethod yX11_write), (1087, .selects (rr_on 11) yX11_write yX11_write)]) (by decide +kernel) (List.mem_of_getElem? (i := 1088) rfl)
  exact ⟨z.1, z.2 _ List.mem_cons_self, z.2 _ (List.mem_cons_of_mem _ List.mem_cons_self)⟩
abbrev mX11_rub : rr_M := (11, yX11_rub, cX11_rub, 3, (some .int))
set_option maxRecDepth 100000 in
theorem fX11_rub : rr_fv mX11_rub 1 := by
  have z := rr_mob_ok (M := mX11_rub) (n := 1) (pi := 68) (ws := [(1102, .instanceMethod yX11_rub), (1103, .selects (rr_on 11) yX11_rub yX11_rub)]) (by decide +kernel) (List.mem_of_getElem? (i := 1104) rfl)
  exact ⟨z.1, z.2 _ List.mem_cons_self, z.2 _ (List.mem_cons_of_mem _ List.mem_cons_self)⟩
abbrev mX11_sweeps : rr_M := (11, yX11_sweeps, cX11_sweeps, 3, (some .int))
set_option maxRecDepth 100000 in
theorem fX11_sweeps : rr_fs mX11_sweeps 1 := by
  have z := rr_mob_ok (M := mX11_sweeps) (n := 1) (pi := 68) (ws := [(1113, .static yX11_sweeps)]) (by decide +kernel) (List.mem_of_getElem? (i := 1114) rfl)
  exact ⟨z.1, z.2 _ List.mem_cons_self⟩
abbrev mX11_storm : rr_M := (11, yX11_storm, cX11_storm, 1, (some .int))
set_option maxRecDepth 100000 in
theorem fX11_storm : rr_fv mX11_storm 0 := by
  have z := rr_mob_ok (M := mX11_storm) (n := 0) (pi := 68) (ws := [(1109, .instanceMethod yX11_storm), (1110, .selects (rr_on 11) yX11_storm yX11_storm)]) (by decide +kernel) (List.mem_of_getElem? (i := 1111) rfl)
  exact ⟨z.1, z.2 _ List.mem_cons_self, z.2 _ (List.mem_cons_of_mem _ List.mem_cons_self)⟩
abbrev mX11_passes : rr_M := (11, yX11_passes, cX11_passes, 4, none)
set_option maxRecDepth 100000 in
theorem fX11_passes : rr_fv mX11_passes 1 := by
  have z := rr_mob_ok (M := mX11_passes) (n := 1) (pi := 68) (ws := [(1125, .instanceMethod yX11_passes), (45, .selects (rr_on 11) yX11_passes yX11_passes)]) (by decide +kernel) (List.mem_of_getElem? (i := 1126) rfl)
  exact ⟨z.1, z.2 _ List.mem_cons_self, z.2 _ (List.mem_cons_of_mem _ List.mem_cons_self)⟩
abbrev mX11_barred : rr_M := (11, yX11_barred, cX11_barred, 2, (some .int))
set_option maxRecDepth 100000 in
theorem fX11_barred : rr_fv mX11_barred 1 := by
  have z := rr_mob_ok (M := mX11_barred) (n := 1) (pi := 68) (ws := [(1121, .instanceMethod yX11_barred), (44, .selects (rr_on 11) yX11_barred yX11_barred)]) (by decide +kernel) (List.mem_of_getElem? (i := 1122) rfl)
  exact ⟨z.1, z.2 _ List.mem_cons_self, z.2 _ (List.mem_cons_of_mem _ List.mem_cons_self)⟩
abbrev mX11_hour : rr_M := (11, yX11_hour, cX11_hour, 4, (some .int))
set_option maxRecDepth 100000 in
theorem fX11_hour : rr_fv mX11_hour 1 := by
  have z := rr_mob_ok (M := mX11_hour) (n := 1) (pi := 68) (ws := [(1116, .instanceMethod yX11_hour), (1117, .selects (rr_on 11) yX11_hour yX11_hour)]) (by decide +kernel) (List.mem_of_getElem? (i := 1118) rfl)
  exact ⟨z.1, z.2 _ List.mem_cons_self, z.2 _ (List.mem_cons_of_mem _ List.mem_cons_self)⟩
abbrev mX11_draw : rr_M := (11, yX11_draw, cX11_draw, 2, (some .int))
set_option maxRecDepth 100000 in
theorem fX11_draw : rr_fv mX11_draw 1 := by
  have z := rr_mob_ok (M := mX11_draw) (n := 1) (pi := 68) (ws := [(1137, .instanceMethod yX11_draw), (47, .selects (rr_on 11) yX11_draw yX11_draw)]) (by decide +kernel) (List.mem_of_getElem? (i := 1138) rfl)
  exact ⟨z.1, z.2 _ List.mem_cons_self, z.2 _ (List.mem_cons_of_mem _ List.mem_cons_self)⟩
abbrev mX11_drift : rr_M := (11, yX11_drift, cX11_drift, 6, (some .int))
set_option maxRecDepth 100000 in
theorem fX11_drift : rr_fv mX11_drift 1 := by
  have z := rr_mob_ok (M := mX11_drift) (n := 1) (pi := 68) (ws := [(1132, .instanceMethod yX11_drift), (1133, .selects (rr_on 11) yX11_drift yX11_drift)]) (by decide +kernel) (List.mem_of_getElem? (i := 1134) rfl)
  exact ⟨z.1, z.2 _ List.mem_cons_self, z.2 _ (List.mem_cons_of_mem _ List.mem_cons_self)⟩
abbrev mX11_undo : rr_M := (11, yX11_undo, cX11_undo, 2, (some .int))
set_option maxRecDepth 100000 in
theorem fX11_undo : rr_fv mX11_undo 1 := by
  have z := rr_mob_ok (M := mX11_undo) (n := 1) (pi := 68) (ws := [(1144, .instanceMethod yX11_undo), (1145, .selects (rr_on 11) yX11_undo yX11_undo)]) (by decide +kernel) (List.mem_of_getElem? (i := 1146) rfl)
  exact ⟨z.1, z.2 _ List.mem_cons_self, z.2 _ (List.mem_cons_of_mem _ List.mem_cons_self)⟩
abbrev mX11_tries : rr_M := (11, yX11_tries, cX11_tries, 1, none)
set_option maxRecDepth 100000 in
theorem fX11_tries : rr_fv mX11_tries 0 := by
  have z := rr_mob_ok (M := mX11_tries) (n := 0) (pi := 68) (ws := [(1153, .instanceMethod yX11_tries), (48, .selects (rr_on 11) yX11_tries yX11_tries)]) (by decide +kernel) (List.mem_of_getElem? (i := 1154) rfl)
  exact ⟨z.1, z.2 _ List.mem_cons_self, z.2 _ (List.mem_cons_of_mem _ List.mem_cons_self)⟩
abbrev mX11_lasts : rr_M := (11, yX11_lasts, cX11_lasts, 5, (some .int))
set_option maxRecDepth 100000 in
theorem fX11_lasts : rr_fv mX11_lasts 2 := by
  have z := rr_mob_ok (M := mX11_lasts) (n := 2) (pi := 68) (ws := [(1148, .instanceMethod yX11_lasts), (1149, .selects (rr_on 11) yX11_lasts yX11_lasts)]) (by decide +kernel) (List.mem_of_getElem? (i := 1150) rfl)
  exact ⟨z.1, z.2 _ List.mem_cons_self, z.2 _ (List.mem_cons_of_mem _ List.mem_cons_self)⟩
abbrev mX11_washed : rr_M := (11, yX11_washed, cX11_washed, 3, (some .int))
set_option maxRecDepth 100000 in
theorem fX11_washed : rr_fv mX11_washed 1 := by
  have z := rr_mob_ok (M := mX11_washed) (n := 1) (pi := 68) (ws := [(1156, .instanceMethod yX11_washed), (1157, .selects (rr_on 11) yX11_washed yX11_washed)]) (by decide +kernel) (List.mem_of_getElem? (i := 1158) rfl)
  exact ⟨z.1, z.2 _ List.mem_cons_self, z.2 _ (List.mem_cons_of_mem _ List.mem_cons_self)⟩
abbrev mX11_planned : rr_M := (11, yX11_planned, cX11_planned, 7, (some .int))
set_option maxRecDepth 100000 in
theorem fX11_planned : rr_fv mX11_planned 3 := by
  have z := rr_mob_ok (M := mX11_planned) (n := 3) (pi := 68) (ws := [(1172, .instanceMethod yX11_planned), (50, .selects (rr_on 11) yX11_planned yX11_planned)]) (by decide +kernel) (List.mem_of_getElem? (i := 1173) rfl)
  exact ⟨z.1, z.2 _ List.mem_cons_self, z.2 _ (List.mem_cons_of_mem _ List.mem_cons_self)⟩
abbrev mX11_nextPlan : rr_M := (11, yX11_nextPlan, cX11_nextPlan, 3, (some .boolean))
set_option maxRecDepth 100000 in
theorem fX11_nextPlan : rr_fv mX11_nextPlan 1 := by
  have z := rr_mob_ok (M := mX11_nextPlan) (n := 1) (pi := 68) (ws := [(1176, .instanceMethod yX11_nextPlan), (51, .selects (rr_on 11) yX11_nextPlan yX11_nextPlan)]) (by decide +kernel) (List.mem_of_getElem? (i := 1177) rfl)
  exact ⟨z.1, z.2 _ List.mem_cons_self, z.2 _ (List.mem_cons_of_mem _ List.mem_cons_self)⟩
abbrev mX11_plan : rr_M := (11, yX11_plan, cX11_plan, 11, (some .int))
set_option maxRecDepth 100000 in
theorem fX11_plan : rr_fv mX11_plan 3 := by
  have z := rr_mob_ok (M := mX11_plan) (n := 3) (pi := 68) (ws := [(1160, .instanceMethod yX11_plan), (1161, .selects (rr_on 11) yX11_plan yX11_plan)]) (by decide +kernel) (List.mem_of_getElem? (i := 1162) rfl)
  exact ⟨z.1, z.2 _ List.mem_cons_self, z.2 _ (List.mem_cons_of_mem _ List.mem_cons_self)⟩
abbrev mX11_hoursOf : rr_M := (11, yX11_hoursOf, cX11_hoursOf, 4, (some .int))
set_option maxRecDepth 100000 in
theorem fX11_hoursOf : rr_fv mX11_hoursOf 1 := by
  have z := rr_mob_ok (M := mX11_hoursOf) (n := 1) (pi := 68) (ws := [(1184, .instanceMethod yX11_hoursOf), (52, .selects (rr_on 11) yX11_hoursOf yX11_hoursOf)]) (by decide +kernel) (List.mem_of_getElem? (i := 1185) rfl)
  exact ⟨z.1, z.2 _ List.mem_cons_self, z.2 _ (List.mem_cons_of_mem _ List.mem_cons_self)⟩
abbrev mX11_bargain : rr_M := (11, yX11_bargain, cX11_bargain, 11, (some .int))
set_option maxRecDepth 100000 in
theorem fX11_bargain : rr_fv mX11_bargain 4 := by
  have z := rr_mob_ok (M := mX11_bargain) (n := 4) (pi := 68) (ws := [(1179, .instanceMethod yX11_bargain), (1180, .selects (rr_on 11) yX11_bargain yX11_bargain)]) (by decide +kernel) (List.mem_of_getElem? (i := 1181) rfl)
  exact ⟨z.1, z.2 _ List.mem_cons_self, z.2 _ (List.mem_cons_of_mem _ List.mem_cons_self)⟩
abbrev mX11_crossing : rr_M := (11, yX11_crossing, cX11_crossing, 3, (some .int))
set_option maxRecDepth 100000 in
theorem fX11_crossing : rr_fv mX11_crossing 1 := by
  have z := rr_mob_ok (M := mX11_crossing) (n := 1) (pi := 68) (ws := [(1187, .instanceMethod yX11_crossing), (1188, .selects (rr_on 11) yX11_crossing yX11_crossing)]) (by decide +kernel) (List.mem_of_getElem? (i := 1189) rfl)
  exact ⟨z.1, z.2 _ List.mem_cons_self, z.2 _ (List.mem_cons_of_mem _ List.mem_cons_self)⟩
abbrev mX11_leaners : rr_M := (11, yX11_leaners, cX11_leaners, 5, (some .int))
set_option maxRecDepth 100000 in
theorem fX11_leaners : rr_fv mX11_leaners 1 := by
  have z := rr_mob_ok (M := mX11_leaners) (n := 1) (pi := 68) (ws := [(1191, .instanceMethod yX11_leaners), (1192, .selects (rr_on 11) yX11_leaners yX11_leaners)]) (by decide +kernel) (List.mem_of_getElem? (i := 1193) rfl)
  exact ⟨z.1, z.2 _ List.mem_cons_self, z.2 _ (List.mem_cons_of_mem _ List.mem_cons_self)⟩
abbrev mX11_storms : rr_M := (11, yX11_storms, cX11_storms, 6, (some .int))
set_option maxRecDepth 100000 in
theorem fX11_storms : rr_fv mX11_storms 2 := by
  have z := rr_mob_ok (M := mX11_storms) (n := 2) (pi := 68) (ws := [(1195, .instanceMethod yX11_storms), (1196, .selects (rr_on 11) yX11_storms yX11_storms)]) (by decide +kernel) (List.mem_of_getElem? (i := 1197) rfl)
  exact ⟨z.1, z.2 _ List.mem_cons_self, z.2 _ (List.mem_cons_of_mem _ List.mem_cons_self)⟩
abbrev mX11_see : rr_M := (11, yX11_see, cX11_see, 4, (some .int))
set_option maxRecDepth 100000 in
theorem fX11_see : rr_fv mX11_see 3 := by
  have z := rr_mob_ok (M := mX11_see) (n := 3) (pi := 68) (ws := [(1201, .instanceMethod yX11_see), (1202, .selects (rr_on 11) yX11_see yX11_see)]) (by decide +kernel) (List.mem_of_getElem? (i := 1203) rfl)
  exact ⟨z.1, z.2 _ List.mem_cons_self, z.2 _ (List.mem_cons_of_mem _ List.mem_cons_self)⟩
abbrev mX11_forceBy : rr_M := (11, yX11_forceBy, cX11_forceBy, 4, (some .int))
set_option maxRecDepth 100000 in
theorem fX11_forceBy : rr_fv mX11_forceBy 2 := by
  have z := rr_mob_ok (M := mX11_forceBy) (n := 2) (pi := 68) (ws := [(1218, .instanceMethod yX11_forceBy), (55, .selects (rr_on 11) yX11_forceBy yX11_forceBy)]) (by decide +kernel) (List.mem_of_getElem? (i := 1219) rfl)
  exact ⟨z.1, z.2 _ List.mem_cons_self, z.2 _ (List.mem_cons_of_mem _ List.mem_cons_self)⟩
abbrev mX11_isSo : rr_M := (11, yX11_isSo, cX11_isSo, 4, (some .boolean))
set_option maxRecDepth 100000 in
theorem fX11_isSo : rr_fv mX11_isSo 1 := by
  have z := rr_mob_ok (M := mX11_isSo) (n := 1) (pi := 68) (ws := [(1214, .instanceMethod yX11_isSo), (54, .selects (rr_on 11) yX11_isSo yX11_isSo)]) (by decide +kernel) (List.mem_of_getElem? (i := 1215) rfl)
  exact ⟨z.1, z.2 _ List.mem_cons_self, z.2 _ (List.mem_cons_of_mem _ List.mem_cons_self)⟩
abbrev mX11_begins : rr_M := (11, yX11_begins, cX11_begins, 3, (some .int))
set_option maxRecDepth 100000 in
theorem fX11_begins : rr_fv mX11_begins 0 := by
  have z := rr_mob_ok (M := mX11_begins) (n := 0) (pi := 68) (ws := [(1210, .instanceMethod yX11_begins), (53, .selects (rr_on 11) yX11_begins yX11_begins)]) (by decide +kernel) (List.mem_of_getElem? (i := 1211) rfl)
  exact ⟨z.1, z.2 _ List.mem_cons_self, z.2 _ (List.mem_cons_of_mem _ List.mem_cons_self)⟩
abbrev mX11_many : rr_M := (11, yX11_many, cX11_many, 3, (some .int))
set_option maxRecDepth 100000 in
theorem fX11_many : rr_fs mX11_many 1 := by
  have z := rr_mob_ok (M := mX11_many) (n := 1) (pi := 68) (ws := [(1221, .static yX11_many)]) (by decide +kernel) (List.mem_of_getElem? (i := 1222) rfl)
  exact ⟨z.1, z.2 _ List.mem_cons_self⟩
abbrev mX11_agreed : rr_M := (11, yX11_agreed, cX11_agreed, 5, (some .int))
set_option maxRecDepth 100000 in
theorem fX11_agreed : rr_fv mX11_agreed 1 := by
  have z := rr_mob_ok (M := mX11_agreed) (n := 1) (pi := 68) (ws := [(1205, .instanceMethod yX11_agreed), (1206, .selects (rr_on 11) yX11_agreed yX11_agreed)]) (by decide +kernel) (List.mem_of_getElem? (i := 1207) rfl)
  exact ⟨z.1, z.2 _ List.mem_cons_self, z.2 _ (List.mem_cons_of_mem _ List.mem_cons_self)⟩
abbrev mX11_lookAt : rr_M := (11, yX11_lookAt, cX11_lookAt, 9, (some .int))
set_option maxRecDepth 100000 in
theorem fX11_lookAt : rr_fv mX11_lookAt 1 := by
  have z := rr_mob_ok (M := mX11_lookAt) (n := 1) (pi := 68) (ws := [(1224, .instanceMethod yX11_lookAt), (1225, .selects (rr_on 11) yX11_lookAt yX11_lookAt)]) (by decide +kernel) (List.mem_of_getElem? (i := 1226) rfl)
  exact ⟨z.1, z.2 _ List.mem_cons_self, z.2 _ (List.mem_cons_of_mem _ List.mem_cons_self)⟩
abbrev mX11_note : rr_M := (11, yX11_note, cX11_note, 3, (some .int))
set_option maxRecDepth 100000 in
theorem fX11_note : rr_fv mX11_note 2 := by
  have z := rr_mob_ok (M := mX11_note) (n := 2) (pi := 68) (ws := [(1228, .instanceMethod yX11_note), (1229, .selects (rr_on 11) yX11_note yX11_note)]) (by decide +kernel) (List.mem_of_getElem? (i := 1230) rfl)
  exact ⟨z.1, z.2 _ List.mem_cons_self, z.2 _ (List.mem_cons_of_mem _ List.mem_cons_self)⟩
abbrev mX11_judge : rr_M := (11, yX11_judge, cX11_judge, 2, (some .int))
set_option maxRecDepth 100000 in
theorem fX11_judge : rr_fv mX11_judge 0 := by
  have z := rr_mob_ok (M := mX11_judge) (n := 0) (pi := 68) (ws := [(1232, .instanceMethod yX11_judge), (1233, .selects (rr_on 11) yX11_judge yX11_judge)]) (by decide +kernel) (List.mem_of_getElem? (i := 1234) rfl)
  exact ⟨z.1, z.2 _ List.mem_cons_self, z.2 _ (List.mem_cons_of_mem _ List.mem_cons_self)⟩
abbrev mX11_tear : rr_M := (11, yX11_tear, cX11_tear, 2, (some .int))
set_option maxRecDepth 100000 in
theorem fX11_tear : rr_fv mX11_tear 0 := by
  have z := rr_mob_ok (M := mX11_tear) (n := 0) (pi := 68) (ws := [(1236, .instanceMethod yX11_tear), (1237, .selects (rr_on 11) yX11_tear yX11_tear)]) (by decide +kernel) (List.mem_of_getElem? (i := 1238) rfl)
  exact ⟨z.1, z.2 _ List.mem_cons_self, z.2 _ (List.mem_cons_of_mem _ List.mem_cons_self)⟩
abbrev mX11_seed : rr_M := (11, yX11_seed, cX11_seed, 3, (some .int))
set_option maxRecDepth 100000 in
theorem fX11_seed : rr_fv mX11_seed 1 := by
  have z := rr_mob_ok (M := mX11_seed) (n := 1) (pi := 68) (ws := [(1240, .instanceMethod yX11_seed), (1241, .selects (rr_on 11) yX11_seed yX11_seed)]) (by decide +kernel) (List.mem_of_getElem? (i := 1242) rfl)
  exact ⟨z.1, z.2 _ List.mem_cons_self, z.2 _ (List.mem_cons_of_mem _ List.mem_cons_self)⟩
abbrev mX11_keep : rr_M := (11, yX11_keep, cX11_keep, 2, (some .int))
set_option maxRecDepth 100000 in
theorem fX11_keep : rr_fv mX11_keep 1 := by
  have z := rr_mob_ok (M := mX11_keep) (n := 1) (pi := 68) (ws := [(1244, .instanceMethod yX11_keep), (1245, .selects (rr_on 11) yX11_keep yX11_keep)]) (by decide +kernel) (List.mem_of_getElem? (i := 1246) rfl)
  exact ⟨z.1, z.2 _ List.mem_cons_self, z.2 _ (List.mem_cons_of_mem _ List.mem_cons_self)⟩
abbrev mX11_goBack : rr_M := (11, yX11_goBack, cX11_goBack, 2, (some .int))
set_option maxRecDepth 100000 in
theorem fX11_goBack : rr_fv mX11_goBack 1 := by
  have z := rr_mob_ok (M := mX11_goBack) (n := 1) (pi := 68) (ws := [(1248, .instanceMethod yX11_goBack), (1249, .selects (rr_on 11) yX11_goBack yX11_goBack)]) (by decide +kernel) (List.mem_of_getElem? (i := 1250) rfl)
  exact ⟨z.1, z.2 _ List.mem_cons_self, z.2 _ (List.mem_cons_of_mem _ List.mem_cons_self)⟩
abbrev mJ6_numberOfTrailingZeros_0f7a4 : rr_M := (13, yJ6_numberOfTrailingZeros_0f7a4, cJ6_numberOfTrailingZeros_0f7a4, 2, (some .int))
set_option maxRecDepth 100000 in
theorem fJ6_numberOfTrailingZeros_0f7a4 : rr_fs mJ6_numberOfTrailingZeros_0f7a4 1 := by
  have z := rr_mob_ok (M := mJ6_numberOfTrailingZeros_0f7a4) (n := 1) (pi := 70) (ws := [(802, .static yJ6_numberOfTrailingZeros_0f7a4)]) (by decide +kernel) (List.mem_of_getElem? (i := 803) rfl)
  exact ⟨z.1, z.2 _ List.mem_cons_self⟩
abbrev mJ6_bitCount_0f7a4 : rr_M := (13, yJ6_bitCount_0f7a4, cJ6_bitCount_0f7a4, 1, (some .int))
set_option maxRecDepth 100000 in
theorem fJ6_bitCount_0f7a4 : rr_fs mJ6_bitCount_0f7a4 1 := by
  have z := rr_mob_ok (M := mJ6_bitCount_0f7a4) (n := 1) (pi := 70) (ws := [(677, .static yJ6_bitCount_0f7a4)]) (by decide +kernel) (List.mem_of_getElem? (i := 678) rfl)
  exact ⟨z.1, z.2 _ List.mem_cons_self⟩
theorem kl_12_9 : Jvm.Cond.methodLink (rr_on 12) 9 yX10_init ∈ rr_W := rr_W_in (List.mem_of_getElem? (i := 74) (by decide +kernel)) rfl
theorem kl_10_1 : Jvm.Cond.methodLink (rr_on 10) 1 objectInit ∈ rr_W := rr_W_in (List.mem_of_getElem? (i := 77) (by decide +kernel)) rfl
theorem kl_8_3 : Jvm.Cond.methodLink (rr_on 8) 3 objectInit ∈ rr_W := rr_W_in (List.mem_of_getElem? (i := 85) (by decide +kernel)) rfl
theorem kl_10_18 : Jvm.Cond.methodLink (rr_on 10) 18 yX5_init ∈ rr_W := rr_W_in (List.mem_of_getElem? (i := 144) (by decide +kernel)) rfl
theorem kl_5_3 : Jvm.Cond.methodLink (rr_on 5) 3 objectInit ∈ rr_W := rr_W_in (List.mem_of_getElem? (i := 147) (by decide +kernel)) rfl
theorem kl_10_25 : Jvm.Cond.methodLink (rr_on 10) 25 yX6_init ∈ rr_W := rr_W_in (List.mem_of_getElem? (i := 181) (by decide +kernel)) rfl
theorem kl_6_3 : Jvm.Cond.methodLink (rr_on 6) 3 objectInit ∈ rr_W := rr_W_in (List.mem_of_getElem? (i := 184) (by decide +kernel)) rfl
theorem kl_6_25 : Jvm.Cond.methodLink (rr_on 6) 25 yX6_restart ∈ rr_W := rr_W_in (List.mem_of_getElem? (i := 185) (by decide +kernel)) rfl
theorem kl_6_41 : Jvm.Cond.methodLink (rr_on 6) 41 yX6_remove ∈ rr_W := rr_W_in (List.mem_of_getElem? (i := 189) (by decide +kernel)) rfl
theorem kl_3_3 : Jvm.Cond.methodLink (rr_on 3) 3 objectInit ∈ rr_W := rr_W_in (List.mem_of_getElem? (i := 231) (by decide +kernel)) rfl
theorem kl_2_3 : Jvm.Cond.methodLink (rr_on 2) 3 objectInit ∈ rr_W := rr_W_in (List.mem_of_getElem? (i := 248) (by decide +kernel)) rfl
theorem kl_10_51 : Jvm.Cond.methodLink (rr_on 10) 51 yX4_init ∈ rr_W := rr_W_in (List.mem_of_getElem? (i := 262) (by decide +kernel)) rfl
theorem kl_4_3 : Jvm.Cond.methodLink (rr_on 4) 3 objectInit ∈ rr_W := rr_W_in (List.mem_of_getElem? (i := 265) (by decide +kernel)) rfl
theorem kl_10_58 : Jvm.Cond.methodLink (rr_on 10) 58 yX9_init ∈ rr_W := rr_W_in (List.mem_of_getElem? (i := 293) (by decide +kernel)) rfl
theorem kl_9_3 : Jvm.Cond.methodLink (rr_on 9) 3 objectInit ∈ rr_W := rr_W_in (List.mem_of_getElem? (i := 296) (by decide +kernel)) rfl
theorem kl_10_65 : Jvm.Cond.methodLink (rr_on 10) 65 yX7_init ∈ rr_W := rr_W_in (List.mem_of_getElem? (i := 306) (by decide +kernel)) rfl
theorem kl_7_3 : Jvm.Cond.methodLink (rr_on 7) 3 objectInit ∈ rr_W := rr_W_in (List.mem_of_getElem? (i := 309) (by decide +kernel)) rfl
theorem kl_0_3 : Jvm.Cond.methodLink (rr_on 0) 3 objectInit ∈ rr_W := rr_W_in (List.mem_of_getElem? (i := 338) (by decide +kernel)) rfl
theorem kl_1_1 : Jvm.Cond.methodLink (rr_on 1) 1 objectInit ∈ rr_W := rr_W_in (List.mem_of_getElem? (i := 355) (by decide +kernel)) rfl
theorem kl_12_13 : Jvm.Cond.methodLink (rr_on 12) 13 yX10_feed ∈ rr_W := rr_W_in (List.mem_of_getElem? (i := 396) (by decide +kernel)) rfl
theorem kl_10_87 : Jvm.Cond.methodLink (rr_on 10) 87 yX5_add ∈ rr_W := rr_W_in (List.mem_of_getElem? (i := 401) (by decide +kernel)) rfl
theorem kl_12_18 : Jvm.Cond.methodLink (rr_on 12) 18 yX10_strand ∈ rr_W := rr_W_in (List.mem_of_getElem? (i := 406) (by decide +kernel)) rfl
theorem kl_10_96 : Jvm.Cond.methodLink (rr_on 10) 96 yX5_read ∈ rr_W := rr_W_in (List.mem_of_getElem? (i := 410) (by decide +kernel)) rfl
theorem kl_5_39 : Jvm.Cond.methodLink (rr_on 5) 39 yX8_empty ∈ rr_W := rr_W_in (List.mem_of_getElem? (i := 414) (by decide +kernel)) rfl
theorem kl_5_42 : Jvm.Cond.methodLink (rr_on 5) 42 yX5_nextLetter ∈ rr_W := rr_W_in (List.mem_of_getElem? (i := 418) (by decide +kernel)) rfl
theorem kl_5_46 : Jvm.Cond.methodLink (rr_on 5) 46 yX5_readTides ∈ rr_W := rr_W_in (List.mem_of_getElem? (i := 422) (by decide +kernel)) rfl
theorem kl_5_56 : Jvm.Cond.methodLink (rr_on 5) 56 yX5_fail ∈ rr_W := rr_W_in (List.mem_of_getElem? (i := 426) (by decide +kernel)) rfl
theorem kl_5_66 : Jvm.Cond.methodLink (rr_on 5) 66 yX5_readNumber ∈ rr_W := rr_W_in (List.mem_of_getElem? (i := 430) (by decide +kernel)) rfl
theorem kl_5_52 : Jvm.Cond.methodLink (rr_on 5) 52 yX5_isFigure ∈ rr_W := rr_W_in (List.mem_of_getElem? (i := 434) (by decide +kernel)) rfl
theorem kl_5_70 : Jvm.Cond.methodLink (rr_on 5) 70 yX8_addTide ∈ rr_W := rr_W_in (List.mem_of_getElem? (i := 437) (by decide +kernel)) rfl
theorem kl_5_74 : Jvm.Cond.methodLink (rr_on 5) 74 yX5_readEnd ∈ rr_W := rr_W_in (List.mem_of_getElem? (i := 441) (by decide +kernel)) rfl
theorem kl_5_49 : Jvm.Cond.methodLink (rr_on 5) 49 yX5_readPart ∈ rr_W := rr_W_in (List.mem_of_getElem? (i := 445) (by decide +kernel)) rfl
theorem kl_5_77 : Jvm.Cond.methodLink (rr_on 5) 77 yX5_readWind ∈ rr_W := rr_W_in (List.mem_of_getElem? (i := 449) (by decide +kernel)) rfl
theorem kl_5_80 : Jvm.Cond.methodLink (rr_on 5) 80 yX5_readCell ∈ rr_W := rr_W_in (List.mem_of_getElem? (i := 453) (by decide +kernel)) rfl
theorem kl_5_89 : Jvm.Cond.methodLink (rr_on 5) 89 yX8_addCell ∈ rr_W := rr_W_in (List.mem_of_getElem? (i := 457) (by decide +kernel)) rfl
theorem kl_5_83 : Jvm.Cond.methodLink (rr_on 5) 83 yX5_readClause ∈ rr_W := rr_W_in (List.mem_of_getElem? (i := 461) (by decide +kernel)) rfl
theorem kl_5_95 : Jvm.Cond.methodLink (rr_on 5) 95 yX5_readLean ∈ rr_W := rr_W_in (List.mem_of_getElem? (i := 465) (by decide +kernel)) rfl
theorem kl_5_102 : Jvm.Cond.methodLink (rr_on 5) 102 yX8_hasClause ∈ rr_W := rr_W_in (List.mem_of_getElem? (i := 469) (by decide +kernel)) rfl
theorem kl_5_98 : Jvm.Cond.methodLink (rr_on 5) 98 yX8_addClause ∈ rr_W := rr_W_in (List.mem_of_getElem? (i := 473) (by decide +kernel)) rfl
theorem kl_10_105 : Jvm.Cond.methodLink (rr_on 10) 105 yX8_become ∈ rr_W := rr_W_in (List.mem_of_getElem? (i := 477) (by decide +kernel)) rfl
theorem kl_8_43 : Jvm.Cond.methodLink (rr_on 8) 43 arraycopyName ∈ rr_W := rr_W_in (List.mem_of_getElem? (i := 481) (by decide +kernel)) rfl
theorem kl_10_108 : Jvm.Cond.methodLink (rr_on 10) 108 yX6_restart ∈ rr_W := rr_W_in (List.mem_of_getElem? (i := 484) (by decide +kernel)) rfl
theorem kl_10_111 : Jvm.Cond.methodLink (rr_on 10) 111 yX7_forget ∈ rr_W := rr_W_in (List.mem_of_getElem? (i := 485) (by decide +kernel)) rfl
theorem kl_10_114 : Jvm.Cond.methodLink (rr_on 10) 114 yX0_forget ∈ rr_W := rr_W_in (List.mem_of_getElem? (i := 489) (by decide +kernel)) rfl
theorem kl_10_115 : Jvm.Cond.methodLink (rr_on 10) 115 yX2_forget ∈ rr_W := rr_W_in (List.mem_of_getElem? (i := 493) (by decide +kernel)) rfl
theorem kl_10_116 : Jvm.Cond.methodLink (rr_on 10) 116 yX3_forget ∈ rr_W := rr_W_in (List.mem_of_getElem? (i := 497) (by decide +kernel)) rfl
theorem kl_12_23 : Jvm.Cond.methodLink (rr_on 12) 23 yX10_fault ∈ rr_W := rr_W_in (List.mem_of_getElem? (i := 501) (by decide +kernel)) rfl
theorem kl_12_27 : Jvm.Cond.methodLink (rr_on 12) 27 yX10_told ∈ rr_W := rr_W_in (List.mem_of_getElem? (i := 505) (by decide +kernel)) rfl
theorem kl_10_135 : Jvm.Cond.methodLink (rr_on 10) 135 yX8_tideAt ∈ rr_W := rr_W_in (List.mem_of_getElem? (i := 509) (by decide +kernel)) rfl
theorem kl_10_139 : Jvm.Cond.methodLink (rr_on 10) 139 yX8_wetSet ∈ rr_W := rr_W_in (List.mem_of_getElem? (i := 513) (by decide +kernel)) rfl
theorem kl_8_57 : Jvm.Cond.methodLink (rr_on 8) 57 yX8_isWet ∈ rr_W := rr_W_in (List.mem_of_getElem? (i := 517) (by decide +kernel)) rfl
theorem kl_8_49 : Jvm.Cond.methodLink (rr_on 8) 49 yX8_hasCell ∈ rr_W := rr_W_in (List.mem_of_getElem? (i := 521) (by decide +kernel)) rfl
theorem kl_8_53 : Jvm.Cond.methodLink (rr_on 8) 53 yX8_tideAt ∈ rr_W := rr_W_in (List.mem_of_getElem? (i := 525) (by decide +kernel)) rfl
theorem kl_10_145 : Jvm.Cond.methodLink (rr_on 10) 145 yX6_forceSet ∈ rr_W := rr_W_in (List.mem_of_getElem? (i := 526) (by decide +kernel)) rfl
theorem kl_6_83 : Jvm.Cond.methodLink (rr_on 6) 83 yX6_isDone ∈ rr_W := rr_W_in (List.mem_of_getElem? (i := 530) (by decide +kernel)) rfl
theorem kl_6_56 : Jvm.Cond.methodLink (rr_on 6) 56 yX6_isNowhere ∈ rr_W := rr_W_in (List.mem_of_getElem? (i := 534) (by decide +kernel)) rfl
theorem kl_12_31 : Jvm.Cond.methodLink (rr_on 12) 31 yX10_clause ∈ rr_W := rr_W_in (List.mem_of_getElem? (i := 539) (by decide +kernel)) rfl
theorem kl_10_161 : Jvm.Cond.methodLink (rr_on 10) 161 yX8_hasClause ∈ rr_W := rr_W_in (List.mem_of_getElem? (i := 543) (by decide +kernel)) rfl
theorem kl_12_36 : Jvm.Cond.methodLink (rr_on 12) 36 yX10_cell ∈ rr_W := rr_W_in (List.mem_of_getElem? (i := 545) (by decide +kernel)) rfl
theorem kl_10_187 : Jvm.Cond.methodLink (rr_on 10) 187 yX8_hasCell ∈ rr_W := rr_W_in (List.mem_of_getElem? (i := 549) (by decide +kernel)) rfl
theorem kl_10_193 : Jvm.Cond.methodLink (rr_on 10) 193 yX6_clauseIn ∈ rr_W := rr_W_in (List.mem_of_getElem? (i := 550) (by decide +kernel)) rfl
theorem kl_10_196 : Jvm.Cond.methodLink (rr_on 10) 196 yX8_isWet ∈ rr_W := rr_W_in (List.mem_of_getElem? (i := 554) (by decide +kernel)) rfl
theorem kl_12_40 : Jvm.Cond.methodLink (rr_on 12) 40 yX10_write ∈ rr_W := rr_W_in (List.mem_of_getElem? (i := 555) (by decide +kernel)) rfl
theorem kl_10_200 : Jvm.Cond.methodLink (rr_on 10) 200 yX6_mayWrite ∈ rr_W := rr_W_in (List.mem_of_getElem? (i := 559) (by decide +kernel)) rfl
theorem kl_6_60 : Jvm.Cond.methodLink (rr_on 6) 60 yX8_isWet ∈ rr_W := rr_W_in (List.mem_of_getElem? (i := 563) (by decide +kernel)) rfl
theorem kl_6_64 : Jvm.Cond.methodLink (rr_on 6) 64 yX6_clauseIn ∈ rr_W := rr_W_in (List.mem_of_getElem? (i := 564) (by decide +kernel)) rfl
theorem kl_10_204 : Jvm.Cond.methodLink (rr_on 10) 204 yX3_add ∈ rr_W := rr_W_in (List.mem_of_getElem? (i := 566) (by decide +kernel)) rfl
theorem kl_3_21 : Jvm.Cond.methodLink (rr_on 3) 21 yX6_save ∈ rr_W := rr_W_in (List.mem_of_getElem? (i := 570) (by decide +kernel)) rfl
theorem kl_6_45 : Jvm.Cond.methodLink (rr_on 6) 45 arraycopyName ∈ rr_W := rr_W_in (List.mem_of_getElem? (i := 574) (by decide +kernel)) rfl
theorem kl_10_207 : Jvm.Cond.methodLink (rr_on 10) 207 yX6_begin ∈ rr_W := rr_W_in (List.mem_of_getElem? (i := 575) (by decide +kernel)) rfl
theorem kl_6_68 : Jvm.Cond.methodLink (rr_on 6) 68 yX8_hasClause ∈ rr_W := rr_W_in (List.mem_of_getElem? (i := 579) (by decide +kernel)) rfl
theorem kl_6_71 : Jvm.Cond.methodLink (rr_on 6) 71 yX8_hasCell ∈ rr_W := rr_W_in (List.mem_of_getElem? (i := 580) (by decide +kernel)) rfl
theorem kl_12_44 : Jvm.Cond.methodLink (rr_on 12) 44 yX10_rub ∈ rr_W := rr_W_in (List.mem_of_getElem? (i := 581) (by decide +kernel)) rfl
theorem kl_10_211 : Jvm.Cond.methodLink (rr_on 10) 211 yX6_isNowhere ∈ rr_W := rr_W_in (List.mem_of_getElem? (i := 585) (by decide +kernel)) rfl
theorem kl_10_214 : Jvm.Cond.methodLink (rr_on 10) 214 yX6_remove ∈ rr_W := rr_W_in (List.mem_of_getElem? (i := 586) (by decide +kernel)) rfl
theorem kl_12_48 : Jvm.Cond.methodLink (rr_on 12) 48 yX10_storm ∈ rr_W := rr_W_in (List.mem_of_getElem? (i := 587) (by decide +kernel)) rfl
theorem kl_10_218 : Jvm.Cond.methodLink (rr_on 10) 218 yX8_isTold ∈ rr_W := rr_W_in (List.mem_of_getElem? (i := 591) (by decide +kernel)) rfl
theorem kl_10_222 : Jvm.Cond.methodLink (rr_on 10) 222 yX6_removeAll ∈ rr_W := rr_W_in (List.mem_of_getElem? (i := 595) (by decide +kernel)) rfl
theorem kl_12_52 : Jvm.Cond.methodLink (rr_on 12) 52 yX10_hour ∈ rr_W := rr_W_in (List.mem_of_getElem? (i := 599) (by decide +kernel)) rfl
theorem kl_10_225 : Jvm.Cond.methodLink (rr_on 10) 225 yX10_refusalOfHours ∈ rr_W := rr_W_in (List.mem_of_getElem? (i := 603) (by decide +kernel)) rfl
theorem kl_10_228 : Jvm.Cond.methodLink (rr_on 10) 228 yX6_passHour ∈ rr_W := rr_W_in (List.mem_of_getElem? (i := 607) (by decide +kernel)) rfl
theorem kl_6_90 : Jvm.Cond.methodLink (rr_on 6) 90 yX6_age ∈ rr_W := rr_W_in (List.mem_of_getElem? (i := 611) (by decide +kernel)) rfl
theorem kl_6_86 : Jvm.Cond.methodLink (rr_on 6) 86 yX6_forceSet ∈ rr_W := rr_W_in (List.mem_of_getElem? (i := 615) (by decide +kernel)) rfl
theorem kl_6_93 : Jvm.Cond.methodLink (rr_on 6) 93 yX8_worthOf ∈ rr_W := rr_W_in (List.mem_of_getElem? (i := 616) (by decide +kernel)) rfl
theorem kl_12_56 : Jvm.Cond.methodLink (rr_on 12) 56 yX10_drift ∈ rr_W := rr_W_in (List.mem_of_getElem? (i := 620) (by decide +kernel)) rfl
theorem kl_10_231 : Jvm.Cond.methodLink (rr_on 10) 231 yX10_drawDeeds ∈ rr_W := rr_W_in (List.mem_of_getElem? (i := 624) (by decide +kernel)) rfl
theorem kl_10_238 : Jvm.Cond.methodLink (rr_on 10) 238 yX1_next ∈ rr_W := rr_W_in (List.mem_of_getElem? (i := 628) (by decide +kernel)) rfl
theorem kl_12_60 : Jvm.Cond.methodLink (rr_on 12) 60 yX10_undo ∈ rr_W := rr_W_in (List.mem_of_getElem? (i := 636) (by decide +kernel)) rfl
theorem kl_10_234 : Jvm.Cond.methodLink (rr_on 10) 234 yX3_restore ∈ rr_W := rr_W_in (List.mem_of_getElem? (i := 640) (by decide +kernel)) rfl
theorem kl_3_28 : Jvm.Cond.methodLink (rr_on 3) 28 yX6_load ∈ rr_W := rr_W_in (List.mem_of_getElem? (i := 644) (by decide +kernel)) rfl
theorem kl_12_64 : Jvm.Cond.methodLink (rr_on 12) 64 yX10_lasts ∈ rr_W := rr_W_in (List.mem_of_getElem? (i := 648) (by decide +kernel)) rfl
theorem kl_10_241 : Jvm.Cond.methodLink (rr_on 10) 241 yX6_copy ∈ rr_W := rr_W_in (List.mem_of_getElem? (i := 652) (by decide +kernel)) rfl
theorem kl_10_244 : Jvm.Cond.methodLink (rr_on 10) 244 yX6_freeStick ∈ rr_W := rr_W_in (List.mem_of_getElem? (i := 656) (by decide +kernel)) rfl
theorem kl_10_247 : Jvm.Cond.methodLink (rr_on 10) 247 yX6_isInForce ∈ rr_W := rr_W_in (List.mem_of_getElem? (i := 660) (by decide +kernel)) rfl
theorem kl_12_68 : Jvm.Cond.methodLink (rr_on 12) 68 yX10_washed ∈ rr_W := rr_W_in (List.mem_of_getElem? (i := 664) (by decide +kernel)) rfl
theorem kl_12_72 : Jvm.Cond.methodLink (rr_on 12) 72 yX10_plan ∈ rr_W := rr_W_in (List.mem_of_getElem? (i := 668) (by decide +kernel)) rfl
theorem kl_10_250 : Jvm.Cond.methodLink (rr_on 10) 250 yX8_hasSet ∈ rr_W := rr_W_in (List.mem_of_getElem? (i := 672) (by decide +kernel)) rfl
theorem kl_10_253 : Jvm.Cond.methodLink (rr_on 10) 253 yJ6_bitCount_0f7a4 ∈ rr_W := rr_W_in (List.mem_of_getElem? (i := 676) (by decide +kernel)) rfl
theorem kl_10_258 : Jvm.Cond.methodLink (rr_on 10) 258 yX4_search ∈ rr_W := rr_W_in (List.mem_of_getElem? (i := 682) (by decide +kernel)) rfl
theorem kl_4_26 : Jvm.Cond.methodLink (rr_on 4) 26 yJ6_bitCount_0f7a4 ∈ rr_W := rr_W_in (List.mem_of_getElem? (i := 686) (by decide +kernel)) rfl
theorem kl_4_32 : Jvm.Cond.methodLink (rr_on 4) 32 Jvm.Lib.Math.min.name ∈ rr_W := rr_W_in (List.mem_of_getElem? (i := 687) (by decide +kernel)) rfl
theorem kl_4_50 : Jvm.Cond.methodLink (rr_on 4) 50 yX8_isWhole ∈ rr_W := rr_W_in (List.mem_of_getElem? (i := 690) (by decide +kernel)) rfl
theorem kl_8_61 : Jvm.Cond.methodLink (rr_on 8) 61 yX8_hasClause ∈ rr_W := rr_W_in (List.mem_of_getElem? (i := 694) (by decide +kernel)) rfl
theorem kl_4_56 : Jvm.Cond.methodLink (rr_on 4) 56 yX4_place ∈ rr_W := rr_W_in (List.mem_of_getElem? (i := 695) (by decide +kernel)) rfl
theorem kl_4_60 : Jvm.Cond.methodLink (rr_on 4) 60 yX4_offer ∈ rr_W := rr_W_in (List.mem_of_getElem? (i := 698) (by decide +kernel)) rfl
theorem kl_4_87 : Jvm.Cond.methodLink (rr_on 4) 87 yX4_isBetter ∈ rr_W := rr_W_in (List.mem_of_getElem? (i := 702) (by decide +kernel)) rfl
theorem kl_4_90 : Jvm.Cond.methodLink (rr_on 4) 90 arraycopyName ∈ rr_W := rr_W_in (List.mem_of_getElem? (i := 706) (by decide +kernel)) rfl
theorem kl_4_67 : Jvm.Cond.methodLink (rr_on 4) 67 yX4_isPlaced ∈ rr_W := rr_W_in (List.mem_of_getElem? (i := 707) (by decide +kernel)) rfl
theorem kl_4_74 : Jvm.Cond.methodLink (rr_on 4) 74 yX4_isTaken ∈ rr_W := rr_W_in (List.mem_of_getElem? (i := 711) (by decide +kernel)) rfl
theorem kl_4_77 : Jvm.Cond.methodLink (rr_on 4) 77 yX8_firstHour ∈ rr_W := rr_W_in (List.mem_of_getElem? (i := 715) (by decide +kernel)) rfl
theorem kl_10_262 : Jvm.Cond.methodLink (rr_on 10) 262 yX4_soonest ∈ rr_W := rr_W_in (List.mem_of_getElem? (i := 719) (by decide +kernel)) rfl
theorem kl_10_265 : Jvm.Cond.methodLink (rr_on 10) 265 yX4_placed ∈ rr_W := rr_W_in (List.mem_of_getElem? (i := 723) (by decide +kernel)) rfl
theorem kl_12_77 : Jvm.Cond.methodLink (rr_on 12) 77 yX10_bargain ∈ rr_W := rr_W_in (List.mem_of_getElem? (i := 727) (by decide +kernel)) rfl
theorem kl_10_268 : Jvm.Cond.methodLink (rr_on 10) 268 yX9_settle ∈ rr_W := rr_W_in (List.mem_of_getElem? (i := 731) (by decide +kernel)) rfl
theorem kl_9_19 : Jvm.Cond.methodLink (rr_on 9) 19 yX9_choose ∈ rr_W := rr_W_in (List.mem_of_getElem? (i := 735) (by decide +kernel)) rfl
theorem kl_9_23 : Jvm.Cond.methodLink (rr_on 9) 23 yX8_worthOf ∈ rr_W := rr_W_in (List.mem_of_getElem? (i := 739) (by decide +kernel)) rfl
theorem kl_9_29 : Jvm.Cond.methodLink (rr_on 9) 29 yX8_hoursOf ∈ rr_W := rr_W_in (List.mem_of_getElem? (i := 740) (by decide +kernel)) rfl
theorem kl_10_272 : Jvm.Cond.methodLink (rr_on 10) 272 yX8_worthOf ∈ rr_W := rr_W_in (List.mem_of_getElem? (i := 744) (by decide +kernel)) rfl
theorem kl_12_82 : Jvm.Cond.methodLink (rr_on 12) 82 yX10_crossing ∈ rr_W := rr_W_in (List.mem_of_getElem? (i := 745) (by decide +kernel)) rfl
theorem kl_12_86 : Jvm.Cond.methodLink (rr_on 12) 86 yX10_leaners ∈ rr_W := rr_W_in (List.mem_of_getElem? (i := 749) (by decide +kernel)) rfl
theorem kl_10_276 : Jvm.Cond.methodLink (rr_on 10) 276 yX8_leanersOf ∈ rr_W := rr_W_in (List.mem_of_getElem? (i := 753) (by decide +kernel)) rfl
theorem kl_12_90 : Jvm.Cond.methodLink (rr_on 12) 90 yX10_storms ∈ rr_W := rr_W_in (List.mem_of_getElem? (i := 757) (by decide +kernel)) rfl
theorem kl_12_94 : Jvm.Cond.methodLink (rr_on 12) 94 yX10_see ∈ rr_W := rr_W_in (List.mem_of_getElem? (i := 763) (by decide +kernel)) rfl
theorem kl_10_283 : Jvm.Cond.methodLink (rr_on 10) 283 yX7_add ∈ rr_W := rr_W_in (List.mem_of_getElem? (i := 767) (by decide +kernel)) rfl
theorem kl_12_99 : Jvm.Cond.methodLink (rr_on 12) 99 yX10_agreed ∈ rr_W := rr_W_in (List.mem_of_getElem? (i := 771) (by decide +kernel)) rfl
theorem kl_10_286 : Jvm.Cond.methodLink (rr_on 10) 286 yX7_begins ∈ rr_W := rr_W_in (List.mem_of_getElem? (i := 775) (by decide +kernel)) rfl
theorem kl_7_37 : Jvm.Cond.methodLink (rr_on 7) 37 yX8_isTold ∈ rr_W := rr_W_in (List.mem_of_getElem? (i := 779) (by decide +kernel)) rfl
theorem kl_7_43 : Jvm.Cond.methodLink (rr_on 7) 43 yX7_fits ∈ rr_W := rr_W_in (List.mem_of_getElem? (i := 780) (by decide +kernel)) rfl
theorem kl_7_47 : Jvm.Cond.methodLink (rr_on 7) 47 yX7_latestHour ∈ rr_W := rr_W_in (List.mem_of_getElem? (i := 784) (by decide +kernel)) rfl
theorem kl_7_67 : Jvm.Cond.methodLink (rr_on 7) 67 Jvm.Lib.Math.max.name ∈ rr_W := rr_W_in (List.mem_of_getElem? (i := 788) (by decide +kernel)) rfl
theorem kl_7_51 : Jvm.Cond.methodLink (rr_on 7) 51 yX6_layAll ∈ rr_W := rr_W_in (List.mem_of_getElem? (i := 791) (by decide +kernel)) rfl
theorem kl_7_57 : Jvm.Cond.methodLink (rr_on 7) 57 yX6_forceSet ∈ rr_W := rr_W_in (List.mem_of_getElem? (i := 795) (by decide +kernel)) rfl
theorem kl_7_60 : Jvm.Cond.methodLink (rr_on 7) 60 yX7_fitsBehind ∈ rr_W := rr_W_in (List.mem_of_getElem? (i := 796) (by decide +kernel)) rfl
theorem kl_7_64 : Jvm.Cond.methodLink (rr_on 7) 64 yX6_passHour ∈ rr_W := rr_W_in (List.mem_of_getElem? (i := 800) (by decide +kernel)) rfl
theorem kl_10_289 : Jvm.Cond.methodLink (rr_on 10) 289 yJ6_numberOfTrailingZeros_0f7a4 ∈ rr_W := rr_W_in (List.mem_of_getElem? (i := 801) (by decide +kernel)) rfl
theorem kl_12_103 : Jvm.Cond.methodLink (rr_on 12) 103 yX10_lookAt ∈ rr_W := rr_W_in (List.mem_of_getElem? (i := 805) (by decide +kernel)) rfl
theorem kl_10_292 : Jvm.Cond.methodLink (rr_on 10) 292 yX7_countInForce ∈ rr_W := rr_W_in (List.mem_of_getElem? (i := 809) (by decide +kernel)) rfl
theorem kl_7_73 : Jvm.Cond.methodLink (rr_on 7) 73 yX7_forceBehind ∈ rr_W := rr_W_in (List.mem_of_getElem? (i := 813) (by decide +kernel)) rfl
theorem kl_7_76 : Jvm.Cond.methodLink (rr_on 7) 76 yX7_addForce ∈ rr_W := rr_W_in (List.mem_of_getElem? (i := 817) (by decide +kernel)) rfl
theorem kl_10_295 : Jvm.Cond.methodLink (rr_on 10) 295 yX7_bestToAsk ∈ rr_W := rr_W_in (List.mem_of_getElem? (i := 821) (by decide +kernel)) rfl
theorem kl_12_107 : Jvm.Cond.methodLink (rr_on 12) 107 yX10_note ∈ rr_W := rr_W_in (List.mem_of_getElem? (i := 825) (by decide +kernel)) rfl
theorem kl_10_298 : Jvm.Cond.methodLink (rr_on 10) 298 yX0_add ∈ rr_W := rr_W_in (List.mem_of_getElem? (i := 829) (by decide +kernel)) rfl
theorem kl_12_111 : Jvm.Cond.methodLink (rr_on 12) 111 yX10_judge ∈ rr_W := rr_W_in (List.mem_of_getElem? (i := 833) (by decide +kernel)) rfl
theorem kl_10_300 : Jvm.Cond.methodLink (rr_on 10) 300 yX0_firstWrong ∈ rr_W := rr_W_in (List.mem_of_getElem? (i := 837) (by decide +kernel)) rfl
theorem kl_12_115 : Jvm.Cond.methodLink (rr_on 12) 115 yX10_tear ∈ rr_W := rr_W_in (List.mem_of_getElem? (i := 841) (by decide +kernel)) rfl
theorem kl_12_119 : Jvm.Cond.methodLink (rr_on 12) 119 yX10_seed ∈ rr_W := rr_W_in (List.mem_of_getElem? (i := 845) (by decide +kernel)) rfl
theorem kl_12_123 : Jvm.Cond.methodLink (rr_on 12) 123 yX10_keep ∈ rr_W := rr_W_in (List.mem_of_getElem? (i := 849) (by decide +kernel)) rfl
theorem kl_10_307 : Jvm.Cond.methodLink (rr_on 10) 307 yX2_take ∈ rr_W := rr_W_in (List.mem_of_getElem? (i := 853) (by decide +kernel)) rfl
theorem kl_2_24 : Jvm.Cond.methodLink (rr_on 2) 24 yX6_save ∈ rr_W := rr_W_in (List.mem_of_getElem? (i := 857) (by decide +kernel)) rfl
theorem kl_12_127 : Jvm.Cond.methodLink (rr_on 12) 127 yX10_goBack ∈ rr_W := rr_W_in (List.mem_of_getElem? (i := 858) (by decide +kernel)) rfl
theorem kl_10_311 : Jvm.Cond.methodLink (rr_on 10) 311 yX2_has ∈ rr_W := rr_W_in (List.mem_of_getElem? (i := 862) (by decide +kernel)) rfl
theorem kl_10_314 : Jvm.Cond.methodLink (rr_on 10) 314 yX2_restore ∈ rr_W := rr_W_in (List.mem_of_getElem? (i := 866) (by decide +kernel)) rfl
theorem kl_2_34 : Jvm.Cond.methodLink (rr_on 2) 34 yX2_has ∈ rr_W := rr_W_in (List.mem_of_getElem? (i := 870) (by decide +kernel)) rfl
theorem kl_2_38 : Jvm.Cond.methodLink (rr_on 2) 38 yX6_load ∈ rr_W := rr_W_in (List.mem_of_getElem? (i := 871) (by decide +kernel)) rfl
theorem kl_12_12 : Jvm.Cond.methodLink (rr_on 12) 12 yX11_init ∈ rr_W := rr_W_in (List.mem_of_getElem? (i := 874) (by decide +kernel)) rfl
theorem kl_11_1 : Jvm.Cond.methodLink (rr_on 11) 1 objectInit ∈ rr_W := rr_W_in (List.mem_of_getElem? (i := 877) (by decide +kernel)) rfl
theorem kl_12_17 : Jvm.Cond.methodLink (rr_on 12) 17 yX11_feed ∈ rr_W := rr_W_in (List.mem_of_getElem? (i := 969) (by decide +kernel)) rfl
theorem kl_11_78 : Jvm.Cond.methodLink (rr_on 11) 78 yX11_in ∈ rr_W := rr_W_in (List.mem_of_getElem? (i := 973) (by decide +kernel)) rfl
theorem kl_12_22 : Jvm.Cond.methodLink (rr_on 12) 22 yX11_strand ∈ rr_W := rr_W_in (List.mem_of_getElem? (i := 978) (by decide +kernel)) rfl
theorem kl_11_97 : Jvm.Cond.methodLink (rr_on 11) 97 yX11_skips ∈ rr_W := rr_W_in (List.mem_of_getElem? (i := 982) (by decide +kernel)) rfl
theorem kl_11_93 : Jvm.Cond.methodLink (rr_on 11) 93 yX11_look ∈ rr_W := rr_W_in (List.mem_of_getElem? (i := 986) (by decide +kernel)) rfl
theorem kl_11_131 : Jvm.Cond.methodLink (rr_on 11) 131 yX11_reads ∈ rr_W := rr_W_in (List.mem_of_getElem? (i := 990) (by decide +kernel)) rfl
theorem kl_11_119 : Jvm.Cond.methodLink (rr_on 11) 119 yX11_readsTides ∈ rr_W := rr_W_in (List.mem_of_getElem? (i := 994) (by decide +kernel)) rfl
theorem kl_11_104 : Jvm.Cond.methodLink (rr_on 11) 104 yX11_opens ∈ rr_W := rr_W_in (List.mem_of_getElem? (i := 998) (by decide +kernel)) rfl
theorem kl_11_100 : Jvm.Cond.methodLink (rr_on 11) 100 yX11_fails ∈ rr_W := rr_W_in (List.mem_of_getElem? (i := 1002) (by decide +kernel)) rfl
theorem kl_11_108 : Jvm.Cond.methodLink (rr_on 11) 108 yX11_number ∈ rr_W := rr_W_in (List.mem_of_getElem? (i := 1006) (by decide +kernel)) rfl
theorem kl_11_112 : Jvm.Cond.methodLink (rr_on 11) 112 yX11_word ∈ rr_W := rr_W_in (List.mem_of_getElem? (i := 1010) (by decide +kernel)) rfl
theorem kl_11_122 : Jvm.Cond.methodLink (rr_on 11) 122 yX11_readsWind ∈ rr_W := rr_W_in (List.mem_of_getElem? (i := 1014) (by decide +kernel)) rfl
theorem kl_11_125 : Jvm.Cond.methodLink (rr_on 11) 125 yX11_readsCell ∈ rr_W := rr_W_in (List.mem_of_getElem? (i := 1018) (by decide +kernel)) rfl
theorem kl_11_128 : Jvm.Cond.methodLink (rr_on 11) 128 yX11_readsClause ∈ rr_W := rr_W_in (List.mem_of_getElem? (i := 1022) (by decide +kernel)) rfl
theorem kl_11_134 : Jvm.Cond.methodLink (rr_on 11) 134 yX11_copies ∈ rr_W := rr_W_in (List.mem_of_getElem? (i := 1026) (by decide +kernel)) rfl
theorem kl_12_26 : Jvm.Cond.methodLink (rr_on 12) 26 yX11_fault ∈ rr_W := rr_W_in (List.mem_of_getElem? (i := 1029) (by decide +kernel)) rfl
theorem kl_12_30 : Jvm.Cond.methodLink (rr_on 12) 30 yX11_told ∈ rr_W := rr_W_in (List.mem_of_getElem? (i := 1033) (by decide +kernel)) rfl
theorem kl_11_162 : Jvm.Cond.methodLink (rr_on 11) 162 yX11_isStrand ∈ rr_W := rr_W_in (List.mem_of_getElem? (i := 1037) (by decide +kernel)) rfl
theorem kl_11_147 : Jvm.Cond.methodLink (rr_on 11) 147 yX11_tideAt ∈ rr_W := rr_W_in (List.mem_of_getElem? (i := 1041) (by decide +kernel)) rfl
theorem kl_11_166 : Jvm.Cond.methodLink (rr_on 11) 166 yX11_wetAt ∈ rr_W := rr_W_in (List.mem_of_getElem? (i := 1045) (by decide +kernel)) rfl
theorem kl_11_151 : Jvm.Cond.methodLink (rr_on 11) 151 yX11_isWet ∈ rr_W := rr_W_in (List.mem_of_getElem? (i := 1049) (by decide +kernel)) rfl
theorem kl_11_169 : Jvm.Cond.methodLink (rr_on 11) 169 yX11_force ∈ rr_W := rr_W_in (List.mem_of_getElem? (i := 1053) (by decide +kernel)) rfl
theorem kl_11_155 : Jvm.Cond.methodLink (rr_on 11) 155 yX11_isDone ∈ rr_W := rr_W_in (List.mem_of_getElem? (i := 1057) (by decide +kernel)) rfl
theorem kl_11_159 : Jvm.Cond.methodLink (rr_on 11) 159 yX11_has ∈ rr_W := rr_W_in (List.mem_of_getElem? (i := 1061) (by decide +kernel)) rfl
theorem kl_12_35 : Jvm.Cond.methodLink (rr_on 12) 35 yX11_clause ∈ rr_W := rr_W_in (List.mem_of_getElem? (i := 1065) (by decide +kernel)) rfl
theorem kl_11_174 : Jvm.Cond.methodLink (rr_on 11) 174 yX11_isClause ∈ rr_W := rr_W_in (List.mem_of_getElem? (i := 1069) (by decide +kernel)) rfl
theorem kl_12_39 : Jvm.Cond.methodLink (rr_on 12) 39 yX11_cell ∈ rr_W := rr_W_in (List.mem_of_getElem? (i := 1074) (by decide +kernel)) rfl
theorem kl_11_179 : Jvm.Cond.methodLink (rr_on 11) 179 yX11_isCell ∈ rr_W := rr_W_in (List.mem_of_getElem? (i := 1078) (by decide +kernel)) rfl
theorem kl_11_182 : Jvm.Cond.methodLink (rr_on 11) 182 yX11_clauseIn ∈ rr_W := rr_W_in (List.mem_of_getElem? (i := 1082) (by decide +kernel)) rfl
theorem kl_12_43 : Jvm.Cond.methodLink (rr_on 12) 43 yX11_write ∈ rr_W := rr_W_in (List.mem_of_getElem? (i := 1085) (by decide +kernel)) rfl
theorem kl_11_186 : Jvm.Cond.methodLink (rr_on 11) 186 yX11_mayBe ∈ rr_W := rr_W_in (List.mem_of_getElem? (i := 1089) (by decide +kernel)) rfl
theorem kl_11_191 : Jvm.Cond.methodLink (rr_on 11) 191 yX11_notes ∈ rr_W := rr_W_in (List.mem_of_getElem? (i := 1094) (by decide +kernel)) rfl
theorem kl_11_194 : Jvm.Cond.methodLink (rr_on 11) 194 yX11_writes ∈ rr_W := rr_W_in (List.mem_of_getElem? (i := 1098) (by decide +kernel)) rfl
theorem kl_12_47 : Jvm.Cond.methodLink (rr_on 12) 47 yX11_rub ∈ rr_W := rr_W_in (List.mem_of_getElem? (i := 1101) (by decide +kernel)) rfl
theorem kl_11_198 : Jvm.Cond.methodLink (rr_on 11) 198 yX11_goes ∈ rr_W := rr_W_in (List.mem_of_getElem? (i := 1105) (by decide +kernel)) rfl
theorem kl_12_51 : Jvm.Cond.methodLink (rr_on 12) 51 yX11_storm ∈ rr_W := rr_W_in (List.mem_of_getElem? (i := 1108) (by decide +kernel)) rfl
theorem kl_11_202 : Jvm.Cond.methodLink (rr_on 11) 202 yX11_sweeps ∈ rr_W := rr_W_in (List.mem_of_getElem? (i := 1112) (by decide +kernel)) rfl
theorem kl_12_55 : Jvm.Cond.methodLink (rr_on 12) 55 yX11_hour ∈ rr_W := rr_W_in (List.mem_of_getElem? (i := 1115) (by decide +kernel)) rfl
theorem kl_11_208 : Jvm.Cond.methodLink (rr_on 11) 208 yX11_barred ∈ rr_W := rr_W_in (List.mem_of_getElem? (i := 1119) (by decide +kernel)) rfl
theorem kl_11_211 : Jvm.Cond.methodLink (rr_on 11) 211 yX11_passes ∈ rr_W := rr_W_in (List.mem_of_getElem? (i := 1123) (by decide +kernel)) rfl
theorem kl_11_205 : Jvm.Cond.methodLink (rr_on 11) 205 yX11_worth ∈ rr_W := rr_W_in (List.mem_of_getElem? (i := 1127) (by decide +kernel)) rfl
theorem kl_12_59 : Jvm.Cond.methodLink (rr_on 12) 59 yX11_drift ∈ rr_W := rr_W_in (List.mem_of_getElem? (i := 1131) (by decide +kernel)) rfl
theorem kl_11_225 : Jvm.Cond.methodLink (rr_on 11) 225 yX11_draw ∈ rr_W := rr_W_in (List.mem_of_getElem? (i := 1135) (by decide +kernel)) rfl
theorem kl_12_63 : Jvm.Cond.methodLink (rr_on 12) 63 yX11_undo ∈ rr_W := rr_W_in (List.mem_of_getElem? (i := 1143) (by decide +kernel)) rfl
theorem kl_12_67 : Jvm.Cond.methodLink (rr_on 12) 67 yX11_lasts ∈ rr_W := rr_W_in (List.mem_of_getElem? (i := 1147) (by decide +kernel)) rfl
theorem kl_11_228 : Jvm.Cond.methodLink (rr_on 11) 228 yX11_tries ∈ rr_W := rr_W_in (List.mem_of_getElem? (i := 1151) (by decide +kernel)) rfl
theorem kl_12_71 : Jvm.Cond.methodLink (rr_on 12) 71 yX11_washed ∈ rr_W := rr_W_in (List.mem_of_getElem? (i := 1155) (by decide +kernel)) rfl
theorem kl_12_76 : Jvm.Cond.methodLink (rr_on 12) 76 yX11_plan ∈ rr_W := rr_W_in (List.mem_of_getElem? (i := 1159) (by decide +kernel)) rfl
theorem kl_11_231 : Jvm.Cond.methodLink (rr_on 11) 231 yX11_areClauses ∈ rr_W := rr_W_in (List.mem_of_getElem? (i := 1163) (by decide +kernel)) rfl
theorem kl_11_234 : Jvm.Cond.methodLink (rr_on 11) 234 yX11_ones ∈ rr_W := rr_W_in (List.mem_of_getElem? (i := 1167) (by decide +kernel)) rfl
theorem kl_11_237 : Jvm.Cond.methodLink (rr_on 11) 237 yX11_planned ∈ rr_W := rr_W_in (List.mem_of_getElem? (i := 1170) (by decide +kernel)) rfl
theorem kl_11_241 : Jvm.Cond.methodLink (rr_on 11) 241 yX11_nextPlan ∈ rr_W := rr_W_in (List.mem_of_getElem? (i := 1174) (by decide +kernel)) rfl
theorem kl_12_81 : Jvm.Cond.methodLink (rr_on 12) 81 yX11_bargain ∈ rr_W := rr_W_in (List.mem_of_getElem? (i := 1178) (by decide +kernel)) rfl
theorem kl_11_244 : Jvm.Cond.methodLink (rr_on 11) 244 yX11_hoursOf ∈ rr_W := rr_W_in (List.mem_of_getElem? (i := 1182) (by decide +kernel)) rfl
theorem kl_12_85 : Jvm.Cond.methodLink (rr_on 12) 85 yX11_crossing ∈ rr_W := rr_W_in (List.mem_of_getElem? (i := 1186) (by decide +kernel)) rfl
theorem kl_12_89 : Jvm.Cond.methodLink (rr_on 12) 89 yX11_leaners ∈ rr_W := rr_W_in (List.mem_of_getElem? (i := 1190) (by decide +kernel)) rfl
theorem kl_12_93 : Jvm.Cond.methodLink (rr_on 12) 93 yX11_storms ∈ rr_W := rr_W_in (List.mem_of_getElem? (i := 1194) (by decide +kernel)) rfl
theorem kl_12_98 : Jvm.Cond.methodLink (rr_on 12) 98 yX11_see ∈ rr_W := rr_W_in (List.mem_of_getElem? (i := 1200) (by decide +kernel)) rfl
theorem kl_12_102 : Jvm.Cond.methodLink (rr_on 12) 102 yX11_agreed ∈ rr_W := rr_W_in (List.mem_of_getElem? (i := 1204) (by decide +kernel)) rfl
theorem kl_11_257 : Jvm.Cond.methodLink (rr_on 11) 257 yX11_begins ∈ rr_W := rr_W_in (List.mem_of_getElem? (i := 1208) (by decide +kernel)) rfl
theorem kl_11_254 : Jvm.Cond.methodLink (rr_on 11) 254 yX11_isSo ∈ rr_W := rr_W_in (List.mem_of_getElem? (i := 1212) (by decide +kernel)) rfl
theorem kl_11_251 : Jvm.Cond.methodLink (rr_on 11) 251 yX11_forceBy ∈ rr_W := rr_W_in (List.mem_of_getElem? (i := 1216) (by decide +kernel)) rfl
theorem kl_11_260 : Jvm.Cond.methodLink (rr_on 11) 260 yX11_many ∈ rr_W := rr_W_in (List.mem_of_getElem? (i := 1220) (by decide +kernel)) rfl
theorem kl_12_106 : Jvm.Cond.methodLink (rr_on 12) 106 yX11_lookAt ∈ rr_W := rr_W_in (List.mem_of_getElem? (i := 1223) (by decide +kernel)) rfl
theorem kl_12_110 : Jvm.Cond.methodLink (rr_on 12) 110 yX11_note ∈ rr_W := rr_W_in (List.mem_of_getElem? (i := 1227) (by decide +kernel)) rfl
theorem kl_12_114 : Jvm.Cond.methodLink (rr_on 12) 114 yX11_judge ∈ rr_W := rr_W_in (List.mem_of_getElem? (i := 1231) (by decide +kernel)) rfl
theorem kl_12_118 : Jvm.Cond.methodLink (rr_on 12) 118 yX11_tear ∈ rr_W := rr_W_in (List.mem_of_getElem? (i := 1235) (by decide +kernel)) rfl
theorem kl_12_122 : Jvm.Cond.methodLink (rr_on 12) 122 yX11_seed ∈ rr_W := rr_W_in (List.mem_of_getElem? (i := 1239) (by decide +kernel)) rfl
theorem kl_12_126 : Jvm.Cond.methodLink (rr_on 12) 126 yX11_keep ∈ rr_W := rr_W_in (List.mem_of_getElem? (i := 1243) (by decide +kernel)) rfl
theorem kl_12_130 : Jvm.Cond.methodLink (rr_on 12) 130 yX11_goBack ∈ rr_W := rr_W_in (List.mem_of_getElem? (i := 1247) (by decide +kernel)) rfl
