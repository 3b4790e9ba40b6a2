/-! the law's loop, and its start -/
theorem dl_0 : decode code 0 = .ok (.new 7, 3) := by decide +kernel
theorem dl_3 : decode code 3 = .ok (.dup, 1) := by decide +kernel
theorem dl_4 : decode code 4 = .ok (.invokespecial 9, 3) := by decide +kernel
theorem dl_7 : decode code 7 = .ok (.astore_n 1, 1) := by decide +kernel
theorem dl_8 : decode code 8 = .ok (.new 10, 3) := by decide +kernel
theorem dl_11 : decode code 11 = .ok (.dup, 1) := by decide +kernel
theorem dl_12 : decode code 12 = .ok (.invokespecial 12, 3) := by decide +kernel
theorem dl_15 : decode code 15 = .ok (.astore_n 2, 1) := by decide +kernel
theorem dl_16 : decode code 16 = .ok (.iconst 0, 1) := by decide +kernel
theorem dl_17 : decode code 17 = .ok (.istore_n 3, 1) := by decide +kernel
theorem dl_18 : decode code 18 = .ok (.iload_n 3, 1) := by decide +kernel
theorem dl_19 : decode code 19 = .ok (.aload_n 0, 1) := by decide +kernel
theorem dl_20 : decode code 20 = .ok (.arraylength, 1) := by decide +kernel
theorem dl_21 : decode code 21 = .ok (.iconst 5, 1) := by decide +kernel
theorem dl_22 : decode code 22 = .ok (.isub, 1) := by decide +kernel
theorem dl_23 : decode code 23 = .ok (.if_icmp .gt 883, 3) := by decide +kernel
theorem dl_26 : decode code 26 = .ok (.aload_n 0, 1) := by decide +kernel
theorem dl_27 : decode code 27 = .ok (.iload_n 3, 1) := by decide +kernel
theorem dl_28 : decode code 28 = .ok (.iaload, 1) := by decide +kernel
theorem dl_29 : decode code 29 = .ok (.bipush 31, 2) := by decide +kernel
theorem dl_31 : decode code 31 = .ok (.iand, 1) := by decide +kernel
theorem dl_32 : decode code 32 = .ok (.tableswitch 868 0 27 #[128, 151, 164, 177, 200, 233, 266, 299, 322, 335, 358, 381, 404, 437, 460, 503, 556, 579, 602, 635, 694, 717, 740, 773, 786, 799, 822, 845], 128) := by decide +kernel
theorem dl_900 : decode code 900 = .ok (.iinc 3 5, 3) := by decide +kernel
theorem dl_903 : decode code 903 = .ok (.goto (-885), 3) := by decide +kernel
theorem dl_906 : decode code 906 = .ok (.iconst 1, 1) := by decide +kernel
theorem dl_907 : decode code 907 = .ok (.ireturn, 1) := by decide +kernel
theorem lz_s5 : ∀ L, L < 321 → (Int32.ofNat L - 5).toInt = (L : Int) - 5 := by decide +kernel
theorem lz_a31 (v : Int32) : ∃ j : Nat, j < 32 ∧ v &&& 31 = nI j := by
  refine ⟨v.toBitVec.toNat % 32, Nat.mod_lt _ (by decide), ?_⟩
  rw [← Int32.toBitVec_inj, Int32.toBitVec_and]
  apply BitVec.eq_of_toNat_eq
  rw [BitVec.toNat_and]
  show v.toBitVec.toNat &&& 31 = (BitVec.ofNat 32 (v.toBitVec.toNat % 32)).toNat
  rw [BitVec.toNat_ofNat, show (31 : Nat) = 2 ^ 5 - 1 from rfl, Nat.and_two_pow_sub_one_eq_mod]
  have h := Nat.mod_lt v.toBitVec.toNat (show 0 < 32 by decide)
  rw [show (2 : Nat) ^ 5 = 32 from rfl, Nat.mod_eq_of_lt (Nat.lt_of_lt_of_le h (by decide))]
section LP
variable {p : Program} {l : Launch} {e : Env} {s : State} {m : MethodId} {below : List Frame} {meth : Method} {c : Code} {b L : Nat} {xs : Nat → Int32} {D : va_G} {cI cZ : ClassId} {r1 r2 : Nat → Nat} {ls : Array Slot} {i cells slots : Nat} {Q : State → Prop} {w1 w2 : rr_A}
/-- the loop's head -/
theorem lz_head (C0 : lw_At p s m meth c b L xs) (hL : L ≤ 320) (hz : cells ≤ 600000 ∧ slots ≤ 7302250) (hi : i ≤ 325) (hls : lv_has ls 4 [(0, .ref b), (1, .ref (r1 0)), (2, .ref (r2 0)), (3, .int (nI i))]) (k : i + 5 ≤ L → lz_J p l e s m below meth c b D cI cZ r1 r2 ls cells slots (lw_Z below #[Value.ref b] s) 26 [] w1 w2) : lz_J p l e s m below meth c b D cI cZ r1 r2 ls cells slots (lw_Z below #[Value.ref b] s) 18 [] w1 w2 := by
  obtain ⟨hx, hb, hr, hml, hown, hts, hX, hbl, hlocks, hgv⟩ := C0
  intro H locs hI
  have hS := hI.2.2.2.2.2
  refine lv_iload_n hx hb dl_18 rfl (lv_at hls 3 rfl) ?_
  refine lv_aload_n hx hb dl_19 rfl (lv_at hls 0 rfl) ?_
  refine va_slen hx hb hX hbl (Nat.not_le.mpr hbl) hS dl_20 ?_
  refine lv_iconst (v := 5) hx hb dl_21 rfl ?_
  refine lv_isub hx hb dl_22 ?_
  have e := lz_s5 L (by omega)
  have e2 : (nI i).toInt = (i : Int) := nI_toInt (by omega)
  refine lv_icmp_gt hx hb dl_23 (tgt := 906) (by decide) (fun h => ?_) (fun h => ?_)
  · refine lv_iconst (v := 1) hx hb dl_906 rfl ?_
    refine va_forget (fun q hq => hS.2.2 q hq) ?_
    refine W.widen hz.1 hz.2 ?_
    exact lw_ret hx hb hr hlocks dl_907
  · refine k ?_ H locs hI
    rw [Int32.lt_iff_toInt_lt, e, e2] at h
    omega
/-- the loop's foot -/
theorem lz_foot (C0 : lw_At p s m meth c b L xs) (hls : lv_has ls 4 [(0, .ref b), (1, .ref (r1 0)), (2, .ref (r2 0)), (3, .int (nI i))]) (k : ∀ ls' : Array Slot, lv_has ls' 4 [(0, .ref b), (1, .ref (r1 0)), (2, .ref (r2 0)), (3, .int (nI (i + 5)))] → lz_J p l e s m below meth c b D cI cZ r1 r2 ls' cells slots Q 18 [] w1 w2) : lz_J p l e s m below meth c b D cI cZ r1 r2 ls cells slots Q 900 [] w1 w2 := by
  obtain ⟨hx, hb, hr, hml, hown, hts, hX, hbl, hlocks, hgv⟩ := C0
  intro H locs hI
  refine lv_iinc (k := 3) (v := nI (i + 5)) (lv' := [(3, .int (nI (i + 5))), (0, .ref b), (1, .ref (r1 0)), (2, .ref (r2 0))]) hx hb dl_900 hls rfl (nI_add i 5) (by decide) rfl (fun ls' hl' => ?_)
  refine lv_goto hx hb dl_903 (tgt := 18) (by decide) ?_
  exact k ls' (lv_sub hl' [1, 2, 3, 0] rfl) H locs hI
theorem lz_32 {j : Nat} (h : j < 32) : j = 0 ∨ j = 1 ∨ j = 2 ∨ j = 3 ∨ j = 4 ∨ j = 5 ∨ j = 6 ∨ j = 7 ∨ j = 8 ∨ j = 9 ∨ j = 10 ∨ j = 11 ∨ j = 12 ∨ j = 13 ∨ j = 14 ∨ j = 15 ∨ j = 16 ∨ j = 17 ∨ j = 18 ∨ j = 19 ∨ j = 20 ∨ j = 21 ∨ j = 22 ∨ j = 23 ∨ j = 24 ∨ j = 25 ∨ j = 26 ∨ j = 27 ∨ j = 28 ∨ j = 29 ∨ j = 30 ∨ j = 31 := by omega
/-- one call of the law -/
theorem lz_one (hE : lz_E p s m c b L xs D cI cZ r1 r2 ls i cells slots) (hz : z_R w1 w2) (k : ∀ w1' w2', z_R w1' w2' → lz_J p l e s m below meth c b D cI cZ r1 r2 ls cells slots Q 900 [] w1' w2') : lz_J p l e s m below meth c b D cI cZ r1 r2 ls cells slots Q 26 [] w1 w2 := by
  obtain ⟨hx, hb, hml, hown, hts, hX, hbl, hL, hK, hN, hls, hi, hz1, hz2⟩ := id hE
  intro H locs hI
  refine lv_aload_n hx hb dl_26 rfl (lv_at hls 0 rfl) ?_
  refine lv_iload_n hx hb dl_27 rfl (lv_at hls 3 rfl) ?_
  have hin : vp_in (nI i) L := by
    rw [vp_in_iff, nI_toInt (by omega)]
    omega
  refine va_sld hx hb hX hbl (Nat.not_le.mpr hbl) hI.2.2.2.2.2 hin dl_28 ?_
  refine lv_bipush (v := 31) hx hb dl_29 (by decide) ?_
  refine lv_iand hx hb dl_31 ?_
  obtain ⟨j, hj, ej⟩ := lz_a31 (xs (nI i).toNatClampNeg)
  rw [ej]
  rcases lz_32 hj with rfl | rfl | rfl | rfl | rfl | rfl | rfl | rfl | rfl | rfl | rfl | rfl | rfl | rfl | rfl | rfl | rfl | rfl | rfl | rfl | rfl | rfl | rfl | rfl | rfl | rfl | rfl | rfl | rfl | rfl | rfl | rfl
  · exact lv_tableIn hx hb dl_32 (by decide) (by decide) (off := 128) (by decide +kernel) (tgt := 160) (by decide) (lz_c0 hE hz k H locs hI)
  · exact lv_tableIn hx hb dl_32 (by decide) (by decide) (off := 151) (by decide +kernel) (tgt := 183) (by decide) (lz_c1 hE hz k H locs hI)
  · exact lv_tableIn hx hb dl_32 (by decide) (by decide) (off := 164) (by decide +kernel) (tgt := 196) (by decide) (lz_c2 hE hz k H locs hI)
  · exact lv_tableIn hx hb dl_32 (by decide) (by decide) (off := 177) (by decide +kernel) (tgt := 209) (by decide) (lz_c3 hE hz k H locs hI)
  · exact lv_tableIn hx hb dl_32 (by decide) (by decide) (off := 200) (by decide +kernel) (tgt := 232) (by decide) (lz_c4 hE hz k H locs hI)
  · exact lv_tableIn hx hb dl_32 (by decide) (by decide) (off := 233) (by decide +kernel) (tgt := 265) (by decide) (lz_c5 hE hz k H locs hI)
  · exact lv_tableIn hx hb dl_32 (by decide) (by decide) (off := 266) (by decide +kernel) (tgt := 298) (by decide) (lz_c6 hE hz k H locs hI)
  · exact lv_tableIn hx hb dl_32 (by decide) (by decide) (off := 299) (by decide +kernel) (tgt := 331) (by decide) (lz_c7 hE hz k H locs hI)
  · exact lv_tableIn hx hb dl_32 (by decide) (by decide) (off := 322) (by decide +kernel) (tgt := 354) (by decide) (lz_c8 hE hz k H locs hI)
  · exact lv_tableIn hx hb dl_32 (by decide) (by decide) (off := 335) (by decide +kernel) (tgt := 367) (by decide) (lz_c9 hE hz k H locs hI)
  · exact lv_tableIn hx hb dl_32 (by decide) (by decide) (off := 358) (by decide +kernel) (tgt := 390) (by decide) (lz_c10 hE hz k H locs hI)
  · exact lv_tableIn hx hb dl_32 (by decide) (by decide) (off := 381) (by decide +kernel) (tgt := 413) (by decide) (lz_c11 hE hz k H locs hI)
  · exact lv_tableIn hx hb dl_32 (by decide) (by decide) (off := 404) (by decide +kernel) (tgt := 436) (by decide) (lz_c12 hE hz k H locs hI)
  · exact lv_tableIn hx hb dl_32 (by decide) (by decide) (off := 437) (by decide +kernel) (tgt := 469) (by decide) (lz_c13 hE hz k H locs hI)
  · exact lv_tableIn hx hb dl_32 (by decide) (by decide) (off := 460) (by decide +kernel) (tgt := 492) (by decide) (lz_c14 hE hz k H locs hI)
  · exact lv_tableIn hx hb dl_32 (by decide) (by decide) (off := 503) (by decide +kernel) (tgt := 535) (by decide) (lz_c15 hE hz k H locs hI)
  · exact lv_tableIn hx hb dl_32 (by decide) (by decide) (off := 556) (by decide +kernel) (tgt := 588) (by decide) (lz_c16 hE hz k H locs hI)
  · exact lv_tableIn hx hb dl_32 (by decide) (by decide) (off := 579) (by decide +kernel) (tgt := 611) (by decide) (lz_c17 hE hz k H locs hI)
  · exact lv_tableIn hx hb dl_32 (by decide) (by decide) (off := 602) (by decide +kernel) (tgt := 634) (by decide) (lz_c18 hE hz k H locs hI)
  · exact lv_tableIn hx hb dl_32 (by decide) (by decide) (off := 635) (by decide +kernel) (tgt := 667) (by decide) (lz_c19 hE hz k H locs hI)
  · exact lv_tableIn hx hb dl_32 (by decide) (by decide) (off := 694) (by decide +kernel) (tgt := 726) (by decide) (lz_c20 hE hz k H locs hI)
  · exact lv_tableIn hx hb dl_32 (by decide) (by decide) (off := 717) (by decide +kernel) (tgt := 749) (by decide) (lz_c21 hE hz k H locs hI)
  · exact lv_tableIn hx hb dl_32 (by decide) (by decide) (off := 740) (by decide +kernel) (tgt := 772) (by decide) (lz_c22 hE hz k H locs hI)
  · exact lv_tableIn hx hb dl_32 (by decide) (by decide) (off := 773) (by decide +kernel) (tgt := 805) (by decide) (lz_c23 hE hz k H locs hI)
  · exact lv_tableIn hx hb dl_32 (by decide) (by decide) (off := 786) (by decide +kernel) (tgt := 818) (by decide) (lz_c24 hE hz k H locs hI)
  · exact lv_tableIn hx hb dl_32 (by decide) (by decide) (off := 799) (by decide +kernel) (tgt := 831) (by decide) (lz_c25 hE hz k H locs hI)
  · exact lv_tableIn hx hb dl_32 (by decide) (by decide) (off := 822) (by decide +kernel) (tgt := 854) (by decide) (lz_c26 hE hz k H locs hI)
  · exact lv_tableIn hx hb dl_32 (by decide) (by decide) (off := 845) (by decide +kernel) (tgt := 877) (by decide) (lz_c27 hE hz k H locs hI)
  · exact lv_tableOut hx hb dl_32 (by decide) (tgt := 900) (by decide) (k w1 w2 hz H locs hI)
  · exact lv_tableOut hx hb dl_32 (by decide) (tgt := 900) (by decide) (k w1 w2 hz H locs hI)
  · exact lv_tableOut hx hb dl_32 (by decide) (tgt := 900) (by decide) (k w1 w2 hz H locs hI)
  · exact lv_tableOut hx hb dl_32 (by decide) (tgt := 900) (by decide) (k w1 w2 hz H locs hI)
theorem lz_loop (C0 : lw_At p s m meth c b L xs) (hts : ∀ w ∈ rr_W, w.before #[Value.ref b] s = true) (hL : L ≤ 320) (hK : va_K D vwCl [(cI, .int), (cZ, .boolean)] s) (hN : rr_N s) (hz : cells ≤ 600000 ∧ slots ≤ 7302250) : ∀ (n i : Nat) (ls : Array Slot) (w1 w2 : rr_A), L < i + n → i ≤ 325 → lv_has ls 4 [(0, .ref b), (1, .ref (r1 0)), (2, .ref (r2 0)), (3, .int (nI i))] → z_R w1 w2 → lz_J p l e s m below meth c b D cI cZ r1 r2 ls cells slots (lw_Z below #[Value.ref b] s) 18 [] w1 w2 := by
  intro n
  induction n with
  | zero =>
    intro i ls w1 w2 hn hi hls hR
    exact lz_head C0 hL hz hi hls (fun h => absurd h (by omega))
  | succ n ih =>
    intro i ls w1 w2 hn hi hls hR
    refine lz_head C0 hL hz hi hls (fun h => ?_)
    obtain ⟨hx, hb, hr, hml, hown, -, hX, hbl, hlocks, hgv⟩ := id C0
    refine lz_one ⟨hx, hb, hml, hown, hts, hX, hbl, hL, hK, hN, hls, h, hz.1, hz.2⟩ hR (fun w1' w2' hR' => ?_)
    exact lz_foot C0 hls (fun ls' hl' => ih (i + 5) ls' w1' w2' (by omega) (by omega) hl' hR')
set_option maxHeartbeats 1000000 in
/-- a constructor's call, from the law -/
theorem lz_ctor {M' : rr_M} {a d' idx pc ci mc' ms' : Nat} {fs rest : List Value} {H : Heap} {locs : List Loc} (hx : p.tables.exec = Jvm.exec) (hb : c.code = code) (hml : c.maxLocals = 4) (hown : s.vm.findClass (rr_on 12) = some m.cls) (hts : ∀ w ∈ rr_W, w.before #[Value.ref b] s = true) (hK : va_K D vwCl [(cI, .int), (cZ, .boolean)] s) (hN : rr_N s) (hls : ls.size = 4) (hk : decode code pc = .ok (.invokespecial idx, 3)) (hl : Jvm.Cond.methodLink (rr_on 12) idx M'.2.1 ∈ rr_W) (hf : rr_mo M' 0 ∧ Jvm.Cond.instanceMethod M'.2.1 ∈ rr_W) (hrt : M'.2.2.2.2 = none) (hin : M'.2.1.name = "<init>") (hM : rr_C M' d' [.ref 0] [.inr (ci, fs)] mc' ms' none w2) (hd : d' < 9) (hfs : fs.all (rr_lb 0) = true) (hrest : Nat.ble (rest.map fun v => v.category).sum 8 = true) (hz : cells + mc' ≤ 600000 ∧ slots + ms' ≤ 7302250) (hlen : 1 ≤ w2.length) (hP : va_P D vwCl [(a, .inr (ci, fs))] H) (ha : lz_A s a) (hS : va_S (lz_A s) s.heap H locs)
    (k : ∀ (r : Nat → Nat) (H1 : Heap) (locs1 : List Loc), r 0 = a → va_P D vwCl (rr_cw cI cZ r w2) H1 → va_D (lz_A s) (rr_cw cI cZ r w2) → (∀ j, j < w2.length → r j = a ∨ H.size ≤ r j) → (∀ q, q < H.size → q ≠ a → H1[q]? = H[q]?) → va_S (lz_A s) s.heap H1 locs1 → W p l e room_1 s m #[Value.ref b] below meth c H1 locs1 (cells + mc') (slots + ms') Q (F0 m (pc + 3) ls rest)) : W p l e room_1 s m #[Value.ref b] below meth c H locs cells slots Q (F0 m pc ls (.ref a :: rest)) := by
  obtain ⟨o', y', c', mL', rt'⟩ := M'
  dsimp only at hrt
  subst hrt
  obtain ⟨⟨h1, h2, h3, h4, h5, h6⟩, hf2⟩ := hf
  dsimp only at h1 h2 h3 h4 h5 h6 hf2 hin hl hM
  have ecw : rr_cw cI cZ (fun _ => a) [.inr (ci, fs)] = [(a, .inr (ci, fs))] := by
    show [(a, Sum.inr (ci, fs.map (rr_cv (fun _ => a))))] = _
    rw [rr_lb0 hfs]
  have hD0 : va_D (fun _ => True) [(a, (.inr (ci, fs) : va_E))] := ⟨fun i j p q hi hj _ => by
    have h1 := (List.getElem?_eq_some_iff.mp hi).1
    have h2 := (List.getElem?_eq_some_iff.mp hj).1
    simp only [List.length_cons, List.length_nil] at h1 h2
    omega, fun _ _ _ => trivial⟩
  have key := va_runI (As := []) (rest := rest) (g := F0 m pc ls (.ref a :: rest)) (p := p) (e := e) (below := below) (meth := meth) (locs := locs) (cells := cells) (slots := slots) (H := H) (b := a) (index := idx) (n := 0) (R := room_1) (args := #[Value.ref b]) ⟨hx, hb, hml, hown, hts⟩ (hM l D cI cZ (fun _ => a) H.size) (cwI 0 hts (rr_good1 h3) rfl rfl rfl (hts _ h4) (hts _ hl) (hts _ hf2) hin h5 ⟨by show d' + 1 ≤ 2048; omega, by show 8 + (mL' + 11) + 64 * d' ≤ 84000; omega⟩) ⟨rr_blindW, fun U hU hW => ⟨rfl, by rw [hU], by rw [hU, ecw]; exact hP, va_K.moved hW.alike hK, hN.warm hW, by rw [ecw]; exact hD0⟩⟩ rfl rfl hls rfl (lv_room (Nat.le_of_ble_eq_true hrest)) hk ⟨hz.1, hz.2⟩
  have hfree : ∀ q, rr_Aq (fun _ => a) 1 H.size q → lz_A s q := by
    rintro q (⟨j, hj, e⟩ | h)
    · rw [e]; exact ha
    · exact Nat.le_trans hS.1 h
  intro T hT X
  obtain ⟨v, st₀, t, T', L, h0, X', hL, e1, e2, ⟨⟨hv, r, hr, hPn, hKn, hNn, hDn⟩, hzz, hk1⟩, hst⟩ := key T hT X
  cases hv
  rw [h0] at hzz hk1
  have hS1 : va_S (lz_A s) s.heap T'.heap (locs ++ L) := ⟨Nat.le_trans hS.1 (by rw [e1]; exact hzz), fun q g1 g2 => by rw [e1, hk1 q (Nat.lt_of_lt_of_le g1 hS.1) (fun z => g2 (hfree q z))]; exact hS.2.1 q g1 g2, fun q hq => by
      rcases List.mem_append.mp hq with g | g
      · exact hS.2.2 q g
      · exact hfree _ (hL q g)⟩
  have k2 := k r T'.heap (locs ++ L) (hr 0 (Or.inl (by show 0 < 1; omega))) (by rw [e1]; exact hPn) ⟨hDn.1, fun i q hq => hfree _ (hDn.2 i q hq)⟩ (fun j hj => by
    have h9 := hDn.2 j _ (rr_cw_at (List.getElem?_eq_getElem hj))
    rcases h9 with ⟨i, -, e⟩ | h9
    · exact Or.inl e
    · exact Or.inr h9) (fun q g1 g2 => by
    rw [e1]
    refine hk1 q g1 ?_
    rintro (⟨j, hj, e⟩ | h)
    · exact g2 e
    · exact absurd h (Nat.not_le.mpr g1)) hS1 T' rfl X'
  obtain ⟨t2, a1, b1⟩ := k2
  exact ⟨t2, hst t2 a1, b1⟩
end LP
theorem lz_N : rr_nests.all (fun q => decide (Jvm.Cond.methodLinkNest q.1 q.2.1 q.2.2 RX10 ∈ lw_tbl)) = true := by decide +kernel
theorem lz_nest {s : State} {args : Array Value} (hts : ∀ w ∈ lw_tbl, w.before args s = true) : rr_N s := fun q hq => va_Nw.of rfl (hts _ (of_decide_eq_true (List.all_eq_true.mp lz_N q hq)))
theorem lz_kn {s : State} {args : Array Value} (hts : ∀ w ∈ rr_W, w.before args s = true) (k : Nat) : ∃ (cC : ClassId) (iS : Nat → Nat), ∀ q : vw_C, vwCl[k]? = some q → u_Kn s q.1 q.2.1 q.2.2 cC iS := by
  match k with
  | 0 => obtain ⟨a, b, h⟩ := u_known (C := RX0) (T := TX0) (N := 3) hts rr_lay0 (hts _ (rr_ml_at (i := 29) rfl)); exact ⟨a, b, fun q h9 => by cases h9; exact h⟩
  | 1 => obtain ⟨a, b, h⟩ := u_known (C := RX1) (T := TX1) (N := 1) hts rr_lay1 (hts _ (rr_ml_at (i := 30) rfl)); exact ⟨a, b, fun q h9 => by cases h9; exact h⟩
  | 2 => obtain ⟨a, b, h⟩ := u_known (C := RX2) (T := TX2) (N := 3) hts rr_lay2 (hts _ (rr_ml_at (i := 31) rfl)); exact ⟨a, b, fun q h9 => by cases h9; exact h⟩
  | 3 => obtain ⟨a, b, h⟩ := u_known (C := RX3) (T := TX3) (N := 3) hts rr_lay3 (hts _ (rr_ml_at (i := 32) rfl)); exact ⟨a, b, fun q h9 => by cases h9; exact h⟩
  | 4 => obtain ⟨a, b, h⟩ := u_known (C := RX4) (T := TX4) (N := 8) hts rr_lay4 (hts _ (rr_ml_at (i := 33) rfl)); exact ⟨a, b, fun q h9 => by cases h9; exact h⟩
  | 5 => obtain ⟨a, b, h⟩ := u_known (C := RX5) (T := TX5) (N := 8) hts rr_lay5 (hts _ (rr_ml_at (i := 34) rfl)); exact ⟨a, b, fun q h9 => by cases h9; exact h⟩
  | 6 => obtain ⟨a, b, h⟩ := u_known (C := RX6) (T := TX6) (N := 8) hts rr_lay6 (hts _ (rr_ml_at (i := 35) rfl)); exact ⟨a, b, fun q h9 => by cases h9; exact h⟩
  | 7 => obtain ⟨a, b, h⟩ := u_known (C := RX7) (T := TX7) (N := 7) hts rr_lay7 (hts _ (rr_ml_at (i := 36) rfl)); exact ⟨a, b, fun q h9 => by cases h9; exact h⟩
  | 8 => obtain ⟨a, b, h⟩ := u_known (C := RX8) (T := TX8) (N := 10) hts rr_lay8 (hts _ (rr_ml_at (i := 37) rfl)); exact ⟨a, b, fun q h9 => by cases h9; exact h⟩
  | 9 => obtain ⟨a, b, h⟩ := u_known (C := RX9) (T := TX9) (N := 2) hts rr_lay9 (hts _ (rr_ml_at (i := 38) rfl)); exact ⟨a, b, fun q h9 => by cases h9; exact h⟩
  | 10 => obtain ⟨a, b, h⟩ := u_known (C := RX10) (T := TX10) (N := 11) hts rr_lay10 (hts _ (rr_ml_at (i := 39) rfl)); exact ⟨a, b, fun q h9 => by cases h9; exact h⟩
  | 11 => obtain ⟨a, b, h⟩ := u_known (C := RX11) (T := TX11) (N := 30) hts rr_lay11 (hts _ (rr_ml_at (i := 40) rfl)); exact ⟨a, b, fun q h9 => by cases h9; exact h⟩
  | k + 12 => exact ⟨0, fun _ => 0, fun q h => by simp at h⟩
theorem lz_K {s : State} {args : Array Value} (hts : ∀ w ∈ rr_W, w.before args s = true) : ∃ (D : va_G) (cI cZ : ClassId), va_K D vwCl [(cI, .int), (cZ, .boolean)] s := by
  obtain ⟨cI, kI, compI, i1, i2, i3⟩ := Cond.arrayClass_spec (hts _ (rr_ml_at (i := 0) rfl))
  obtain ⟨cZ, kZ, compZ, z1, z2, z3⟩ := Cond.arrayClass_spec (hts _ (rr_ml_at (i := 1) rfl))
  refine ⟨(fun k => Classical.choose (lz_kn hts k), fun k => Classical.choose (Classical.choose_spec (lz_kn hts k))), cI, cZ, fun k q hq => Classical.choose_spec (Classical.choose_spec (lz_kn hts k)) q hq, fun k q hq => ?_⟩
  match k, hq with
  | 0, hq => cases hq; exact ⟨fun n z => ⟨fun k h => (by cases h), kI, i2, compI, i3⟩, i1⟩
  | 1, hq => cases hq; exact ⟨fun n z => ⟨fun k h => (by cases h), kZ, z2, compZ, z3⟩, z1⟩
  | k + 2, hq => simp at hq
theorem lz_PL {D : va_G} {cl : List vw_C} {u v : va_W} {H : Heap} (h : va_P D cl (u ++ v) H) : va_P D cl u H := fun k q hq => h k q (by rw [List.getElem?_append_left (List.getElem?_eq_some_iff.mp hq).1]; exact hq)
theorem lz_PR {D : va_G} {cl : List vw_C} {u v : va_W} {H : Heap} (h : va_P D cl (u ++ v) H) : va_P D cl v H := fun k q hq => h (u.length + k) q (by rw [List.getElem?_append_right (by omega), show u.length + k - u.length = k by omega]; exact hq)
theorem lz_DL {A : Nat → Prop} {u v : va_W} (h : va_D A (u ++ v)) : va_D A u := ⟨fun i j p q hi hj e => h.1 i j p q (by rw [List.getElem?_append_left (List.getElem?_eq_some_iff.mp hi).1]; exact hi) (by rw [List.getElem?_append_left (List.getElem?_eq_some_iff.mp hj).1]; exact hj) e, fun k q hq => h.2 k q (by rw [List.getElem?_append_left (List.getElem?_eq_some_iff.mp hq).1]; exact hq)⟩
theorem lz_DR {A : Nat → Prop} {u : va_W} {q : Nat × va_E} (h : va_D A (u ++ [q])) : A q.1 ∧ ∀ (k : Nat) (p : Nat × va_E), u[k]? = some p → p.1 ≠ q.1 := by
  have hq : (u ++ [q])[u.length]? = some q := by simp
  refine ⟨h.2 u.length q hq, fun k p hk e => ?_⟩
  have hlt := (List.getElem?_eq_some_iff.mp hk).1
  have := h.1 k u.length p q (by rw [List.getElem?_append_left hlt]; exact hk) hq e
  omega
set_option maxHeartbeats 2000000 in
theorem whole_start {p : Program} {e : Env} {s : State} {m : MethodId} {below : List Frame} {meth : Method} {c : Code} (l : Launch) {b L : Nat} {xs : Nat → Int32} (hL : L ≤ 320) (C0 : lw_At p s m meth c b L xs) : W p l e room_1 s m #[Value.ref b] below meth c s.heap [] 0 0 (lw_Z below #[Value.ref b] s) (entryFrame m ([Value.ref b] : List Value).toArray 4) := by
  obtain ⟨hx, hb, hr, hml, hown, hts0, hX, hbl, hlocks, hgv⟩ := id C0
  have hown : s.vm.findClass (rr_on 12) = some m.cls := hown
  have hts : ∀ w ∈ rr_W, w.before #[Value.ref b] s = true := fun w h => hts0 w (List.mem_filter.mp h).1
  have hN := lz_nest hts0
  obtain ⟨D, cI, cZ, hK⟩ := lz_K hts
  have hA : ∀ q : Nat, s.heap.size ≤ q → lz_A s q := fun _ h => h
  have hS : va_S (lz_A s) s.heap s.heap [] := va_S.rf
  have hP : va_P D vwCl [] s.heap := fun k q h => by simp at h
  have hD : va_D (lz_A s) [] := ⟨fun i j p q h => by simp at h, fun k q h => by simp at h⟩
  have hl := lv_entry ([.ref b]) (n := 4) (Nat.le_of_ble_eq_true rfl)
  rw [lg_entry_eq]
  generalize (lg_sl ([.ref b]) ++ List.replicate (4 - (lg_sl ([.ref b])).length) Slot.unset).toArray = ls at hl ⊢
  have hl : lv_has ls 4 [(0, .ref b)] := hl
  refine va_new (ci := 10) (fs := [.null, .null, .null, .null, .null, .null, .null, .null, .null, .null, .null]) (C := RX10) (T := TX10) (N := 11) hx hb hts rr_lay10 tyX10 tyX10_ok hown (hts _ (rr_ml_at (i := 16) rfl)) (hts _ (rr_ml_at (i := 39) rfl)) (hts _ fX10_init.1.2.2.2.1) hK hP hD hS hA rfl (by decide +kernel) (Nat.le_of_ble_eq_true rfl) (Nat.le_of_ble_eq_true rfl) dl_0 (fun a1 H0 hP0 hD0 hS0 => ?_)
  refine lv_dup hx hb dl_3 rfl ?_
  refine lz_ctor (rest := [.ref a1]) hx hb hml hown hts hK hN hl.1 dl_4 kl_12_9 fX10_init rfl rfl k_cx (by decide) rfl rfl ⟨Nat.le_of_ble_eq_true rfl, Nat.le_of_ble_eq_true rfl⟩ (Nat.le_of_ble_eq_true rfl) hP0 (hD0.2 0 _ rfl) hS0 (fun r1 H1 locs1 hr1 hPx hDx _ _ hSx => ?_)
  subst hr1
  refine lv_astore_n (lv' := [(1, .ref (r1 0)), (0, .ref b)]) hx hb dl_7 rfl hl (by decide) rfl (fun ls hl => ?_)
  refine va_new (ci := 11) (fs := [.null, .int 0, .int 0, .null, .null, .null, .null, .null, .null, .null, .null, .int 0, .null, .null, .null, .int 0, .null, .null, .null, .int 0, .null, .int 0, .null, .int 0, .int 0, .int 0, .null, .null, .null, .null]) (C := RX11) (T := TX11) (N := 30) hx hb hts rr_lay11 tyX11 tyX11_ok hown (hts _ (rr_ml_at (i := 17) rfl)) (hts _ (rr_ml_at (i := 40) rfl)) (hts _ fX11_init.1.2.2.2.1) hK hPx hDx hSx hA rfl (by decide +kernel) (Nat.le_of_ble_eq_true rfl) (Nat.le_of_ble_eq_true rfl) dl_8 (fun a2 H2 hP2 hD2 hS2 => ?_)
  have hapt := lz_DR hD2
  refine lv_dup hx hb dl_11 rfl ?_
  refine lz_ctor (rest := [.ref a2]) hx hb hml hown hts hK hN hl.1 dl_12 kl_12_12 fX11_init rfl rfl k_cm (by decide) rfl rfl ⟨Nat.le_of_ble_eq_true rfl, Nat.le_of_ble_eq_true rfl⟩ (Nat.le_of_ble_eq_true rfl) (lz_PR hP2) hapt.1 hS2 (fun r2 H3 locs3 hr2 hP3 hD3 hap3 hkp3 hS3 => ?_)
  subst hr2
  refine lv_astore_n (lv' := [(2, .ref (r2 0)), (1, .ref (r1 0)), (0, .ref b)]) hx hb dl_15 rfl hl (by decide) rfl (fun ls hl => ?_)
  refine lv_iconst (v := nI 0) hx hb dl_16 rfl ?_
  refine lv_istore_n (lv' := [(3, .int (nI 0)), (2, .ref (r2 0)), (1, .ref (r1 0)), (0, .ref b)]) hx hb dl_17 rfl hl (by decide) rfl (fun ls hl => ?_)
  have hP1 := lz_PL hP2
  have hI : lz_I D cI cZ s r1 r2 K_X K_M H3 locs3 := ⟨hP1.kept (fun k q hq => hkp3 q.1 (hP1 k q hq).lt (hapt.2 k q hq)), hP3, hDx, hD3, fun i j hi hj e => by
    have g1 := rr_cw_at (cI := cI) (cZ := cZ) (r := r1) (List.getElem?_eq_getElem hi)
    have g2 := (hP1 i _ g1).lt
    have g3 := hapt.2 i _ g1
    have g2 : r1 i < H2.size := g2
    have g3 : r1 i ≠ r2 0 := g3
    rcases hap3 j hj with h | h
    · exact g3 (e.trans h)
    · rw [e] at g2; omega, hS3⟩
  exact lz_loop C0 hts hL hK hN ⟨Nat.le_of_ble_eq_true rfl, Nat.le_of_ble_eq_true rfl⟩ (L + 1) 0 ls K_X K_M (by omega) (by omega) (lv_sub hl [3, 2, 1, 0] rfl) k_R H3 locs3 hI
