/-! the law's cases -/
section LC
variable {p : Program} {l : Launch} {e : Env} {s : State} {m : MethodId} {below : List Frame} {meth : Method} {c : Code} {b L : Nat} {xs : Nat → Int32} {D : va_G} {cI cZ : ClassId} {r1 r2 : Nat → Nat} {ls : Array Slot} {i cells slots : Nat} {Q : State → Prop} {w1 w2 : rr_A}
theorem lz_c0 (hE : lz_E p s m c b L xs D cI cZ r1 r2 ls i cells slots) (hz : z_R w1 w2) (k : ∀ w1' w2', z_R w1' w2' → lz_J p l e s m below meth c b D cI cZ r1 r2 ls cells slots Q 900 [] w1' w2') : lz_J p l e s m below meth c b D cI cZ r1 r2 ls cells slots Q 160 [] w1 w2 := by
  obtain ⟨d1, d2, x0, Q1, Q2, h1, h2, c1, c2, hR, e1, e2⟩ := z_feed (xs (i + 1)) w1 w2 hz
  obtain ⟨n1, fs1, g1⟩ := z_R1 hz
  obtain ⟨n2, fs2, g2⟩ := z_R2 hz
  refine lz_ax hE (by decide +kernel) ?_
  refine lz_ar 1 hE rfl (by decide +kernel) ?_
  refine lz_cx (idx := 13) hE (by decide +kernel) kl_12_13 fX10_feed c1 h1 g1 rfl rfl rfl rfl (fun w h => (z_X_len (e1 w h)).trans n1.symm) rfl (fun w1' q1 => ?_)
  refine lz_am hE (by decide +kernel) ?_
  refine lz_ar 1 hE rfl (by decide +kernel) ?_
  refine lz_cm (idx := 17) hE (by decide +kernel) kl_12_17 fX11_feed c2 h2 g2 rfl rfl rfl rfl (fun w h => (z_M_len (e2 w h)).trans n2.symm) rfl (fun w2' q2 => ?_)
  exact lz_eq (off := 722) hE (by decide +kernel) (k w1' w2' (hR w1' w2' q1 q2))
theorem lz_c1 (hE : lz_E p s m c b L xs D cI cZ r1 r2 ls i cells slots) (hz : z_R w1 w2) (k : ∀ w1' w2', z_R w1' w2' → lz_J p l e s m below meth c b D cI cZ r1 r2 ls cells slots Q 900 [] w1' w2') : lz_J p l e s m below meth c b D cI cZ r1 r2 ls cells slots Q 183 [] w1 w2 := by
  obtain ⟨d1, d2, x0, Q1, Q2, h1, h2, c1, c2, hR, e1, e2⟩ := z_strand  w1 w2 hz
  obtain ⟨n1, fs1, g1⟩ := z_R1 hz
  obtain ⟨n2, fs2, g2⟩ := z_R2 hz
  refine lz_ax hE (by decide +kernel) ?_
  refine lz_cx (idx := 18) hE (by decide +kernel) kl_12_18 fX10_strand c1 h1 g1 rfl rfl rfl rfl (fun w h => (z_X_len (e1 w h)).trans n1.symm) rfl (fun w1' q1 => ?_)
  refine lz_am hE (by decide +kernel) ?_
  refine lz_cm (idx := 22) hE (by decide +kernel) kl_12_22 fX11_strand c2 h2 g2 rfl rfl rfl rfl (fun w h => (z_M_len (e2 w h)).trans n2.symm) rfl (fun w2' q2 => ?_)
  exact lz_eq (off := 709) hE (by decide +kernel) (k w1' w2' (hR w1' w2' q1 q2))
theorem lz_c2 (hE : lz_E p s m c b L xs D cI cZ r1 r2 ls i cells slots) (hz : z_R w1 w2) (k : ∀ w1' w2', z_R w1' w2' → lz_J p l e s m below meth c b D cI cZ r1 r2 ls cells slots Q 900 [] w1' w2') : lz_J p l e s m below meth c b D cI cZ r1 r2 ls cells slots Q 196 [] w1 w2 := by
  obtain ⟨d1, d2, x0, Q1, Q2, h1, h2, c1, c2, hR, e1, e2⟩ := z_fault  w1 w2 hz
  obtain ⟨n1, fs1, g1⟩ := z_R1 hz
  obtain ⟨n2, fs2, g2⟩ := z_R2 hz
  refine lz_ax hE (by decide +kernel) ?_
  refine lz_cx (idx := 23) hE (by decide +kernel) kl_12_23 fX10_fault c1 h1 g1 rfl rfl rfl rfl (fun w h => (z_X_len (e1 w h)).trans n1.symm) rfl (fun w1' q1 => ?_)
  refine lz_am hE (by decide +kernel) ?_
  refine lz_cm (idx := 26) hE (by decide +kernel) kl_12_26 fX11_fault c2 h2 g2 rfl rfl rfl rfl (fun w h => (z_M_len (e2 w h)).trans n2.symm) rfl (fun w2' q2 => ?_)
  exact lz_eq (off := 696) hE (by decide +kernel) (k w1' w2' (hR w1' w2' q1 q2))
theorem lz_c3 (hE : lz_E p s m c b L xs D cI cZ r1 r2 ls i cells slots) (hz : z_R w1 w2) (k : ∀ w1' w2', z_R w1' w2' → lz_J p l e s m below meth c b D cI cZ r1 r2 ls cells slots Q 900 [] w1' w2') : lz_J p l e s m below meth c b D cI cZ r1 r2 ls cells slots Q 209 [] w1 w2 := by
  obtain ⟨d1, d2, x0, Q1, Q2, h1, h2, c1, c2, hR, e1, e2⟩ := z_told (xs (i + 1)) w1 w2 hz
  obtain ⟨n1, fs1, g1⟩ := z_R1 hz
  obtain ⟨n2, fs2, g2⟩ := z_R2 hz
  refine lz_ax hE (by decide +kernel) ?_
  refine lz_ar 1 hE rfl (by decide +kernel) ?_
  refine lz_cx (idx := 27) hE (by decide +kernel) kl_12_27 fX10_told c1 h1 g1 rfl rfl rfl rfl (fun w h => (z_X_len (e1 w h)).trans n1.symm) rfl (fun w1' q1 => ?_)
  refine lz_am hE (by decide +kernel) ?_
  refine lz_ar 1 hE rfl (by decide +kernel) ?_
  refine lz_cm (idx := 30) hE (by decide +kernel) kl_12_30 fX11_told c2 h2 g2 rfl rfl rfl rfl (fun w h => (z_M_len (e2 w h)).trans n2.symm) rfl (fun w2' q2 => ?_)
  exact lz_eq (off := 673) hE (by decide +kernel) (k w1' w2' (hR w1' w2' q1 q2))
theorem lz_c4 (hE : lz_E p s m c b L xs D cI cZ r1 r2 ls i cells slots) (hz : z_R w1 w2) (k : ∀ w1' w2', z_R w1' w2' → lz_J p l e s m below meth c b D cI cZ r1 r2 ls cells slots Q 900 [] w1' w2') : lz_J p l e s m below meth c b D cI cZ r1 r2 ls cells slots Q 232 [] w1 w2 := by
  obtain ⟨d1, d2, x0, Q1, Q2, h1, h2, c1, c2, hR, e1, e2⟩ := z_clause (xs (i + 1)) (xs (i + 2)) w1 w2 hz
  obtain ⟨n1, fs1, g1⟩ := z_R1 hz
  obtain ⟨n2, fs2, g2⟩ := z_R2 hz
  refine lz_ax hE (by decide +kernel) ?_
  refine lz_ar 1 hE rfl (by decide +kernel) ?_
  refine lz_ar 2 hE rfl (by decide +kernel) ?_
  refine lz_cx (idx := 31) hE (by decide +kernel) kl_12_31 fX10_clause c1 h1 g1 rfl rfl rfl rfl (fun w h => (z_X_len (e1 w h)).trans n1.symm) rfl (fun w1' q1 => ?_)
  refine lz_am hE (by decide +kernel) ?_
  refine lz_ar 1 hE rfl (by decide +kernel) ?_
  refine lz_ar 2 hE rfl (by decide +kernel) ?_
  refine lz_cm (idx := 35) hE (by decide +kernel) kl_12_35 fX11_clause c2 h2 g2 rfl rfl rfl rfl (fun w h => (z_M_len (e2 w h)).trans n2.symm) rfl (fun w2' q2 => ?_)
  exact lz_eq (off := 640) hE (by decide +kernel) (k w1' w2' (hR w1' w2' q1 q2))
theorem lz_c5 (hE : lz_E p s m c b L xs D cI cZ r1 r2 ls i cells slots) (hz : z_R w1 w2) (k : ∀ w1' w2', z_R w1' w2' → lz_J p l e s m below meth c b D cI cZ r1 r2 ls cells slots Q 900 [] w1' w2') : lz_J p l e s m below meth c b D cI cZ r1 r2 ls cells slots Q 265 [] w1 w2 := by
  obtain ⟨d1, d2, x0, Q1, Q2, h1, h2, c1, c2, hR, e1, e2⟩ := z_cell (xs (i + 1)) (xs (i + 2)) w1 w2 hz
  obtain ⟨n1, fs1, g1⟩ := z_R1 hz
  obtain ⟨n2, fs2, g2⟩ := z_R2 hz
  refine lz_ax hE (by decide +kernel) ?_
  refine lz_ar 1 hE rfl (by decide +kernel) ?_
  refine lz_ar 2 hE rfl (by decide +kernel) ?_
  refine lz_cx (idx := 36) hE (by decide +kernel) kl_12_36 fX10_cell c1 h1 g1 rfl rfl rfl rfl (fun w h => (z_X_len (e1 w h)).trans n1.symm) rfl (fun w1' q1 => ?_)
  refine lz_am hE (by decide +kernel) ?_
  refine lz_ar 1 hE rfl (by decide +kernel) ?_
  refine lz_ar 2 hE rfl (by decide +kernel) ?_
  refine lz_cm (idx := 39) hE (by decide +kernel) kl_12_39 fX11_cell c2 h2 g2 rfl rfl rfl rfl (fun w h => (z_M_len (e2 w h)).trans n2.symm) rfl (fun w2' q2 => ?_)
  exact lz_eq (off := 607) hE (by decide +kernel) (k w1' w2' (hR w1' w2' q1 q2))
theorem lz_c6 (hE : lz_E p s m c b L xs D cI cZ r1 r2 ls i cells slots) (hz : z_R w1 w2) (k : ∀ w1' w2', z_R w1' w2' → lz_J p l e s m below meth c b D cI cZ r1 r2 ls cells slots Q 900 [] w1' w2') : lz_J p l e s m below meth c b D cI cZ r1 r2 ls cells slots Q 298 [] w1 w2 := by
  obtain ⟨d1, d2, x0, Q1, Q2, h1, h2, c1, c2, hR, e1, e2⟩ := z_write (xs (i + 1)) (xs (i + 2)) w1 w2 hz
  obtain ⟨n1, fs1, g1⟩ := z_R1 hz
  obtain ⟨n2, fs2, g2⟩ := z_R2 hz
  refine lz_ax hE (by decide +kernel) ?_
  refine lz_ar 1 hE rfl (by decide +kernel) ?_
  refine lz_ar 2 hE rfl (by decide +kernel) ?_
  refine lz_cx (idx := 40) hE (by decide +kernel) kl_12_40 fX10_write c1 h1 g1 rfl rfl rfl rfl (fun w h => (z_X_len (e1 w h)).trans n1.symm) rfl (fun w1' q1 => ?_)
  refine lz_am hE (by decide +kernel) ?_
  refine lz_ar 1 hE rfl (by decide +kernel) ?_
  refine lz_ar 2 hE rfl (by decide +kernel) ?_
  refine lz_cm (idx := 43) hE (by decide +kernel) kl_12_43 fX11_write c2 h2 g2 rfl rfl rfl rfl (fun w h => (z_M_len (e2 w h)).trans n2.symm) rfl (fun w2' q2 => ?_)
  exact lz_eq (off := 574) hE (by decide +kernel) (k w1' w2' (hR w1' w2' q1 q2))
theorem lz_c7 (hE : lz_E p s m c b L xs D cI cZ r1 r2 ls i cells slots) (hz : z_R w1 w2) (k : ∀ w1' w2', z_R w1' w2' → lz_J p l e s m below meth c b D cI cZ r1 r2 ls cells slots Q 900 [] w1' w2') : lz_J p l e s m below meth c b D cI cZ r1 r2 ls cells slots Q 331 [] w1 w2 := by
  obtain ⟨d1, d2, x0, Q1, Q2, h1, h2, c1, c2, hR, e1, e2⟩ := z_rub (xs (i + 1)) w1 w2 hz
  obtain ⟨n1, fs1, g1⟩ := z_R1 hz
  obtain ⟨n2, fs2, g2⟩ := z_R2 hz
  refine lz_ax hE (by decide +kernel) ?_
  refine lz_ar 1 hE rfl (by decide +kernel) ?_
  refine lz_cx (idx := 44) hE (by decide +kernel) kl_12_44 fX10_rub c1 h1 g1 rfl rfl rfl rfl (fun w h => (z_X_len (e1 w h)).trans n1.symm) rfl (fun w1' q1 => ?_)
  refine lz_am hE (by decide +kernel) ?_
  refine lz_ar 1 hE rfl (by decide +kernel) ?_
  refine lz_cm (idx := 47) hE (by decide +kernel) kl_12_47 fX11_rub c2 h2 g2 rfl rfl rfl rfl (fun w h => (z_M_len (e2 w h)).trans n2.symm) rfl (fun w2' q2 => ?_)
  exact lz_eq (off := 551) hE (by decide +kernel) (k w1' w2' (hR w1' w2' q1 q2))
theorem lz_c8 (hE : lz_E p s m c b L xs D cI cZ r1 r2 ls i cells slots) (hz : z_R w1 w2) (k : ∀ w1' w2', z_R w1' w2' → lz_J p l e s m below meth c b D cI cZ r1 r2 ls cells slots Q 900 [] w1' w2') : lz_J p l e s m below meth c b D cI cZ r1 r2 ls cells slots Q 354 [] w1 w2 := by
  obtain ⟨d1, d2, x0, Q1, Q2, h1, h2, c1, c2, hR, e1, e2⟩ := z_storm  w1 w2 hz
  obtain ⟨n1, fs1, g1⟩ := z_R1 hz
  obtain ⟨n2, fs2, g2⟩ := z_R2 hz
  refine lz_ax hE (by decide +kernel) ?_
  refine lz_cx (idx := 48) hE (by decide +kernel) kl_12_48 fX10_storm c1 h1 g1 rfl rfl rfl rfl (fun w h => (z_X_len (e1 w h)).trans n1.symm) rfl (fun w1' q1 => ?_)
  refine lz_am hE (by decide +kernel) ?_
  refine lz_cm (idx := 51) hE (by decide +kernel) kl_12_51 fX11_storm c2 h2 g2 rfl rfl rfl rfl (fun w h => (z_M_len (e2 w h)).trans n2.symm) rfl (fun w2' q2 => ?_)
  exact lz_eq (off := 538) hE (by decide +kernel) (k w1' w2' (hR w1' w2' q1 q2))
theorem lz_c9 (hE : lz_E p s m c b L xs D cI cZ r1 r2 ls i cells slots) (hz : z_R w1 w2) (k : ∀ w1' w2', z_R w1' w2' → lz_J p l e s m below meth c b D cI cZ r1 r2 ls cells slots Q 900 [] w1' w2') : lz_J p l e s m below meth c b D cI cZ r1 r2 ls cells slots Q 367 [] w1 w2 := by
  obtain ⟨d1, d2, x0, Q1, Q2, h1, h2, c1, c2, hR, e1, e2⟩ := z_hour (xs (i + 1)) w1 w2 hz
  obtain ⟨n1, fs1, g1⟩ := z_R1 hz
  obtain ⟨n2, fs2, g2⟩ := z_R2 hz
  refine lz_ax hE (by decide +kernel) ?_
  refine lz_ar 1 hE rfl (by decide +kernel) ?_
  refine lz_cx (idx := 52) hE (by decide +kernel) kl_12_52 fX10_hour c1 h1 g1 rfl rfl rfl rfl (fun w h => (z_X_len (e1 w h)).trans n1.symm) rfl (fun w1' q1 => ?_)
  refine lz_am hE (by decide +kernel) ?_
  refine lz_ar 1 hE rfl (by decide +kernel) ?_
  refine lz_cm (idx := 55) hE (by decide +kernel) kl_12_55 fX11_hour c2 h2 g2 rfl rfl rfl rfl (fun w h => (z_M_len (e2 w h)).trans n2.symm) rfl (fun w2' q2 => ?_)
  exact lz_eq (off := 515) hE (by decide +kernel) (k w1' w2' (hR w1' w2' q1 q2))
theorem lz_c10 (hE : lz_E p s m c b L xs D cI cZ r1 r2 ls i cells slots) (hz : z_R w1 w2) (k : ∀ w1' w2', z_R w1' w2' → lz_J p l e s m below meth c b D cI cZ r1 r2 ls cells slots Q 900 [] w1' w2') : lz_J p l e s m below meth c b D cI cZ r1 r2 ls cells slots Q 390 [] w1 w2 := by
  obtain ⟨d1, d2, x0, Q1, Q2, h1, h2, c1, c2, hR, e1, e2⟩ := z_drift (xs (i + 1)) w1 w2 hz
  obtain ⟨n1, fs1, g1⟩ := z_R1 hz
  obtain ⟨n2, fs2, g2⟩ := z_R2 hz
  refine lz_ax hE (by decide +kernel) ?_
  refine lz_ar 1 hE rfl (by decide +kernel) ?_
  refine lz_cx (idx := 56) hE (by decide +kernel) kl_12_56 fX10_drift c1 h1 g1 rfl rfl rfl rfl (fun w h => (z_X_len (e1 w h)).trans n1.symm) rfl (fun w1' q1 => ?_)
  refine lz_am hE (by decide +kernel) ?_
  refine lz_ar 1 hE rfl (by decide +kernel) ?_
  refine lz_cm (idx := 59) hE (by decide +kernel) kl_12_59 fX11_drift c2 h2 g2 rfl rfl rfl rfl (fun w h => (z_M_len (e2 w h)).trans n2.symm) rfl (fun w2' q2 => ?_)
  exact lz_eq (off := 492) hE (by decide +kernel) (k w1' w2' (hR w1' w2' q1 q2))
theorem lz_c11 (hE : lz_E p s m c b L xs D cI cZ r1 r2 ls i cells slots) (hz : z_R w1 w2) (k : ∀ w1' w2', z_R w1' w2' → lz_J p l e s m below meth c b D cI cZ r1 r2 ls cells slots Q 900 [] w1' w2') : lz_J p l e s m below meth c b D cI cZ r1 r2 ls cells slots Q 413 [] w1 w2 := by
  obtain ⟨d1, d2, x0, Q1, Q2, h1, h2, c1, c2, hR, e1, e2⟩ := z_undo (xs (i + 1)) w1 w2 hz
  obtain ⟨n1, fs1, g1⟩ := z_R1 hz
  obtain ⟨n2, fs2, g2⟩ := z_R2 hz
  refine lz_ax hE (by decide +kernel) ?_
  refine lz_ar 1 hE rfl (by decide +kernel) ?_
  refine lz_cx (idx := 60) hE (by decide +kernel) kl_12_60 fX10_undo c1 h1 g1 rfl rfl rfl rfl (fun w h => (z_X_len (e1 w h)).trans n1.symm) rfl (fun w1' q1 => ?_)
  refine lz_am hE (by decide +kernel) ?_
  refine lz_ar 1 hE rfl (by decide +kernel) ?_
  refine lz_cm (idx := 63) hE (by decide +kernel) kl_12_63 fX11_undo c2 h2 g2 rfl rfl rfl rfl (fun w h => (z_M_len (e2 w h)).trans n2.symm) rfl (fun w2' q2 => ?_)
  exact lz_eq (off := 469) hE (by decide +kernel) (k w1' w2' (hR w1' w2' q1 q2))
theorem lz_c12 (hE : lz_E p s m c b L xs D cI cZ r1 r2 ls i cells slots) (hz : z_R w1 w2) (k : ∀ w1' w2', z_R w1' w2' → lz_J p l e s m below meth c b D cI cZ r1 r2 ls cells slots Q 900 [] w1' w2') : lz_J p l e s m below meth c b D cI cZ r1 r2 ls cells slots Q 436 [] w1 w2 := by
  obtain ⟨d1, d2, x0, Q1, Q2, h1, h2, c1, c2, hR, e1, e2⟩ := z_lasts (xs (i + 1)) (xs (i + 2)) w1 w2 hz
  obtain ⟨n1, fs1, g1⟩ := z_R1 hz
  obtain ⟨n2, fs2, g2⟩ := z_R2 hz
  refine lz_ax hE (by decide +kernel) ?_
  refine lz_ar 1 hE rfl (by decide +kernel) ?_
  refine lz_ar 2 hE rfl (by decide +kernel) ?_
  refine lz_cx (idx := 64) hE (by decide +kernel) kl_12_64 fX10_lasts c1 h1 g1 rfl rfl rfl rfl (fun w h => (z_X_len (e1 w h)).trans n1.symm) rfl (fun w1' q1 => ?_)
  refine lz_am hE (by decide +kernel) ?_
  refine lz_ar 1 hE rfl (by decide +kernel) ?_
  refine lz_ar 2 hE rfl (by decide +kernel) ?_
  refine lz_cm (idx := 67) hE (by decide +kernel) kl_12_67 fX11_lasts c2 h2 g2 rfl rfl rfl rfl (fun w h => (z_M_len (e2 w h)).trans n2.symm) rfl (fun w2' q2 => ?_)
  exact lz_eq (off := 436) hE (by decide +kernel) (k w1' w2' (hR w1' w2' q1 q2))
theorem lz_c13 (hE : lz_E p s m c b L xs D cI cZ r1 r2 ls i cells slots) (hz : z_R w1 w2) (k : ∀ w1' w2', z_R w1' w2' → lz_J p l e s m below meth c b D cI cZ r1 r2 ls cells slots Q 900 [] w1' w2') : lz_J p l e s m below meth c b D cI cZ r1 r2 ls cells slots Q 469 [] w1 w2 := by
  obtain ⟨d1, d2, x0, Q1, Q2, h1, h2, c1, c2, hR, e1, e2⟩ := z_washed (xs (i + 1)) w1 w2 hz
  obtain ⟨n1, fs1, g1⟩ := z_R1 hz
  obtain ⟨n2, fs2, g2⟩ := z_R2 hz
  refine lz_ax hE (by decide +kernel) ?_
  refine lz_ar 1 hE rfl (by decide +kernel) ?_
  refine lz_cx (idx := 68) hE (by decide +kernel) kl_12_68 fX10_washed c1 h1 g1 rfl rfl rfl rfl (fun w h => (z_X_len (e1 w h)).trans n1.symm) rfl (fun w1' q1 => ?_)
  refine lz_am hE (by decide +kernel) ?_
  refine lz_ar 1 hE rfl (by decide +kernel) ?_
  refine lz_cm (idx := 71) hE (by decide +kernel) kl_12_71 fX11_washed c2 h2 g2 rfl rfl rfl rfl (fun w h => (z_M_len (e2 w h)).trans n2.symm) rfl (fun w2' q2 => ?_)
  exact lz_eq (off := 413) hE (by decide +kernel) (k w1' w2' (hR w1' w2' q1 q2))
theorem lz_c14 (hE : lz_E p s m c b L xs D cI cZ r1 r2 ls i cells slots) (hz : z_R w1 w2) (k : ∀ w1' w2', z_R w1' w2' → lz_J p l e s m below meth c b D cI cZ r1 r2 ls cells slots Q 900 [] w1' w2') : lz_J p l e s m below meth c b D cI cZ r1 r2 ls cells slots Q 492 [] w1 w2 := by
  obtain ⟨d1, d2, x0, Q1, Q2, h1, h2, c1, c2, hR, e1, e2⟩ := z_plan (xs (i + 1)) (xs (i + 2)) (xs (i + 3)) w1 w2 hz
  obtain ⟨n1, fs1, g1⟩ := z_R1 hz
  obtain ⟨n2, fs2, g2⟩ := z_R2 hz
  refine lz_ax hE (by decide +kernel) ?_
  refine lz_ar 1 hE rfl (by decide +kernel) ?_
  refine lz_ar 2 hE rfl (by decide +kernel) ?_
  refine lz_ar 3 hE rfl (by decide +kernel) ?_
  refine lz_cx (idx := 72) hE (by decide +kernel) kl_12_72 fX10_plan c1 h1 g1 rfl rfl rfl rfl (fun w h => (z_X_len (e1 w h)).trans n1.symm) rfl (fun w1' q1 => ?_)
  refine lz_am hE (by decide +kernel) ?_
  refine lz_ar 1 hE rfl (by decide +kernel) ?_
  refine lz_ar 2 hE rfl (by decide +kernel) ?_
  refine lz_ar 3 hE rfl (by decide +kernel) ?_
  refine lz_cm (idx := 76) hE (by decide +kernel) kl_12_76 fX11_plan c2 h2 g2 rfl rfl rfl rfl (fun w h => (z_M_len (e2 w h)).trans n2.symm) rfl (fun w2' q2 => ?_)
  exact lz_eq (off := 370) hE (by decide +kernel) (k w1' w2' (hR w1' w2' q1 q2))
theorem lz_c15 (hE : lz_E p s m c b L xs D cI cZ r1 r2 ls i cells slots) (hz : z_R w1 w2) (k : ∀ w1' w2', z_R w1' w2' → lz_J p l e s m below meth c b D cI cZ r1 r2 ls cells slots Q 900 [] w1' w2') : lz_J p l e s m below meth c b D cI cZ r1 r2 ls cells slots Q 535 [] w1 w2 := by
  obtain ⟨d1, d2, x0, Q1, Q2, h1, h2, c1, c2, hR, e1, e2⟩ := z_bargain (xs (i + 1)) (xs (i + 2)) (xs (i + 3)) (xs (i + 4)) w1 w2 hz
  obtain ⟨n1, fs1, g1⟩ := z_R1 hz
  obtain ⟨n2, fs2, g2⟩ := z_R2 hz
  refine lz_ax hE (by decide +kernel) ?_
  refine lz_ar 1 hE rfl (by decide +kernel) ?_
  refine lz_ar 2 hE rfl (by decide +kernel) ?_
  refine lz_ar 3 hE rfl (by decide +kernel) ?_
  refine lz_ar 4 hE rfl (by decide +kernel) ?_
  refine lz_cx (idx := 77) hE (by decide +kernel) kl_12_77 fX10_bargain c1 h1 g1 rfl rfl rfl rfl (fun w h => (z_X_len (e1 w h)).trans n1.symm) rfl (fun w1' q1 => ?_)
  refine lz_am hE (by decide +kernel) ?_
  refine lz_ar 1 hE rfl (by decide +kernel) ?_
  refine lz_ar 2 hE rfl (by decide +kernel) ?_
  refine lz_ar 3 hE rfl (by decide +kernel) ?_
  refine lz_ar 4 hE rfl (by decide +kernel) ?_
  refine lz_cm (idx := 81) hE (by decide +kernel) kl_12_81 fX11_bargain c2 h2 g2 rfl rfl rfl rfl (fun w h => (z_M_len (e2 w h)).trans n2.symm) rfl (fun w2' q2 => ?_)
  exact lz_eq (off := 317) hE (by decide +kernel) (k w1' w2' (hR w1' w2' q1 q2))
theorem lz_c16 (hE : lz_E p s m c b L xs D cI cZ r1 r2 ls i cells slots) (hz : z_R w1 w2) (k : ∀ w1' w2', z_R w1' w2' → lz_J p l e s m below meth c b D cI cZ r1 r2 ls cells slots Q 900 [] w1' w2') : lz_J p l e s m below meth c b D cI cZ r1 r2 ls cells slots Q 588 [] w1 w2 := by
  obtain ⟨d1, d2, x0, Q1, Q2, h1, h2, c1, c2, hR, e1, e2⟩ := z_crossing (xs (i + 1)) w1 w2 hz
  obtain ⟨n1, fs1, g1⟩ := z_R1 hz
  obtain ⟨n2, fs2, g2⟩ := z_R2 hz
  refine lz_ax hE (by decide +kernel) ?_
  refine lz_ar 1 hE rfl (by decide +kernel) ?_
  refine lz_cx (idx := 82) hE (by decide +kernel) kl_12_82 fX10_crossing c1 h1 g1 rfl rfl rfl rfl (fun w h => (z_X_len (e1 w h)).trans n1.symm) rfl (fun w1' q1 => ?_)
  refine lz_am hE (by decide +kernel) ?_
  refine lz_ar 1 hE rfl (by decide +kernel) ?_
  refine lz_cm (idx := 85) hE (by decide +kernel) kl_12_85 fX11_crossing c2 h2 g2 rfl rfl rfl rfl (fun w h => (z_M_len (e2 w h)).trans n2.symm) rfl (fun w2' q2 => ?_)
  exact lz_eq (off := 294) hE (by decide +kernel) (k w1' w2' (hR w1' w2' q1 q2))
theorem lz_c17 (hE : lz_E p s m c b L xs D cI cZ r1 r2 ls i cells slots) (hz : z_R w1 w2) (k : ∀ w1' w2', z_R w1' w2' → lz_J p l e s m below meth c b D cI cZ r1 r2 ls cells slots Q 900 [] w1' w2') : lz_J p l e s m below meth c b D cI cZ r1 r2 ls cells slots Q 611 [] w1 w2 := by
  obtain ⟨d1, d2, x0, Q1, Q2, h1, h2, c1, c2, hR, e1, e2⟩ := z_leaners (xs (i + 1)) w1 w2 hz
  obtain ⟨n1, fs1, g1⟩ := z_R1 hz
  obtain ⟨n2, fs2, g2⟩ := z_R2 hz
  refine lz_ax hE (by decide +kernel) ?_
  refine lz_ar 1 hE rfl (by decide +kernel) ?_
  refine lz_cx (idx := 86) hE (by decide +kernel) kl_12_86 fX10_leaners c1 h1 g1 rfl rfl rfl rfl (fun w h => (z_X_len (e1 w h)).trans n1.symm) rfl (fun w1' q1 => ?_)
  refine lz_am hE (by decide +kernel) ?_
  refine lz_ar 1 hE rfl (by decide +kernel) ?_
  refine lz_cm (idx := 89) hE (by decide +kernel) kl_12_89 fX11_leaners c2 h2 g2 rfl rfl rfl rfl (fun w h => (z_M_len (e2 w h)).trans n2.symm) rfl (fun w2' q2 => ?_)
  exact lz_eq (off := 271) hE (by decide +kernel) (k w1' w2' (hR w1' w2' q1 q2))
theorem lz_c18 (hE : lz_E p s m c b L xs D cI cZ r1 r2 ls i cells slots) (hz : z_R w1 w2) (k : ∀ w1' w2', z_R w1' w2' → lz_J p l e s m below meth c b D cI cZ r1 r2 ls cells slots Q 900 [] w1' w2') : lz_J p l e s m below meth c b D cI cZ r1 r2 ls cells slots Q 634 [] w1 w2 := by
  obtain ⟨d1, d2, x0, Q1, Q2, h1, h2, c1, c2, hR, e1, e2⟩ := z_storms (xs (i + 1)) (xs (i + 2)) w1 w2 hz
  obtain ⟨n1, fs1, g1⟩ := z_R1 hz
  obtain ⟨n2, fs2, g2⟩ := z_R2 hz
  refine lz_ax hE (by decide +kernel) ?_
  refine lz_ar 1 hE rfl (by decide +kernel) ?_
  refine lz_ar 2 hE rfl (by decide +kernel) ?_
  refine lz_cx (idx := 90) hE (by decide +kernel) kl_12_90 fX10_storms c1 h1 g1 rfl rfl rfl rfl (fun w h => (z_X_len (e1 w h)).trans n1.symm) rfl (fun w1' q1 => ?_)
  refine lz_am hE (by decide +kernel) ?_
  refine lz_ar 1 hE rfl (by decide +kernel) ?_
  refine lz_ar 2 hE rfl (by decide +kernel) ?_
  refine lz_cm (idx := 93) hE (by decide +kernel) kl_12_93 fX11_storms c2 h2 g2 rfl rfl rfl rfl (fun w h => (z_M_len (e2 w h)).trans n2.symm) rfl (fun w2' q2 => ?_)
  exact lz_eq (off := 238) hE (by decide +kernel) (k w1' w2' (hR w1' w2' q1 q2))
theorem lz_c19 (hE : lz_E p s m c b L xs D cI cZ r1 r2 ls i cells slots) (hz : z_R w1 w2) (k : ∀ w1' w2', z_R w1' w2' → lz_J p l e s m below meth c b D cI cZ r1 r2 ls cells slots Q 900 [] w1' w2') : lz_J p l e s m below meth c b D cI cZ r1 r2 ls cells slots Q 667 [] w1 w2 := by
  obtain ⟨d1, d2, x0, Q1, Q2, h1, h2, c1, c2, hR, e1, e2⟩ := z_see (xs (i + 1)) (xs (i + 2)) (!decide ((xs (i + 3)) = 0)) w1 w2 hz
  obtain ⟨n1, fs1, g1⟩ := z_R1 hz
  obtain ⟨n2, fs2, g2⟩ := z_R2 hz
  refine lz_ax hE (by decide +kernel) ?_
  refine lz_ar 1 hE rfl (by decide +kernel) ?_
  refine lz_ar 2 hE rfl (by decide +kernel) ?_
  refine lz_ar 3 hE rfl (by decide +kernel) ?_
  refine lz_nz hE (by decide +kernel) ?_
  refine lz_cx (idx := 94) hE (by decide +kernel) kl_12_94 fX10_see c1 h1 g1 rfl rfl rfl rfl (fun w h => (z_X_len (e1 w h)).trans n1.symm) rfl (fun w1' q1 => ?_)
  refine lz_am hE (by decide +kernel) ?_
  refine lz_ar 1 hE rfl (by decide +kernel) ?_
  refine lz_ar 2 hE rfl (by decide +kernel) ?_
  refine lz_ar 3 hE rfl (by decide +kernel) ?_
  refine lz_nz hE (by decide +kernel) ?_
  refine lz_cm (idx := 98) hE (by decide +kernel) kl_12_98 fX11_see c2 h2 g2 rfl rfl rfl rfl (fun w h => (z_M_len (e2 w h)).trans n2.symm) rfl (fun w2' q2 => ?_)
  exact lz_eq (off := 179) hE (by decide +kernel) (k w1' w2' (hR w1' w2' q1 q2))
theorem lz_c20 (hE : lz_E p s m c b L xs D cI cZ r1 r2 ls i cells slots) (hz : z_R w1 w2) (k : ∀ w1' w2', z_R w1' w2' → lz_J p l e s m below meth c b D cI cZ r1 r2 ls cells slots Q 900 [] w1' w2') : lz_J p l e s m below meth c b D cI cZ r1 r2 ls cells slots Q 726 [] w1 w2 := by
  obtain ⟨d1, d2, x0, Q1, Q2, h1, h2, c1, c2, hR, e1, e2⟩ := z_agreed (xs (i + 1)) w1 w2 hz
  obtain ⟨n1, fs1, g1⟩ := z_R1 hz
  obtain ⟨n2, fs2, g2⟩ := z_R2 hz
  refine lz_ax hE (by decide +kernel) ?_
  refine lz_ar 1 hE rfl (by decide +kernel) ?_
  refine lz_cx (idx := 99) hE (by decide +kernel) kl_12_99 fX10_agreed c1 h1 g1 rfl rfl rfl rfl (fun w h => (z_X_len (e1 w h)).trans n1.symm) rfl (fun w1' q1 => ?_)
  refine lz_am hE (by decide +kernel) ?_
  refine lz_ar 1 hE rfl (by decide +kernel) ?_
  refine lz_cm (idx := 102) hE (by decide +kernel) kl_12_102 fX11_agreed c2 h2 g2 rfl rfl rfl rfl (fun w h => (z_M_len (e2 w h)).trans n2.symm) rfl (fun w2' q2 => ?_)
  exact lz_eq (off := 156) hE (by decide +kernel) (k w1' w2' (hR w1' w2' q1 q2))
theorem lz_c21 (hE : lz_E p s m c b L xs D cI cZ r1 r2 ls i cells slots) (hz : z_R w1 w2) (k : ∀ w1' w2', z_R w1' w2' → lz_J p l e s m below meth c b D cI cZ r1 r2 ls cells slots Q 900 [] w1' w2') : lz_J p l e s m below meth c b D cI cZ r1 r2 ls cells slots Q 749 [] w1 w2 := by
  obtain ⟨d1, d2, x0, Q1, Q2, h1, h2, c1, c2, hR, e1, e2⟩ := z_lookAt (xs (i + 1)) w1 w2 hz
  obtain ⟨n1, fs1, g1⟩ := z_R1 hz
  obtain ⟨n2, fs2, g2⟩ := z_R2 hz
  refine lz_ax hE (by decide +kernel) ?_
  refine lz_ar 1 hE rfl (by decide +kernel) ?_
  refine lz_cx (idx := 103) hE (by decide +kernel) kl_12_103 fX10_lookAt c1 h1 g1 rfl rfl rfl rfl (fun w h => (z_X_len (e1 w h)).trans n1.symm) rfl (fun w1' q1 => ?_)
  refine lz_am hE (by decide +kernel) ?_
  refine lz_ar 1 hE rfl (by decide +kernel) ?_
  refine lz_cm (idx := 106) hE (by decide +kernel) kl_12_106 fX11_lookAt c2 h2 g2 rfl rfl rfl rfl (fun w h => (z_M_len (e2 w h)).trans n2.symm) rfl (fun w2' q2 => ?_)
  exact lz_eq (off := 133) hE (by decide +kernel) (k w1' w2' (hR w1' w2' q1 q2))
theorem lz_c22 (hE : lz_E p s m c b L xs D cI cZ r1 r2 ls i cells slots) (hz : z_R w1 w2) (k : ∀ w1' w2', z_R w1' w2' → lz_J p l e s m below meth c b D cI cZ r1 r2 ls cells slots Q 900 [] w1' w2') : lz_J p l e s m below meth c b D cI cZ r1 r2 ls cells slots Q 772 [] w1 w2 := by
  obtain ⟨d1, d2, x0, Q1, Q2, h1, h2, c1, c2, hR, e1, e2⟩ := z_note (xs (i + 1)) (xs (i + 2)) w1 w2 hz
  obtain ⟨n1, fs1, g1⟩ := z_R1 hz
  obtain ⟨n2, fs2, g2⟩ := z_R2 hz
  refine lz_ax hE (by decide +kernel) ?_
  refine lz_ar 1 hE rfl (by decide +kernel) ?_
  refine lz_ar 2 hE rfl (by decide +kernel) ?_
  refine lz_cx (idx := 107) hE (by decide +kernel) kl_12_107 fX10_note c1 h1 g1 rfl rfl rfl rfl (fun w h => (z_X_len (e1 w h)).trans n1.symm) rfl (fun w1' q1 => ?_)
  refine lz_am hE (by decide +kernel) ?_
  refine lz_ar 1 hE rfl (by decide +kernel) ?_
  refine lz_ar 2 hE rfl (by decide +kernel) ?_
  refine lz_cm (idx := 110) hE (by decide +kernel) kl_12_110 fX11_note c2 h2 g2 rfl rfl rfl rfl (fun w h => (z_M_len (e2 w h)).trans n2.symm) rfl (fun w2' q2 => ?_)
  exact lz_eq (off := 100) hE (by decide +kernel) (k w1' w2' (hR w1' w2' q1 q2))
theorem lz_c23 (hE : lz_E p s m c b L xs D cI cZ r1 r2 ls i cells slots) (hz : z_R w1 w2) (k : ∀ w1' w2', z_R w1' w2' → lz_J p l e s m below meth c b D cI cZ r1 r2 ls cells slots Q 900 [] w1' w2') : lz_J p l e s m below meth c b D cI cZ r1 r2 ls cells slots Q 805 [] w1 w2 := by
  obtain ⟨d1, d2, x0, Q1, Q2, h1, h2, c1, c2, hR, e1, e2⟩ := z_judge  w1 w2 hz
  obtain ⟨n1, fs1, g1⟩ := z_R1 hz
  obtain ⟨n2, fs2, g2⟩ := z_R2 hz
  refine lz_ax hE (by decide +kernel) ?_
  refine lz_cx (idx := 111) hE (by decide +kernel) kl_12_111 fX10_judge c1 h1 g1 rfl rfl rfl rfl (fun w h => (z_X_len (e1 w h)).trans n1.symm) rfl (fun w1' q1 => ?_)
  refine lz_am hE (by decide +kernel) ?_
  refine lz_cm (idx := 114) hE (by decide +kernel) kl_12_114 fX11_judge c2 h2 g2 rfl rfl rfl rfl (fun w h => (z_M_len (e2 w h)).trans n2.symm) rfl (fun w2' q2 => ?_)
  exact lz_eq (off := 87) hE (by decide +kernel) (k w1' w2' (hR w1' w2' q1 q2))
theorem lz_c24 (hE : lz_E p s m c b L xs D cI cZ r1 r2 ls i cells slots) (hz : z_R w1 w2) (k : ∀ w1' w2', z_R w1' w2' → lz_J p l e s m below meth c b D cI cZ r1 r2 ls cells slots Q 900 [] w1' w2') : lz_J p l e s m below meth c b D cI cZ r1 r2 ls cells slots Q 818 [] w1 w2 := by
  obtain ⟨d1, d2, x0, Q1, Q2, h1, h2, c1, c2, hR, e1, e2⟩ := z_tear  w1 w2 hz
  obtain ⟨n1, fs1, g1⟩ := z_R1 hz
  obtain ⟨n2, fs2, g2⟩ := z_R2 hz
  refine lz_ax hE (by decide +kernel) ?_
  refine lz_cx (idx := 115) hE (by decide +kernel) kl_12_115 fX10_tear c1 h1 g1 rfl rfl rfl rfl (fun w h => (z_X_len (e1 w h)).trans n1.symm) rfl (fun w1' q1 => ?_)
  refine lz_am hE (by decide +kernel) ?_
  refine lz_cm (idx := 118) hE (by decide +kernel) kl_12_118 fX11_tear c2 h2 g2 rfl rfl rfl rfl (fun w h => (z_M_len (e2 w h)).trans n2.symm) rfl (fun w2' q2 => ?_)
  exact lz_eq (off := 74) hE (by decide +kernel) (k w1' w2' (hR w1' w2' q1 q2))
theorem lz_c25 (hE : lz_E p s m c b L xs D cI cZ r1 r2 ls i cells slots) (hz : z_R w1 w2) (k : ∀ w1' w2', z_R w1' w2' → lz_J p l e s m below meth c b D cI cZ r1 r2 ls cells slots Q 900 [] w1' w2') : lz_J p l e s m below meth c b D cI cZ r1 r2 ls cells slots Q 831 [] w1 w2 := by
  obtain ⟨d1, d2, x0, Q1, Q2, h1, h2, c1, c2, hR, e1, e2⟩ := z_seed (xs (i + 1)) w1 w2 hz
  obtain ⟨n1, fs1, g1⟩ := z_R1 hz
  obtain ⟨n2, fs2, g2⟩ := z_R2 hz
  refine lz_ax hE (by decide +kernel) ?_
  refine lz_ar 1 hE rfl (by decide +kernel) ?_
  refine lz_cx (idx := 119) hE (by decide +kernel) kl_12_119 fX10_seed c1 h1 g1 rfl rfl rfl rfl (fun w h => (z_X_len (e1 w h)).trans n1.symm) rfl (fun w1' q1 => ?_)
  refine lz_am hE (by decide +kernel) ?_
  refine lz_ar 1 hE rfl (by decide +kernel) ?_
  refine lz_cm (idx := 122) hE (by decide +kernel) kl_12_122 fX11_seed c2 h2 g2 rfl rfl rfl rfl (fun w h => (z_M_len (e2 w h)).trans n2.symm) rfl (fun w2' q2 => ?_)
  exact lz_eq (off := 51) hE (by decide +kernel) (k w1' w2' (hR w1' w2' q1 q2))
theorem lz_c26 (hE : lz_E p s m c b L xs D cI cZ r1 r2 ls i cells slots) (hz : z_R w1 w2) (k : ∀ w1' w2', z_R w1' w2' → lz_J p l e s m below meth c b D cI cZ r1 r2 ls cells slots Q 900 [] w1' w2') : lz_J p l e s m below meth c b D cI cZ r1 r2 ls cells slots Q 854 [] w1 w2 := by
  obtain ⟨d1, d2, x0, Q1, Q2, h1, h2, c1, c2, hR, e1, e2⟩ := z_keep (xs (i + 1)) w1 w2 hz
  obtain ⟨n1, fs1, g1⟩ := z_R1 hz
  obtain ⟨n2, fs2, g2⟩ := z_R2 hz
  refine lz_ax hE (by decide +kernel) ?_
  refine lz_ar 1 hE rfl (by decide +kernel) ?_
  refine lz_cx (idx := 123) hE (by decide +kernel) kl_12_123 fX10_keep c1 h1 g1 rfl rfl rfl rfl (fun w h => (z_X_len (e1 w h)).trans n1.symm) rfl (fun w1' q1 => ?_)
  refine lz_am hE (by decide +kernel) ?_
  refine lz_ar 1 hE rfl (by decide +kernel) ?_
  refine lz_cm (idx := 126) hE (by decide +kernel) kl_12_126 fX11_keep c2 h2 g2 rfl rfl rfl rfl (fun w h => (z_M_len (e2 w h)).trans n2.symm) rfl (fun w2' q2 => ?_)
  exact lz_eq (off := 28) hE (by decide +kernel) (k w1' w2' (hR w1' w2' q1 q2))
theorem lz_c27 (hE : lz_E p s m c b L xs D cI cZ r1 r2 ls i cells slots) (hz : z_R w1 w2) (k : ∀ w1' w2', z_R w1' w2' → lz_J p l e s m below meth c b D cI cZ r1 r2 ls cells slots Q 900 [] w1' w2') : lz_J p l e s m below meth c b D cI cZ r1 r2 ls cells slots Q 877 [] w1 w2 := by
  obtain ⟨d1, d2, x0, Q1, Q2, h1, h2, c1, c2, hR, e1, e2⟩ := z_goBack (xs (i + 1)) w1 w2 hz
  obtain ⟨n1, fs1, g1⟩ := z_R1 hz
  obtain ⟨n2, fs2, g2⟩ := z_R2 hz
  refine lz_ax hE (by decide +kernel) ?_
  refine lz_ar 1 hE rfl (by decide +kernel) ?_
  refine lz_cx (idx := 127) hE (by decide +kernel) kl_12_127 fX10_goBack c1 h1 g1 rfl rfl rfl rfl (fun w h => (z_X_len (e1 w h)).trans n1.symm) rfl (fun w1' q1 => ?_)
  refine lz_am hE (by decide +kernel) ?_
  refine lz_ar 1 hE rfl (by decide +kernel) ?_
  refine lz_cm (idx := 130) hE (by decide +kernel) kl_12_130 fX11_goBack c2 h2 g2 rfl rfl rfl rfl (fun w h => (z_M_len (e2 w h)).trans n2.symm) rfl (fun w2' q2 => ?_)
  exact lz_eq (off := 5) hE (by decide +kernel) (k w1' w2' (hR w1' w2' q1 q2))
end LC
