/-! the model reads the tides -/
theorem p_tl_k (f : Nat → Int32) (len j : Nat) : ∀ (n : Nat) (s : p_TS), ¬ s.2.2.1.1 = 0 → (p_tl f len j n s).2.2.2.1 = s.2.2.1 := by
  induction j with
  | zero => intro n s _; rfl
  | succ j ih =>
    intro n s h
    by_cases e : p_nl f len s.1 = 44
    · rw [p_tl_s f len j n s e]
      have e2 : (p_tn f len n s (p_sk f len s.1 + 1)).2.2.1 = s.2.2.1 := p_rq_k h _ _ _ _ _
      rw [ih _ _ (by rw [e2]; exact h), e2]
    · rw [p_tl_e f len j n s e]
theorem p_nl_lt {f : Nat → Int32} {len a : Nat} {x : Int32} (h : p_nl f len a = x) (hx : ¬ x = -1) : p_sk f len a < len := by
  by_cases e : p_sk f len a < len
  · exact e
  · exact absurd (h.symm.trans (if_neg e)) hx
theorem m_uu (f : Nat → Int32) (i : Nat) (x y : Int32) : upd (upd f i x) i y = upd f i y := by
  funext j
  by_cases e : j = i
  · rw [e, pk_us, pk_us]
  · rw [pk_un e, pk_un e, pk_un e]
theorem m_RR_t {M : Nat → Nat → Int32} {f6 H : Nat → Int32} {T : Nat → Nat → Int32} {n : Nat} (h1 : M 5 1 = nI 0) (h2 : M 5 2 = nI 0) (hn1 : 1 ≤ n) (hn : n ≤ 12) (hf : ∀ i, i < n → f6 i = H i) (a na : Nat) (q : Int32 × Int32) : m_RR (va_up (va_up M 6 f6) 5 (upd (M 5) 0 (nI n))) false (a, na, false, q, n, 30, 0, 0, va_up T 0 H) := by
  refine ⟨⟨rfl, hn1, hn, Nat.le_refl _, Nat.zero_le _, Nat.zero_le _⟩, ⟨?_, ?_, ?_, fun z => absurd z (by decide), fun _ => rfl⟩, hf, fun c hc => absurd hc (Nat.not_lt_zero c), fun k hk => absurd hk (Nat.not_lt_zero k)⟩
  · show upd (M 5) 0 (nI n) 0 = nI n
    exact pk_us
  · show upd (M 5) 0 (nI n) 1 = nI 0
    rw [pk_un (by omega)]; exact h1
  · show upd (M 5) 0 (nI n) 2 = nI 0
    rw [pk_un (by omega)]; exact h2
theorem p_tl_z {f : Nat → Int32} {len n : Nat} {ts : p_TS} (h : n ≤ 12) (h2 : n = 12 ∨ ¬ p_nl f len ts.1 = 44) : (p_tl f len (12 - n) n ts).1 = n ∧ (p_tl f len (12 - n) n ts).2.2 = ts.2 ∧ p_sk f len (p_tl f len (12 - n) n ts).2.1 = p_sk f len ts.1 ∧ p_nl f len (p_tl f len (12 - n) n ts).2.1 = p_nl f len ts.1 := by
  by_cases e : n = 12
  · rw [e]
    exact ⟨rfl, rfl, rfl, rfl⟩
  · have h3 := h2.resolve_left e
    rw [show 12 - n = (12 - (n + 1)) + 1 by omega, p_tl_e f len _ n ts h3]
    exact ⟨rfl, rfl, p_sk_sk _ _ _, p_nl_sk _ _ _⟩
theorem bk_X11_readsTides_0_7 : rr_chk mX11_readsTides [(.aload_n 0, 0, 0, 0), (.aload_n 0, 0, 0, 0), (.getfield 29, 0, 11, 7), (.iconst 0, 0, 0, 0), (.iaload, 0, 0, 0)] 0 7 = true := by decide +kernel
theorem bk_X11_readsTides_10_15 : rr_chk mX11_readsTides [(.iconst 1, 1, 0, 0), (.goto 4, 0, 0, 0)] 10 15 = true := by decide +kernel
set_option maxRecDepth 100000 in
set_option maxHeartbeats 4000000 in
theorem m_readsTidesF (len : Nat) (fa : Int32) (dd : Nat) (sd : Int32) (sg es : Nat) (M : Nat → Nat → Int32) (s : p_RS) (hlen : len ≤ 240) (hs : s.1 < len) (hq0 : s.2.2.2.1.1 = 0) (hR : m_RR M s.2.2.1 s) : rr_CP mX11_readsTides 3 [.ref 0] (W_M (mv len fa s.2.2.1 dd sd sg es s.1 0) M) 0 0 (fun r w' => r = none ∧ m_RP len fa dd sd sg es M (p_pf 3 s) w') := by
  refine rr_CP.of (n := 0) fX11_readsTides.1 rfl rfl (fun Z hC => ?_)
  show rr_J Z 1 0 0 (rr_MP Z 0 0 (fun r w' => r = none ∧ m_RP len fa dd sd sg es M (p_pf 3 s) w')) 0 [(0, .ref 0)] [] (W_M (mv len fa s.2.2.1 dd sd sg es s.1 0) M)
  have hcc9 := hR.1.2.2.2.2.1
  have hkc6 := hR.1.2.2.2.2.2
  have htc12 := hR.1.2.2.1
  refine rr_go hC bk_X11_readsTides_0_7 (l' := [(0, .ref 0)]) (st' := [.int (M 5 0), .ref 0]) (w' := (W_M (mv len fa s.2.2.1 dd sd sg es s.1 0) M)) rfl ?_
  rw [show (M 5 0 : Int32) = nI s.2.2.2.2.1 from hR.2.1.1]
  refine rr_if_le hC (off := 7) (tgt := 14) (by decide +kernel) (fun h7 => by rw [rr_nl_le (b := 0) (by omega) (by omega)] at h7; have := hR.1.2.1; omega) (fun h7 => ?_)
  rw [rr_nl_le (b := 0) (by omega) (by omega)] at h7
  refine rr_go hC bk_X11_readsTides_10_15 (l' := [(0, .ref 0)]) (st' := [.int 1, .ref 0]) (w' := (W_M (mv len fa s.2.2.1 dd sd sg es s.1 0) M)) rfl ?_
  refine rr_callVI hC (by decide +kernel) kl_11_104 fX11_opens (m_opensF len fa s.2.2.1 dd sd sg es s.1 0 M (by omega) (by omega)) rfl rfl rfl rfl rfl (rest := []) rfl rfl ⟨Nat.zero_le _, Nat.zero_le _⟩ (Eq.refl 22) ?_
  show rr_J Z 1 0 0 _ 18 [(0, .ref 0)] [.int (rr_b false)] (W_M (mv len fa s.2.2.1 dd sd sg es s.1 (if (0 : Int32) = 0 then 3 else 0)) M)
  refine rr_cast (l' := [(0, .ref 0)]) rfl (st' := [.int (rr_b false)]) rfl (w' := (W_M (mv len fa s.2.2.1 dd sd sg es s.1 3) M)) (by rw [if_pos rfl]) ?_
  refine rr_eqb hC (off := 113) (tgt := 131) (by decide +kernel) (fun h18 => ?_) (fun h18 => by  cases h18)
  exact rr_retvP hC (by decide +kernel) (by have hQ : (p_pf 3 s).2.2.2.1 = (3, nI s.1) := p_fl_0 hq0 _ _; exact ⟨rfl, s.2.2.1, s.1, 3, M, rfl, by omega, fun i hi => by rfl, Or.inr ⟨by rw [hQ]; exact (show ¬ (3 : Int32) = 0 from by decide), by rw [hQ], by rw [hQ]⟩⟩) ⟨Nat.zero_le _, Nat.zero_le _⟩
theorem bk_X11_readsTides_14_15 : rr_chk mX11_readsTides [(.iconst 0, 0, 0, 0)] 14 15 = true := by decide +kernel
theorem bk_X11_readsTides_21_30 : rr_chk mX11_readsTides [(.aload_n 0, 0, 0, 0), (.getfield 32, 0, 11, 8), (.iconst 0, 0, 0, 0), (.aload_n 0, 0, 0, 0), (.iconst 0, 0, 0, 0), (.bipush 19, 19, 0, 0)] 21 30 = true := by decide +kernel
theorem bk_X11_readsTides_33_42 : rr_chk mX11_readsTides [(.iastore, 0, 0, 0), (.aload_n 0, 0, 0, 0), (.getfield 29, 0, 11, 7), (.iconst 0, 0, 0, 0), (.iconst 1, 1, 0, 0), (.iastore, 0, 0, 0), (.aload_n 0, 0, 0, 0)] 33 42 = true := by decide +kernel
theorem bk_X11_readsTides_45_49 : rr_chk mX11_readsTides [(.aload_n 0, 0, 0, 0), (.getfield 90, 0, 11, 25)] 45 49 = true := by decide +kernel
theorem bk_X11_readsTides_52_53 : rr_chk mX11_readsTides [(.aload_n 0, 0, 0, 0)] 52 53 = true := by decide +kernel
theorem bk_X11_readsTides_56_58 : rr_chk mX11_readsTides [(.bipush 44, 44, 0, 0)] 56 58 = true := by decide +kernel
theorem bk_X11_readsTides_125_128 : rr_chk mX11_readsTides [(.aload_n 0, 0, 0, 0), (.bipush 59, 59, 0, 0)] 125 128 = true := by decide +kernel
theorem bk_X11_readsTides_61_67 : rr_chk mX11_readsTides [(.aload_n 0, 0, 0, 0), (.getfield 29, 0, 11, 7), (.iconst 0, 0, 0, 0), (.iaload, 0, 0, 0)] 61 67 = true := by decide +kernel
theorem bk_X11_readsTides_67_69 : rr_chk mX11_readsTides [(.bipush 12, 12, 0, 0)] 67 69 = true := by decide +kernel
theorem bk_X11_readsTides_72_74 : rr_chk mX11_readsTides [(.aload_n 0, 0, 0, 0), (.iconst 1, 1, 0, 0)] 72 74 = true := by decide +kernel
theorem bk_X11_readsTides_77_119 : rr_chk mX11_readsTides [(.goto 41, 0, 0, 0), (.aload_n 0, 0, 0, 0)] 77 119 = true := by decide +kernel
theorem bk_X11_readsTides_122_45 : rr_chk mX11_readsTides [(.goto (-77), 0, 0, 0)] 122 45 = true := by decide +kernel
theorem bk_X11_readsTides_80_100 : rr_chk mX11_readsTides [(.aload_n 0, 0, 0, 0), (.dup, 0, 0, 0), (.getfield 87, 0, 11, 24), (.iconst 1, 1, 0, 0), (.iadd, 0, 0, 0), (.putfield 87, 0, 11, 24), (.aload_n 0, 0, 0, 0), (.getfield 32, 0, 11, 8), (.aload_n 0, 0, 0, 0), (.getfield 29, 0, 11, 7), (.iconst 0, 0, 0, 0), (.iaload, 0, 0, 0)] 80 100 = true := by decide +kernel
theorem bk_X11_readsTides_100_104 : rr_chk mX11_readsTides [(.aload_n 0, 0, 0, 0), (.iconst 0, 0, 0, 0), (.bipush 19, 19, 0, 0)] 100 104 = true := by decide +kernel
theorem bk_X11_readsTides_108_115 : rr_chk mX11_readsTides [(.aload_n 0, 0, 0, 0), (.getfield 29, 0, 11, 7), (.iconst 0, 0, 0, 0), (.dup2, 0, 0, 0), (.iaload, 0, 0, 0)] 108 115 = true := by decide +kernel
theorem bk_X11_readsTides_115_119 : rr_chk mX11_readsTides [(.iconst 1, 1, 0, 0), (.iadd, 0, 0, 0), (.iastore, 0, 0, 0), (.aload_n 0, 0, 0, 0)] 115 119 = true := by decide +kernel
set_option maxRecDepth 100000 in
set_option maxHeartbeats 4000000 in
theorem m_readsTides (len : Nat) (fa : Int32) (dd : Nat) (sd : Int32) (sg es : Nat) (M : Nat → Nat → Int32) (s : p_RS) (hlen : len ≤ 240) (hs : s.1 < len) (hsk : p_sk (M 0) len s.1 = s.1) (h116 : p_nl (M 0) len s.1 = 116) (hq0 : s.2.2.2.1.1 = 0) (hwt : s.2.2.1 = false) (hc0 : s.2.2.2.2.2.2.1 = 0) (hk0 : s.2.2.2.2.2.2.2.1 = 0) (m50 : M 5 0 = nI 0) (m51 : M 5 1 = nI 0) (m52 : M 5 2 = nI 0) : rr_CP mX11_readsTides 3 [.ref 0] (W_M (mv len fa s.2.2.1 dd sd sg es s.1 0) M) 0 0 (fun r w' => r = none ∧ m_RP len fa dd sd sg es M (p_pt (M 0) len s) w') := by
  refine rr_CP.of (n := 0) fX11_readsTides.1 rfl rfl (fun Z hC => ?_)
  show rr_J Z 1 0 0 (rr_MP Z 0 0 (fun r w' => r = none ∧ m_RP len fa dd sd sg es M (p_pt (M 0) len s) w')) 0 [(0, .ref 0)] [] (W_M (mv len fa s.2.2.1 dd sd sg es s.1 0) M)
  have hS : p_pt (M 0) len s = (p_sk (M 0) len (p_tX (M 0) len s).2.1 + 1, (p_tX (M 0) len s).2.2.1, s.2.2.1, p_eq' (M 0) len (p_tX (M 0) len s).2.1 (p_tX (M 0) len s).2.2.2.1, (p_tX (M 0) len s).1, 30, s.2.2.2.2.2.2.1, s.2.2.2.2.2.2.2.1, va_up s.2.2.2.2.2.2.2.2 0 (p_tX (M 0) len s).2.2.2.2) := if_pos h116
  have hX0 : (p_tX (M 0) len s) = p_tl (M 0) len 11 1 (p_tn (M 0) len 0 (s.1, s.2.1, s.2.2.2.1, s.2.2.2.2.2.2.2.2 0) (s.1 + 1)) := by unfold p_tX; rw [hsk]
  obtain ⟨X, hXe⟩ : ∃ z, z = (p_tX (M 0) len s) := ⟨_, rfl⟩
  rw [← hXe] at hS hX0
  rw [hwt, hc0, hk0] at hS
  have hQ0 : (p_pt (M 0) len s).2.2.2.1 = p_eq' (M 0) len X.2.1 X.2.2.2.1 := by rw [hS]
  refine rr_cast (l' := [(0, .ref 0)]) rfl (st' := []) rfl (w' := (W_M (mv len fa false dd sd sg es s.1 0) M)) (by rw [hwt]) ?_
  refine rr_go hC bk_X11_readsTides_0_7 (l' := [(0, .ref 0)]) (st' := [.int (M 5 0), .ref 0]) (w' := (W_M (mv len fa false dd sd sg es s.1 0) M)) rfl ?_
  rw [m50]
  refine rr_if_le hC (off := 7) (tgt := 14) (by decide +kernel) (fun h7 => ?_) (fun h7 => by rw [rr_nl_le (b := 0) (by omega) (by omega)] at h7; omega)
  rw [rr_nl_le (b := 0) (by omega) (by omega)] at h7
  refine rr_go hC bk_X11_readsTides_14_15 (l' := [(0, .ref 0)]) (st' := [.int 0, .ref 0]) (w' := (W_M (mv len fa false dd sd sg es s.1 0) M)) rfl ?_
  refine rr_callVI hC (by decide +kernel) kl_11_104 fX11_opens (m_opens len fa false dd sd sg es s.1 0 M (by omega) (by omega)) rfl rfl rfl rfl rfl (rest := []) rfl rfl ⟨Nat.zero_le _, Nat.zero_le _⟩ (Eq.refl 22) ?_
  show rr_J Z 1 0 0 _ 18 [(0, .ref 0)] [.int (rr_b true)] (W_M (mv len fa false dd sd sg es (s.1 + 1) 0) M)
  refine rr_eqb hC (off := 113) (tgt := 131) (by decide +kernel) (fun h18 => by  cases h18) (fun h18 => ?_)
  refine rr_go hC bk_X11_readsTides_21_30 (l' := [(0, .ref 0)]) (st' := [.int 19, .int 0, .ref 0, .int 0, .ref 7]) (w' := (W_M (mv len fa false dd sd sg es (s.1 + 1) 0) M)) rfl ?_
  by_cases hb30 : p_bad (M 0) len (s.1 + 1) 0 19 = 0
  · refine rr_callVI hC (by decide +kernel) kl_11_108 fX11_number (m_numberG len fa false dd sd sg es (s.1 + 1) M 0 19 (by omega) (by omega) (by exact hb30)) rfl rfl rfl rfl rfl (rest := [.int 0, .ref 7]) rfl rfl ⟨Nat.zero_le _, Nat.zero_le _⟩ (Eq.refl 22) ?_
    show rr_J Z 1 0 0 _ 33 [(0, .ref 0)] [.int (p_rv (M 0) len (s.1 + 1) 0 19), .int 0, .ref 7] (W_M (mv len fa false dd sd sg es (p_rat (M 0) len (s.1 + 1)) 0) M)
    obtain ⟨a30, ha30⟩ : ∃ z, z = p_rat (M 0) len (s.1 + 1) := ⟨_, rfl⟩
    obtain ⟨v30, hv30⟩ : ∃ z, z = p_rv (M 0) len (s.1 + 1) 0 19 := ⟨_, rfl⟩
    refine rr_cast (l' := [(0, .ref 0)]) rfl (st' := [.int v30, .int 0, .ref 7]) (by rw [hv30]) (w' := (W_M (mv len fa false dd sd sg es a30 0) M)) (by rw [ha30]) ?_
    have hal30 : a30 ≤ max (s.1 + 1) len := by rw [ha30]; exact p_rat_le (M 0) len (s.1 + 1)
    refine rr_go hC bk_X11_readsTides_33_42 (l' := [(0, .ref 0)]) (st' := [.ref 0]) (w' := (W_M (mv len fa false dd sd sg es a30 0) (va_up (va_up M 6 (upd (M 6) 0 v30)) 5 (upd (M 5) 0 1)))) rfl ?_
    refine rr_callVI hC (by decide +kernel) kl_11_97 fX11_skips (m_skips len fa false dd sd sg es a30 (va_up (va_up M 6 (upd (M 6) 0 v30)) 5 (upd (M 5) 0 1)) (by omega) (by omega)) rfl rfl rfl rfl rfl (rest := []) rfl rfl ⟨Nat.zero_le _, Nat.zero_le _⟩ (Eq.refl 22) ?_
    show rr_J Z 1 0 0 _ 45 [(0, .ref 0)] [] (W_M (mv len fa false dd sd sg es (p_sk (M 0) len a30) 0) (va_up (va_up M 6 (upd (M 6) 0 v30)) 5 (upd (M 5) 0 1)))
    obtain ⟨k42, hk42⟩ : ∃ z, z = p_sk (M 0) len a30 := ⟨_, rfl⟩
    refine rr_cast (l' := [(0, .ref 0)]) rfl (st' := []) (by rfl) (w' := (W_M (mv len fa false dd sd sg es k42 0) (va_up (va_up M 6 (upd (M 6) 0 v30)) 5 (upd (M 5) 0 1)))) (by rw [hk42]) ?_
    have hkl42 : k42 ≤ max a30 len := by rw [hk42]; exact p_sk_le (M 0) len a30
    have hq0s : (p_tn (M 0) len 0 (s.1, s.2.1, s.2.2.2.1, s.2.2.2.2.2.2.2.2 0) (s.1 + 1)).2.2.1.1 = 0 := by show (p_rq _ _ _ _ _ _).1 = 0; rw [p_rq_g hb30]; exact hq0
    have hf0 : ∀ i, i < 1 → upd (M 6) 0 v30 i = (p_tn (M 0) len 0 (s.1, s.2.1, s.2.2.2.1, s.2.2.2.2.2.2.2.2 0) (s.1 + 1)).2.2.2 i := by intro i hi; show _ = upd (s.2.2.2.2.2.2.2.2 0) 0 (p_rv (M 0) len (s.1 + 1) 0 19) i; rw [← hv30, show i = 0 by omega, pk_us, pk_us]
    have hts0 : (p_tn (M 0) len 0 (s.1, s.2.1, s.2.2.2.1, s.2.2.2.2.2.2.2.2 0) (s.1 + 1)).1 ≤ 245 := by show p_rat (M 0) len (s.1 + 1) ≤ 245; rw [← ha30]; omega
    have lp45 : ∀ (j n : Nat), n + j = 12 → 1 ≤ n → ∀ (ts : p_TS) (f6 : Nat → Int32), ts.2.2.1.1 = 0 → X = p_tl (M 0) len (12 - n) n ts → (∀ i, i < n → f6 i = ts.2.2.2 i) → ts.1 ≤ 245 → rr_J Z 1 0 0 (rr_MP Z 0 0 (fun r w' => r = none ∧ m_RP len fa dd sd sg es M (p_pt (M 0) len s) w')) 45 [(0, .ref 0)] [] (W_M (mv len fa false dd sd sg es (p_sk (M 0) len ts.1) 0) (va_up (va_up M 6 f6) 5 (upd (M 5) 0 (nI n)))) := by
      intro j
      induction j with
      | zero =>
        intro n hk45 hlo45 ts f6 hq hX hf hts
        have hskl := p_sk_le (M 0) len ts.1
        refine rr_go hC bk_X11_readsTides_45_49 (l' := [(0, .ref 0)]) (st' := [.int 0]) (w' := (W_M (mv len fa false dd sd sg es (p_sk (M 0) len ts.1) 0) (va_up (va_up M 6 f6) 5 (upd (M 5) 0 (nI n))))) rfl ?_
        refine rr_if_ne hC (off := 76) (tgt := 125) (by decide +kernel) (fun h49 => by  exact absurd rfl h49) (fun h49 => ?_)
        refine rr_go hC bk_X11_readsTides_52_53 (l' := [(0, .ref 0)]) (st' := [.ref 0]) (w' := (W_M (mv len fa false dd sd sg es (p_sk (M 0) len ts.1) 0) (va_up (va_up M 6 f6) 5 (upd (M 5) 0 (nI n))))) rfl ?_
        refine rr_callVI hC (by decide +kernel) kl_11_93 fX11_look (m_look len fa false dd sd sg es (p_sk (M 0) len ts.1) 0 (va_up (va_up M 6 f6) 5 (upd (M 5) 0 (nI n))) (by omega) (by omega)) rfl rfl rfl rfl rfl (rest := []) rfl rfl ⟨Nat.zero_le _, Nat.zero_le _⟩ (Eq.refl 22) ?_
        show rr_J Z 1 0 0 _ 56 [(0, .ref 0)] [.int (m_lk (M 0) len (p_sk (M 0) len ts.1))] (W_M (mv len fa false dd sd sg es (p_sk (M 0) len ts.1) 0) (va_up (va_up M 6 f6) 5 (upd (M 5) 0 (nI n))))
        refine rr_go hC bk_X11_readsTides_56_58 (l' := [(0, .ref 0)]) (st' := [.int 44, .int (m_lk (M 0) len (p_sk (M 0) len ts.1))]) (w' := (W_M (mv len fa false dd sd sg es (p_sk (M 0) len ts.1) 0) (va_up (va_up M 6 f6) 5 (upd (M 5) 0 (nI n))))) rfl ?_
        refine rr_icmp_ne hC (off := 67) (tgt := 125) (by decide +kernel) (fun h58 => ?_) (fun h58 => ?_)
        · have h44 : ¬ p_nl (M 0) len ts.1 = 44 := h58
          refine rr_go hC bk_X11_readsTides_125_128 (l' := [(0, .ref 0)]) (st' := [.int 59, .ref 0]) (w' := (W_M (mv len fa false dd sd sg es (p_sk (M 0) len ts.1) 0) (va_up (va_up M 6 f6) 5 (upd (M 5) 0 (nI n))))) rfl ?_
          by_cases hn128 : p_nl (M 0) len (p_sk (M 0) len ts.1) = 59
          · refine rr_callVI hC (by decide +kernel) kl_11_112 fX11_word (m_wordY len fa false dd sd sg es (p_sk (M 0) len ts.1) (va_up (va_up M 6 f6) 5 (upd (M 5) 0 (nI n))) 59 (by omega) (by omega) (by exact hn128)) rfl rfl rfl rfl rfl (rest := []) rfl rfl ⟨Nat.zero_le _, Nat.zero_le _⟩ (Eq.refl 22) ?_
            show rr_J Z 1 0 0 _ 131 [(0, .ref 0)] [] (W_M (mv len fa false dd sd sg es (p_sk (M 0) len (p_sk (M 0) len ts.1) + 1) 0) (va_up (va_up M 6 f6) 5 (upd (M 5) 0 (nI n))))
            obtain ⟨e128, he128⟩ : ∃ z, z = p_sk (M 0) len (p_sk (M 0) len ts.1) := ⟨_, rfl⟩
            refine rr_cast (l' := [(0, .ref 0)]) rfl (st' := []) (by rfl) (w' := (W_M (mv len fa false dd sd sg es (e128 + 1) 0) (va_up (va_up M 6 f6) 5 (upd (M 5) 0 (nI n))))) (by rw [he128]) ?_
            have hel128 : e128 ≤ max (p_sk (M 0) len ts.1) len := by rw [he128]; exact p_sk_le (M 0) len (p_sk (M 0) len ts.1)
            exact rr_retvP hC (by decide +kernel) (by obtain ⟨x1, x2, x3, x4⟩ := p_tl_z (f := M 0) (len := len) (n := n) (ts := ts) (by omega) (Or.inr h44); rw [← hX] at x1 x2 x3 x4; have hXq : X.2.2.2.1 = ts.2.2.1 := (by rw [x2]); have hQ : (p_pt (M 0) len s).2.2.2.1 = ts.2.2.1 := (by rw [hQ0, p_eq_g (by rw [x4, ← p_nl_sk]; exact hn128), hXq]); exact ⟨rfl, false, (e128 + 1), 0, (va_up (va_up M 6 f6) 5 (upd (M 5) 0 (nI n))), rfl, by omega, fun i hi => by unfold va_up; rw [if_neg (by omega), if_neg (by omega)], Or.inl ⟨by rw [hQ]; exact hq, rfl, by rw [hS]; show _ = p_sk (M 0) len X.2.1 + 1; rw [x3, he128, p_sk_sk], by rw [hS, x1]; exact m_RR_t m51 m52 (by omega) (by omega) (by rw [show X.2.2.2.2 = ts.2.2.2 from by rw [x2]]; exact hf) _ _ _⟩⟩) ⟨Nat.zero_le _, Nat.zero_le _⟩
          · refine rr_callVI hC (by decide +kernel) kl_11_112 fX11_word (m_wordN len fa false dd sd sg es (p_sk (M 0) len ts.1) (va_up (va_up M 6 f6) 5 (upd (M 5) 0 (nI n))) 59 (by omega) (by omega) (by exact hn128)) rfl rfl rfl rfl rfl (rest := []) rfl rfl ⟨Nat.zero_le _, Nat.zero_le _⟩ (Eq.refl 22) ?_
            show rr_J Z 1 0 0 _ 131 [(0, .ref 0)] [] (W_M (mv len fa false dd sd sg es (p_sk (M 0) len (p_sk (M 0) len ts.1)) 1) (va_up (va_up M 6 f6) 5 (upd (M 5) 0 (nI n))))
            obtain ⟨e128, he128⟩ : ∃ z, z = p_sk (M 0) len (p_sk (M 0) len ts.1) := ⟨_, rfl⟩
            refine rr_cast (l' := [(0, .ref 0)]) rfl (st' := []) (by rfl) (w' := (W_M (mv len fa false dd sd sg es e128 1) (va_up (va_up M 6 f6) 5 (upd (M 5) 0 (nI n))))) (by rw [he128]) ?_
            have hel128 : e128 ≤ max (p_sk (M 0) len ts.1) len := by rw [he128]; exact p_sk_le (M 0) len (p_sk (M 0) len ts.1)
            exact rr_retvP hC (by decide +kernel) (by obtain ⟨x1, x2, x3, x4⟩ := p_tl_z (f := M 0) (len := len) (n := n) (ts := ts) (by omega) (Or.inr h44); rw [← hX] at x1 x2 x3 x4; have hXq : X.2.2.2.1 = ts.2.2.1 := (by rw [x2]); have hQ : (p_pt (M 0) len s).2.2.2.1 = (1, nI e128) := (by rw [hQ0, p_eq_b (by rw [x4, ← p_nl_sk]; exact hn128) (by rw [hXq]; exact hq), x3, he128, p_sk_sk]); exact ⟨rfl, false, e128, 1, (va_up (va_up M 6 f6) 5 (upd (M 5) 0 (nI n))), rfl, by omega, fun i hi => by unfold va_up; rw [if_neg (by omega), if_neg (by omega)], Or.inr ⟨by rw [hQ]; exact (show ¬ (1 : Int32) = 0 from by decide), by rw [hQ], by rw [hQ]⟩⟩) ⟨Nat.zero_le _, Nat.zero_le _⟩
        · have h44 : p_nl (M 0) len ts.1 = 44 := h58
          have hlt44 := p_nl_lt h44 (by decide)
          refine rr_go hC bk_X11_readsTides_61_67 (l' := [(0, .ref 0)]) (st' := [.int ((upd (M 5) 0 (nI n)) 0)]) (w' := (W_M (mv len fa false dd sd sg es (p_sk (M 0) len ts.1) 0) (va_up (va_up M 6 f6) 5 (upd (M 5) 0 (nI n))))) rfl ?_
          rw [pk_us]
          refine rr_go hC bk_X11_readsTides_67_69 (l' := [(0, .ref 0)]) (st' := [.int 12, .int (nI n)]) (w' := (W_M (mv len fa false dd sd sg es (p_sk (M 0) len ts.1) 0) (va_up (va_up M 6 f6) 5 (upd (M 5) 0 (nI n))))) rfl ?_
          refine rr_icmp_ne hC (off := 11) (tgt := 80) (by decide +kernel) (fun h69 => by rw [rr_nl_eq (b := 12) (by omega) (by omega)] at h69; omega) (fun h69 => ?_)
          rw [rr_nl_eq (b := 12) (by omega) (by omega)] at h69
          refine rr_go hC bk_X11_readsTides_72_74 (l' := [(0, .ref 0)]) (st' := [.int 1, .ref 0]) (w' := (W_M (mv len fa false dd sd sg es (p_sk (M 0) len ts.1) 0) (va_up (va_up M 6 f6) 5 (upd (M 5) 0 (nI n))))) rfl ?_
          refine rr_callVI hC (by decide +kernel) kl_11_100 fX11_fails (m_fails len fa false dd sd sg es (p_sk (M 0) len ts.1) 0 (va_up (va_up M 6 f6) 5 (upd (M 5) 0 (nI n))) 1) rfl rfl rfl rfl rfl (rest := []) rfl rfl ⟨Nat.zero_le _, Nat.zero_le _⟩ (Eq.refl 22) ?_
          show rr_J Z 1 0 0 _ 77 [(0, .ref 0)] [] (W_M (mv len fa false dd sd sg es (p_sk (M 0) len ts.1) (if (0 : Int32) = 0 then 1 else 0)) (va_up (va_up M 6 f6) 5 (upd (M 5) 0 (nI n))))
          refine rr_cast (l' := [(0, .ref 0)]) rfl (st' := []) rfl (w' := (W_M (mv len fa false dd sd sg es (p_sk (M 0) len ts.1) 1) (va_up (va_up M 6 f6) 5 (upd (M 5) 0 (nI n))))) (by rw [if_pos rfl]) ?_
          refine rr_go hC bk_X11_readsTides_77_119 (l' := [(0, .ref 0)]) (st' := [.ref 0]) (w' := (W_M (mv len fa false dd sd sg es (p_sk (M 0) len ts.1) 1) (va_up (va_up M 6 f6) 5 (upd (M 5) 0 (nI n))))) rfl ?_
          refine rr_callVI hC (by decide +kernel) kl_11_97 fX11_skips (m_skipsW len fa false dd sd sg es (p_sk (M 0) len ts.1) 1 (va_up (va_up M 6 f6) 5 (upd (M 5) 0 (nI n))) (by omega) (by omega) (by decide)) rfl rfl rfl rfl rfl (rest := []) rfl rfl ⟨Nat.zero_le _, Nat.zero_le _⟩ (Eq.refl 22) ?_
          show rr_J Z 1 0 0 _ 122 [(0, .ref 0)] [] (W_M (mv len fa false dd sd sg es (p_sk (M 0) len ts.1) 1) (va_up (va_up M 6 f6) 5 (upd (M 5) 0 (nI n))))
          refine rr_go hC bk_X11_readsTides_122_45 (l' := [(0, .ref 0)]) (st' := []) (w' := (W_M (mv len fa false dd sd sg es (p_sk (M 0) len ts.1) 1) (va_up (va_up M 6 f6) 5 (upd (M 5) 0 (nI n))))) rfl ?_
          refine rr_go hC bk_X11_readsTides_45_49 (l' := [(0, .ref 0)]) (st' := [.int 1]) (w' := (W_M (mv len fa false dd sd sg es (p_sk (M 0) len ts.1) 1) (va_up (va_up M 6 f6) 5 (upd (M 5) 0 (nI n))))) rfl ?_
          refine rr_if_ne hC (off := 76) (tgt := 125) (by decide +kernel) (fun h49 => ?_) (fun h49 => by  exact absurd h49 (by decide))
          refine rr_go hC bk_X11_readsTides_125_128 (l' := [(0, .ref 0)]) (st' := [.int 59, .ref 0]) (w' := (W_M (mv len fa false dd sd sg es (p_sk (M 0) len ts.1) 1) (va_up (va_up M 6 f6) 5 (upd (M 5) 0 (nI n))))) rfl ?_
          refine rr_callVI hC (by decide +kernel) kl_11_112 fX11_word (m_wordW len fa false dd sd sg es (p_sk (M 0) len ts.1) 1 (va_up (va_up M 6 f6) 5 (upd (M 5) 0 (nI n))) 59 (by omega) (by omega) (by decide)) rfl rfl rfl rfl rfl (rest := []) rfl rfl ⟨Nat.zero_le _, Nat.zero_le _⟩ (Eq.refl 22) ?_
          show rr_J Z 1 0 0 _ 131 [(0, .ref 0)] [] (W_M (mv len fa false dd sd sg es (p_sk (M 0) len ts.1) 1) (va_up (va_up M 6 f6) 5 (upd (M 5) 0 (nI n))))
          exact rr_retvP hC (by decide +kernel) (by obtain ⟨x1, x2, x3, x4⟩ := p_tl_z (f := M 0) (len := len) (n := n) (ts := ts) (by omega) (Or.inl (by omega)); rw [← hX] at x1 x2 x3 x4; have hXq : X.2.2.2.1 = ts.2.2.1 := (by rw [x2]); have hQ : (p_pt (M 0) len s).2.2.2.1 = (1, nI (p_sk (M 0) len ts.1)) := (by rw [hQ0, p_eq_b (by rw [x4, h44]; decide) (by rw [hXq]; exact hq), x3]); exact ⟨rfl, false, (p_sk (M 0) len ts.1), 1, (va_up (va_up M 6 f6) 5 (upd (M 5) 0 (nI n))), rfl, by omega, fun i hi => by unfold va_up; rw [if_neg (by omega), if_neg (by omega)], Or.inr ⟨by rw [hQ]; exact (show ¬ (1 : Int32) = 0 from by decide), by rw [hQ], by rw [hQ]⟩⟩) ⟨Nat.zero_le _, Nat.zero_le _⟩
      | succ j ih =>
        intro n hk45 hlo45 ts f6 hq hX hf hts
        have hskl := p_sk_le (M 0) len ts.1
        refine rr_go hC bk_X11_readsTides_45_49 (l' := [(0, .ref 0)]) (st' := [.int 0]) (w' := (W_M (mv len fa false dd sd sg es (p_sk (M 0) len ts.1) 0) (va_up (va_up M 6 f6) 5 (upd (M 5) 0 (nI n))))) rfl ?_
        refine rr_if_ne hC (off := 76) (tgt := 125) (by decide +kernel) (fun h49 => by  exact absurd rfl h49) (fun h49 => ?_)
        refine rr_go hC bk_X11_readsTides_52_53 (l' := [(0, .ref 0)]) (st' := [.ref 0]) (w' := (W_M (mv len fa false dd sd sg es (p_sk (M 0) len ts.1) 0) (va_up (va_up M 6 f6) 5 (upd (M 5) 0 (nI n))))) rfl ?_
        refine rr_callVI hC (by decide +kernel) kl_11_93 fX11_look (m_look len fa false dd sd sg es (p_sk (M 0) len ts.1) 0 (va_up (va_up M 6 f6) 5 (upd (M 5) 0 (nI n))) (by omega) (by omega)) rfl rfl rfl rfl rfl (rest := []) rfl rfl ⟨Nat.zero_le _, Nat.zero_le _⟩ (Eq.refl 22) ?_
        show rr_J Z 1 0 0 _ 56 [(0, .ref 0)] [.int (m_lk (M 0) len (p_sk (M 0) len ts.1))] (W_M (mv len fa false dd sd sg es (p_sk (M 0) len ts.1) 0) (va_up (va_up M 6 f6) 5 (upd (M 5) 0 (nI n))))
        refine rr_go hC bk_X11_readsTides_56_58 (l' := [(0, .ref 0)]) (st' := [.int 44, .int (m_lk (M 0) len (p_sk (M 0) len ts.1))]) (w' := (W_M (mv len fa false dd sd sg es (p_sk (M 0) len ts.1) 0) (va_up (va_up M 6 f6) 5 (upd (M 5) 0 (nI n))))) rfl ?_
        refine rr_icmp_ne hC (off := 67) (tgt := 125) (by decide +kernel) (fun h58 => ?_) (fun h58 => ?_)
        · have h44 : ¬ p_nl (M 0) len ts.1 = 44 := h58
          refine rr_go hC bk_X11_readsTides_125_128 (l' := [(0, .ref 0)]) (st' := [.int 59, .ref 0]) (w' := (W_M (mv len fa false dd sd sg es (p_sk (M 0) len ts.1) 0) (va_up (va_up M 6 f6) 5 (upd (M 5) 0 (nI n))))) rfl ?_
          by_cases hn128 : p_nl (M 0) len (p_sk (M 0) len ts.1) = 59
          · refine rr_callVI hC (by decide +kernel) kl_11_112 fX11_word (m_wordY len fa false dd sd sg es (p_sk (M 0) len ts.1) (va_up (va_up M 6 f6) 5 (upd (M 5) 0 (nI n))) 59 (by omega) (by omega) (by exact hn128)) rfl rfl rfl rfl rfl (rest := []) rfl rfl ⟨Nat.zero_le _, Nat.zero_le _⟩ (Eq.refl 22) ?_
            show rr_J Z 1 0 0 _ 131 [(0, .ref 0)] [] (W_M (mv len fa false dd sd sg es (p_sk (M 0) len (p_sk (M 0) len ts.1) + 1) 0) (va_up (va_up M 6 f6) 5 (upd (M 5) 0 (nI n))))
            obtain ⟨e128, he128⟩ : ∃ z, z = p_sk (M 0) len (p_sk (M 0) len ts.1) := ⟨_, rfl⟩
            refine rr_cast (l' := [(0, .ref 0)]) rfl (st' := []) (by rfl) (w' := (W_M (mv len fa false dd sd sg es (e128 + 1) 0) (va_up (va_up M 6 f6) 5 (upd (M 5) 0 (nI n))))) (by rw [he128]) ?_
            have hel128 : e128 ≤ max (p_sk (M 0) len ts.1) len := by rw [he128]; exact p_sk_le (M 0) len (p_sk (M 0) len ts.1)
            exact rr_retvP hC (by decide +kernel) (by obtain ⟨x1, x2, x3, x4⟩ := p_tl_z (f := M 0) (len := len) (n := n) (ts := ts) (by omega) (Or.inr h44); rw [← hX] at x1 x2 x3 x4; have hXq : X.2.2.2.1 = ts.2.2.1 := (by rw [x2]); have hQ : (p_pt (M 0) len s).2.2.2.1 = ts.2.2.1 := (by rw [hQ0, p_eq_g (by rw [x4, ← p_nl_sk]; exact hn128), hXq]); exact ⟨rfl, false, (e128 + 1), 0, (va_up (va_up M 6 f6) 5 (upd (M 5) 0 (nI n))), rfl, by omega, fun i hi => by unfold va_up; rw [if_neg (by omega), if_neg (by omega)], Or.inl ⟨by rw [hQ]; exact hq, rfl, by rw [hS]; show _ = p_sk (M 0) len X.2.1 + 1; rw [x3, he128, p_sk_sk], by rw [hS, x1]; exact m_RR_t m51 m52 (by omega) (by omega) (by rw [show X.2.2.2.2 = ts.2.2.2 from by rw [x2]]; exact hf) _ _ _⟩⟩) ⟨Nat.zero_le _, Nat.zero_le _⟩
          · refine rr_callVI hC (by decide +kernel) kl_11_112 fX11_word (m_wordN len fa false dd sd sg es (p_sk (M 0) len ts.1) (va_up (va_up M 6 f6) 5 (upd (M 5) 0 (nI n))) 59 (by omega) (by omega) (by exact hn128)) rfl rfl rfl rfl rfl (rest := []) rfl rfl ⟨Nat.zero_le _, Nat.zero_le _⟩ (Eq.refl 22) ?_
            show rr_J Z 1 0 0 _ 131 [(0, .ref 0)] [] (W_M (mv len fa false dd sd sg es (p_sk (M 0) len (p_sk (M 0) len ts.1)) 1) (va_up (va_up M 6 f6) 5 (upd (M 5) 0 (nI n))))
            obtain ⟨e128, he128⟩ : ∃ z, z = p_sk (M 0) len (p_sk (M 0) len ts.1) := ⟨_, rfl⟩
            refine rr_cast (l' := [(0, .ref 0)]) rfl (st' := []) (by rfl) (w' := (W_M (mv len fa false dd sd sg es e128 1) (va_up (va_up M 6 f6) 5 (upd (M 5) 0 (nI n))))) (by rw [he128]) ?_
            have hel128 : e128 ≤ max (p_sk (M 0) len ts.1) len := by rw [he128]; exact p_sk_le (M 0) len (p_sk (M 0) len ts.1)
            exact rr_retvP hC (by decide +kernel) (by obtain ⟨x1, x2, x3, x4⟩ := p_tl_z (f := M 0) (len := len) (n := n) (ts := ts) (by omega) (Or.inr h44); rw [← hX] at x1 x2 x3 x4; have hXq : X.2.2.2.1 = ts.2.2.1 := (by rw [x2]); have hQ : (p_pt (M 0) len s).2.2.2.1 = (1, nI e128) := (by rw [hQ0, p_eq_b (by rw [x4, ← p_nl_sk]; exact hn128) (by rw [hXq]; exact hq), x3, he128, p_sk_sk]); exact ⟨rfl, false, e128, 1, (va_up (va_up M 6 f6) 5 (upd (M 5) 0 (nI n))), rfl, by omega, fun i hi => by unfold va_up; rw [if_neg (by omega), if_neg (by omega)], Or.inr ⟨by rw [hQ]; exact (show ¬ (1 : Int32) = 0 from by decide), by rw [hQ], by rw [hQ]⟩⟩) ⟨Nat.zero_le _, Nat.zero_le _⟩
        · have h44 : p_nl (M 0) len ts.1 = 44 := h58
          have hlt44 := p_nl_lt h44 (by decide)
          refine rr_go hC bk_X11_readsTides_61_67 (l' := [(0, .ref 0)]) (st' := [.int ((upd (M 5) 0 (nI n)) 0)]) (w' := (W_M (mv len fa false dd sd sg es (p_sk (M 0) len ts.1) 0) (va_up (va_up M 6 f6) 5 (upd (M 5) 0 (nI n))))) rfl ?_
          rw [pk_us]
          refine rr_go hC bk_X11_readsTides_67_69 (l' := [(0, .ref 0)]) (st' := [.int 12, .int (nI n)]) (w' := (W_M (mv len fa false dd sd sg es (p_sk (M 0) len ts.1) 0) (va_up (va_up M 6 f6) 5 (upd (M 5) 0 (nI n))))) rfl ?_
          refine rr_icmp_ne hC (off := 11) (tgt := 80) (by decide +kernel) (fun h69 => ?_) (fun h69 => by rw [rr_nl_eq (b := 12) (by omega) (by omega)] at h69; omega)
          rw [rr_nl_eq (b := 12) (by omega) (by omega)] at h69
          refine rr_go hC bk_X11_readsTides_80_100 (l' := [(0, .ref 0)]) (st' := [.int ((upd (M 5) 0 (nI n)) 0), .ref 7]) (w' := (W_M (upd (mv len fa false dd sd sg es (p_sk (M 0) len ts.1) 0) 7 ((nI (p_sk (M 0) len ts.1)) + 1)) (va_up (va_up M 6 f6) 5 (upd (M 5) 0 (nI n))))) rfl ?_
          rw [show ((nI (p_sk (M 0) len ts.1)) + 1 : Int32) = nI ((p_sk (M 0) len ts.1) + 1) from nI_add (p_sk (M 0) len ts.1) 1]
          rw [pk_us]
          refine rr_go hC bk_X11_readsTides_100_104 (l' := [(0, .ref 0)]) (st' := [.int 19, .int 0, .ref 0, .int (nI n), .ref 7]) (w' := (W_M (upd (mv len fa false dd sd sg es (p_sk (M 0) len ts.1) 0) 7 (nI ((p_sk (M 0) len ts.1) + 1))) (va_up (va_up M 6 f6) 5 (upd (M 5) 0 (nI n))))) rfl ?_
          by_cases hb104 : p_bad (M 0) len ((p_sk (M 0) len ts.1) + 1) 0 19 = 0
          · refine rr_callVI hC (by decide +kernel) kl_11_108 fX11_number (m_numberG len fa false dd sd sg es ((p_sk (M 0) len ts.1) + 1) (va_up (va_up M 6 f6) 5 (upd (M 5) 0 (nI n))) 0 19 (by omega) (by omega) (by exact hb104)) rfl rfl rfl rfl rfl (rest := [.int (nI n), .ref 7]) rfl rfl ⟨Nat.zero_le _, Nat.zero_le _⟩ (Eq.refl 22) ?_
            show rr_J Z 1 0 0 _ 107 [(0, .ref 0)] [.int (p_rv (M 0) len ((p_sk (M 0) len ts.1) + 1) 0 19), .int (nI n), .ref 7] (W_M (mv len fa false dd sd sg es (p_rat (M 0) len ((p_sk (M 0) len ts.1) + 1)) 0) (va_up (va_up M 6 f6) 5 (upd (M 5) 0 (nI n))))
            obtain ⟨a104, ha104⟩ : ∃ z, z = p_rat (M 0) len ((p_sk (M 0) len ts.1) + 1) := ⟨_, rfl⟩
            obtain ⟨v104, hv104⟩ : ∃ z, z = p_rv (M 0) len ((p_sk (M 0) len ts.1) + 1) 0 19 := ⟨_, rfl⟩
            refine rr_cast (l' := [(0, .ref 0)]) rfl (st' := [.int v104, .int (nI n), .ref 7]) (by rw [hv104]) (w' := (W_M (mv len fa false dd sd sg es a104 0) (va_up (va_up M 6 f6) 5 (upd (M 5) 0 (nI n))))) (by rw [ha104]) ?_
            have hal104 : a104 ≤ max ((p_sk (M 0) len ts.1) + 1) len := by rw [ha104]; exact p_rat_le (M 0) len ((p_sk (M 0) len ts.1) + 1)
            refine rr_iast hC n (by decide +kernel) rfl rfl (by omega) rfl (w' := (W_M (mv len fa false dd sd sg es a104 0) (va_up (va_up M 5 (upd (M 5) 0 (nI n))) 6 (upd f6 n v104)))) rfl ?_
            show rr_J Z 1 0 0 _ 108 [(0, .ref 0)] [] (W_M (mv len fa false dd sd sg es a104 0) (va_up (va_up M 5 (upd (M 5) 0 (nI n))) 6 (upd f6 n v104)))
            refine rr_go hC bk_X11_readsTides_108_115 (l' := [(0, .ref 0)]) (st' := [.int ((upd (M 5) 0 (nI n)) 0), .int 0, .ref 6]) (w' := (W_M (mv len fa false dd sd sg es a104 0) (va_up (va_up M 5 (upd (M 5) 0 (nI n))) 6 (upd f6 n v104)))) rfl ?_
            rw [pk_us]
            refine rr_go hC bk_X11_readsTides_115_119 (l' := [(0, .ref 0)]) (st' := [.ref 0]) (w' := (W_M (mv len fa false dd sd sg es a104 0) (va_up (va_up M 6 (upd f6 n v104)) 5 (upd (upd (M 5) 0 (nI n)) 0 ((nI n) + 1))))) rfl ?_
            refine rr_callVI hC (by decide +kernel) kl_11_97 fX11_skips (m_skips len fa false dd sd sg es a104 (va_up (va_up M 6 (upd f6 n v104)) 5 (upd (upd (M 5) 0 (nI n)) 0 ((nI n) + 1))) (by omega) (by omega)) rfl rfl rfl rfl rfl (rest := []) rfl rfl ⟨Nat.zero_le _, Nat.zero_le _⟩ (Eq.refl 22) ?_
            show rr_J Z 1 0 0 _ 122 [(0, .ref 0)] [] (W_M (mv len fa false dd sd sg es (p_sk (M 0) len a104) 0) (va_up (va_up M 6 (upd f6 n v104)) 5 (upd (upd (M 5) 0 (nI n)) 0 ((nI n) + 1))))
            obtain ⟨k119, hk119⟩ : ∃ z, z = p_sk (M 0) len a104 := ⟨_, rfl⟩
            refine rr_cast (l' := [(0, .ref 0)]) rfl (st' := []) (by rfl) (w' := (W_M (mv len fa false dd sd sg es k119 0) (va_up (va_up M 6 (upd f6 n v104)) 5 (upd (upd (M 5) 0 (nI n)) 0 ((nI n) + 1))))) (by rw [hk119]) ?_
            have hkl119 : k119 ≤ max a104 len := by rw [hk119]; exact p_sk_le (M 0) len a104
            refine rr_go hC bk_X11_readsTides_122_45 (l' := [(0, .ref 0)]) (st' := []) (w' := (W_M (mv len fa false dd sd sg es k119 0) (va_up (va_up M 6 (upd f6 n v104)) 5 (upd (upd (M 5) 0 (nI n)) 0 ((nI n) + 1))))) rfl ?_
            exact rr_cast (l' := [(0, .ref 0)]) (by rfl) rfl (w' := (W_M (mv len fa false dd sd sg es (p_sk (M 0) len (p_tn (M 0) len n ts (p_sk (M 0) len ts.1 + 1)).1) 0) (va_up (va_up M 6 (upd f6 n v104)) 5 (upd (M 5) 0 (nI (n + 1)))))) (by rw [m_uu, hk119, ha104, nI_1]; rfl) (ih (n + 1) (by omega) (by omega) (p_tn (M 0) len n ts (p_sk (M 0) len ts.1 + 1)) (upd f6 n v104) (by show (p_rq _ _ _ _ _ _).1 = 0; rw [p_rq_g hb104]; exact hq) (hX.trans (by rw [show 12 - n = (12 - (n + 1)) + 1 by omega, p_tl_s (M 0) len _ n ts h44])) (by rw [hv104]; exact m_c7 hf) (by show p_rat (M 0) len (p_sk (M 0) len ts.1 + 1) ≤ 245; rw [← ha104]; omega))
          · have hbo104 := hb104
            refine rr_callVI hC (by decide +kernel) kl_11_108 fX11_number (m_numberB len fa false dd sd sg es ((p_sk (M 0) len ts.1) + 1) (va_up (va_up M 6 f6) 5 (upd (M 5) 0 (nI n))) 0 19 (by omega) (by omega) (by exact hbo104)) rfl rfl rfl rfl rfl (rest := [.int (nI n), .ref 7]) rfl rfl ⟨Nat.zero_le _, Nat.zero_le _⟩ (Eq.refl 22) ?_
            show rr_J Z 1 0 0 _ 107 [(0, .ref 0)] [.int (m_nf (M 0) len ((p_sk (M 0) len ts.1) + 1)), .int (nI n), .ref 7] (W_M (mv len fa false dd sd sg es (p_sk (M 0) len ((p_sk (M 0) len ts.1) + 1)) (p_bad (M 0) len ((p_sk (M 0) len ts.1) + 1) 0 19)) (va_up (va_up M 6 f6) 5 (upd (M 5) 0 (nI n))))
            obtain ⟨b104, hb104⟩ : ∃ z, z = p_sk (M 0) len ((p_sk (M 0) len ts.1) + 1) := ⟨_, rfl⟩
            obtain ⟨w104, hw104⟩ : ∃ z, z = p_bad (M 0) len ((p_sk (M 0) len ts.1) + 1) 0 19 := ⟨_, rfl⟩
            obtain ⟨u104, hu104⟩ : ∃ z, z = m_nf (M 0) len ((p_sk (M 0) len ts.1) + 1) := ⟨_, rfl⟩
            refine rr_cast (l' := [(0, .ref 0)]) rfl (st' := [.int u104, .int (nI n), .ref 7]) (by rw [hu104]) (w' := (W_M (mv len fa false dd sd sg es b104 w104) (va_up (va_up M 6 f6) 5 (upd (M 5) 0 (nI n))))) (by rw [hb104, hw104]) ?_
            have hbl104 : b104 ≤ max ((p_sk (M 0) len ts.1) + 1) len := by rw [hb104]; exact p_sk_le (M 0) len ((p_sk (M 0) len ts.1) + 1)
            have hnz104 : ¬ w104 = 0 := by rw [hw104]; exact hbo104
            refine rr_iast hC n (by decide +kernel) rfl rfl (by omega) rfl (w' := (W_M (mv len fa false dd sd sg es b104 w104) (va_up (va_up M 5 (upd (M 5) 0 (nI n))) 6 (upd f6 n u104)))) rfl ?_
            show rr_J Z 1 0 0 _ 108 [(0, .ref 0)] [] (W_M (mv len fa false dd sd sg es b104 w104) (va_up (va_up M 5 (upd (M 5) 0 (nI n))) 6 (upd f6 n u104)))
            refine rr_go hC bk_X11_readsTides_108_115 (l' := [(0, .ref 0)]) (st' := [.int ((upd (M 5) 0 (nI n)) 0), .int 0, .ref 6]) (w' := (W_M (mv len fa false dd sd sg es b104 w104) (va_up (va_up M 5 (upd (M 5) 0 (nI n))) 6 (upd f6 n u104)))) rfl ?_
            rw [pk_us]
            refine rr_go hC bk_X11_readsTides_115_119 (l' := [(0, .ref 0)]) (st' := [.ref 0]) (w' := (W_M (mv len fa false dd sd sg es b104 w104) (va_up (va_up M 6 (upd f6 n u104)) 5 (upd (upd (M 5) 0 (nI n)) 0 ((nI n) + 1))))) rfl ?_
            refine rr_callVI hC (by decide +kernel) kl_11_97 fX11_skips (m_skipsW len fa false dd sd sg es b104 w104 (va_up (va_up M 6 (upd f6 n u104)) 5 (upd (upd (M 5) 0 (nI n)) 0 ((nI n) + 1))) (by omega) (by omega) hnz104) rfl rfl rfl rfl rfl (rest := []) rfl rfl ⟨Nat.zero_le _, Nat.zero_le _⟩ (Eq.refl 22) ?_
            show rr_J Z 1 0 0 _ 122 [(0, .ref 0)] [] (W_M (mv len fa false dd sd sg es b104 w104) (va_up (va_up M 6 (upd f6 n u104)) 5 (upd (upd (M 5) 0 (nI n)) 0 ((nI n) + 1))))
            refine rr_go hC bk_X11_readsTides_122_45 (l' := [(0, .ref 0)]) (st' := []) (w' := (W_M (mv len fa false dd sd sg es b104 w104) (va_up (va_up M 6 (upd f6 n u104)) 5 (upd (upd (M 5) 0 (nI n)) 0 ((nI n) + 1))))) rfl ?_
            refine rr_go hC bk_X11_readsTides_45_49 (l' := [(0, .ref 0)]) (st' := [.int w104]) (w' := (W_M (mv len fa false dd sd sg es b104 w104) (va_up (va_up M 6 (upd f6 n u104)) 5 (upd (upd (M 5) 0 (nI n)) 0 ((nI n) + 1))))) rfl ?_
            refine rr_if_ne hC (off := 76) (tgt := 125) (by decide +kernel) (fun h49 => ?_) (fun h49 => by  exact absurd h49 hnz104)
            refine rr_go hC bk_X11_readsTides_125_128 (l' := [(0, .ref 0)]) (st' := [.int 59, .ref 0]) (w' := (W_M (mv len fa false dd sd sg es b104 w104) (va_up (va_up M 6 (upd f6 n u104)) 5 (upd (upd (M 5) 0 (nI n)) 0 ((nI n) + 1))))) rfl ?_
            refine rr_callVI hC (by decide +kernel) kl_11_112 fX11_word (m_wordW len fa false dd sd sg es b104 w104 (va_up (va_up M 6 (upd f6 n u104)) 5 (upd (upd (M 5) 0 (nI n)) 0 ((nI n) + 1))) 59 (by omega) (by omega) hnz104) rfl rfl rfl rfl rfl (rest := []) rfl rfl ⟨Nat.zero_le _, Nat.zero_le _⟩ (Eq.refl 22) ?_
            show rr_J Z 1 0 0 _ 131 [(0, .ref 0)] [] (W_M (mv len fa false dd sd sg es b104 w104) (va_up (va_up M 6 (upd f6 n u104)) 5 (upd (upd (M 5) 0 (nI n)) 0 ((nI n) + 1))))
            exact rr_retvP hC (by decide +kernel) (by have hXq : X.2.2.2.1 = (w104, nI b104) := (by rw [hX, show 12 - n = (12 - (n + 1)) + 1 by omega, p_tl_s (M 0) len _ n ts h44, p_tl_k _ _ _ _ _ (by show ¬ (p_rq _ _ _ _ _ _).1 = 0; rw [p_rq_b hbo104 hq]; exact hbo104)]; show p_rq _ _ _ _ _ _ = _; rw [p_rq_b hbo104 hq, hw104, hb104]); have hQ : (p_pt (M 0) len s).2.2.2.1 = (w104, nI b104) := (by rw [hQ0, hXq]; exact p_eq_k hnz104 _ _ _); exact ⟨rfl, false, b104, w104, (va_up (va_up M 6 (upd f6 n u104)) 5 (upd (upd (M 5) 0 (nI n)) 0 ((nI n) + 1))), rfl, by omega, fun i hi => by unfold va_up; rw [if_neg (by omega), if_neg (by omega)], Or.inr ⟨by rw [hQ]; exact hnz104, by rw [hQ], by rw [hQ]⟩⟩) ⟨Nat.zero_le _, Nat.zero_le _⟩
    exact rr_cast (l' := [(0, .ref 0)]) (by rfl) rfl (w' := (W_M (mv len fa false dd sd sg es (p_sk (M 0) len (p_tn (M 0) len 0 (s.1, s.2.1, s.2.2.2.1, s.2.2.2.2.2.2.2.2 0) (s.1 + 1)).1) 0) (va_up (va_up M 6 (upd (M 6) 0 v30)) 5 (upd (M 5) 0 (nI 1))))) (by rw [hk42, ha30] <;> rfl) (lp45 (12 - 1) 1 (by omega) (Nat.le_refl _) (p_tn (M 0) len 0 (s.1, s.2.1, s.2.2.2.1, s.2.2.2.2.2.2.2.2 0) (s.1 + 1)) (upd (M 6) 0 v30) hq0s hX0 hf0 hts0)
  · have hbo30 := hb30
    refine rr_callVI hC (by decide +kernel) kl_11_108 fX11_number (m_numberB len fa false dd sd sg es (s.1 + 1) M 0 19 (by omega) (by omega) (by exact hbo30)) rfl rfl rfl rfl rfl (rest := [.int 0, .ref 7]) rfl rfl ⟨Nat.zero_le _, Nat.zero_le _⟩ (Eq.refl 22) ?_
    show rr_J Z 1 0 0 _ 33 [(0, .ref 0)] [.int (m_nf (M 0) len (s.1 + 1)), .int 0, .ref 7] (W_M (mv len fa false dd sd sg es (p_sk (M 0) len (s.1 + 1)) (p_bad (M 0) len (s.1 + 1) 0 19)) M)
    obtain ⟨b30, hb30⟩ : ∃ z, z = p_sk (M 0) len (s.1 + 1) := ⟨_, rfl⟩
    obtain ⟨w30, hw30⟩ : ∃ z, z = p_bad (M 0) len (s.1 + 1) 0 19 := ⟨_, rfl⟩
    obtain ⟨u30, hu30⟩ : ∃ z, z = m_nf (M 0) len (s.1 + 1) := ⟨_, rfl⟩
    refine rr_cast (l' := [(0, .ref 0)]) rfl (st' := [.int u30, .int 0, .ref 7]) (by rw [hu30]) (w' := (W_M (mv len fa false dd sd sg es b30 w30) M)) (by rw [hb30, hw30]) ?_
    have hbl30 : b30 ≤ max (s.1 + 1) len := by rw [hb30]; exact p_sk_le (M 0) len (s.1 + 1)
    have hnz30 : ¬ w30 = 0 := by rw [hw30]; exact hbo30
    refine rr_go hC bk_X11_readsTides_33_42 (l' := [(0, .ref 0)]) (st' := [.ref 0]) (w' := (W_M (mv len fa false dd sd sg es b30 w30) (va_up (va_up M 6 (upd (M 6) 0 u30)) 5 (upd (M 5) 0 1)))) rfl ?_
    refine rr_callVI hC (by decide +kernel) kl_11_97 fX11_skips (m_skipsW len fa false dd sd sg es b30 w30 (va_up (va_up M 6 (upd (M 6) 0 u30)) 5 (upd (M 5) 0 1)) (by omega) (by omega) hnz30) rfl rfl rfl rfl rfl (rest := []) rfl rfl ⟨Nat.zero_le _, Nat.zero_le _⟩ (Eq.refl 22) ?_
    show rr_J Z 1 0 0 _ 45 [(0, .ref 0)] [] (W_M (mv len fa false dd sd sg es b30 w30) (va_up (va_up M 6 (upd (M 6) 0 u30)) 5 (upd (M 5) 0 1)))
    refine rr_go hC bk_X11_readsTides_45_49 (l' := [(0, .ref 0)]) (st' := [.int w30]) (w' := (W_M (mv len fa false dd sd sg es b30 w30) (va_up (va_up M 6 (upd (M 6) 0 u30)) 5 (upd (M 5) 0 1)))) rfl ?_
    refine rr_if_ne hC (off := 76) (tgt := 125) (by decide +kernel) (fun h49 => ?_) (fun h49 => by  exact absurd h49 hnz30)
    refine rr_go hC bk_X11_readsTides_125_128 (l' := [(0, .ref 0)]) (st' := [.int 59, .ref 0]) (w' := (W_M (mv len fa false dd sd sg es b30 w30) (va_up (va_up M 6 (upd (M 6) 0 u30)) 5 (upd (M 5) 0 1)))) rfl ?_
    refine rr_callVI hC (by decide +kernel) kl_11_112 fX11_word (m_wordW len fa false dd sd sg es b30 w30 (va_up (va_up M 6 (upd (M 6) 0 u30)) 5 (upd (M 5) 0 1)) 59 (by omega) (by omega) hnz30) rfl rfl rfl rfl rfl (rest := []) rfl rfl ⟨Nat.zero_le _, Nat.zero_le _⟩ (Eq.refl 22) ?_
    show rr_J Z 1 0 0 _ 131 [(0, .ref 0)] [] (W_M (mv len fa false dd sd sg es b30 w30) (va_up (va_up M 6 (upd (M 6) 0 u30)) 5 (upd (M 5) 0 1)))
    exact rr_retvP hC (by decide +kernel) (by have hXq : X.2.2.2.1 = (w30, nI b30) := (by rw [hX0, p_tl_k _ _ _ _ _ (by show ¬ (p_rq _ _ _ _ _ _).1 = 0; rw [p_rq_b hbo30 hq0]; exact hbo30)]; show p_rq _ _ _ _ _ _ = _; rw [p_rq_b hbo30 hq0, hw30, hb30]); have hQ : (p_pt (M 0) len s).2.2.2.1 = (w30, nI b30) := (by rw [hQ0, hXq]; exact p_eq_k hnz30 _ _ _); exact ⟨rfl, false, b30, w30, (va_up (va_up M 6 (upd (M 6) 0 u30)) 5 (upd (M 5) 0 1)), rfl, by omega, fun i hi => by unfold va_up; rw [if_neg (by omega), if_neg (by omega)], Or.inr ⟨by rw [hQ]; exact hnz30, by rw [hQ], by rw [hQ]⟩⟩) ⟨Nat.zero_le _, Nat.zero_le _⟩
