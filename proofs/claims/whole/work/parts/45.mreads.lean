/-! the model reads the text -/
theorem p_skS_sk (f : Nat → Int32) (len : Nat) (s : p_RS) : p_skS f len (p_skS f len s) = p_skS f len s := by
  unfold p_skS
  rw [p_sk_sk]
theorem p_rat_ge (f : Nat → Int32) (len a : Nat) : a ≤ p_rat f len a := by
  have h1 := p_sk_ge f len a
  have h2 := p_fe_ge f len (p_sk f len a)
  unfold p_rat
  split <;> omega
theorem p_pf_no {s : p_RS} (hq : s.2.2.2.1.1 = 0) {k : Int32} (hk : ¬ k = 0) : ¬ (p_pf k s).2.2.2.1.1 = 0 := by
  show ¬ (p_fl k _ s.2.2.2.1).1 = 0
  rw [p_fl_0 hq]
  exact hk
theorem p_pw_gt {f : Nat → Int32} {len : Nat} {s : p_RS} (hq : s.2.2.2.1.1 = 0) (h : (p_pw f len s).2.2.2.1.1 = 0) : s.1 < (p_pw f len s).1 := by
  by_cases e : s.2.2.1 = true
  · rw [show p_pw f len s = p_pf 3 s from if_pos e] at h
    exact absurd h (p_pf_no hq (by decide))
  · rw [show p_pw f len s = _ from if_neg e]
    have h1 := p_rat_ge f len (s.1 + 1)
    have h2 := p_sk_ge f len (p_rat f len (s.1 + 1))
    show s.1 < p_sk f len (p_rat f len (s.1 + 1)) + 1
    omega
theorem p_pc_gt {f : Nat → Int32} {len : Nat} {s : p_RS} (hq : s.2.2.2.1.1 = 0) (h : (p_pc f len s).2.2.2.1.1 = 0) : s.1 < (p_pc f len s).1 := by
  by_cases e : s.2.2.2.2.2.2.1 < 9
  · rw [show p_pc f len s = _ from if_pos e]
    have h1 := p_rat_ge f len (s.1 + 1)
    have h2 := p_sk_ge f len (p_rat f len (s.1 + 1))
    show s.1 < p_sk f len (p_rat f len (s.1 + 1)) + 1
    omega
  · rw [show p_pc f len s = p_pf 3 s from if_neg e] at h
    exact absurd h (p_pf_no hq (by decide))
theorem p_pk_gt {f : Nat → Int32} {len : Nat} {s : p_RS} (hq : s.2.2.2.1.1 = 0) (h : (p_pk f len s).2.2.2.1.1 = 0) : s.1 < (p_pk f len s).1 := by
  by_cases e : s.2.2.2.2.2.2.2.1 < 6
  · rw [show p_pk f len s = _ from if_pos e]
    have h1 : s.1 + 1 ≤ p_k2 f len s := p_rat_ge f len _
    have h2 : p_k2 f len s ≤ p_k3 f len s := p_rat_ge f len _
    have h3 : p_k3 f len s ≤ p_k4 f len s := p_rat_ge f len _
    have h4 : p_k4 f len s ≤ p_k5 f len s := p_rat_ge f len _
    have h5 := p_sk_ge f len (p_k5 f len s)
    show s.1 < p_sk f len (p_k5 f len s) + 1
    omega
  · rw [show p_pk f len s = p_pf 3 s from if_neg e] at h
    exact absurd h (p_pf_no hq (by decide))
theorem p_rl_f (f : Nat → Int32) (len j : Nat) {s : p_RS} (h : ¬ s.2.2.2.1.1 = 0) : p_rl f len j s = s := by
  cases j with
  | zero => rfl
  | succ j => exact p_rl_1 f len j s h
theorem bk_X11_reads_0_4 : rr_chk mX11_reads [(.aload_n 0, 0, 0, 0), (.getfield 90, 0, 11, 25)] 0 4 = true := by decide +kernel
theorem bk_X11_reads_7_8 : rr_chk mX11_reads [(.aload_n 0, 0, 0, 0)] 7 8 = true := by decide +kernel
theorem bk_X11_reads_11_12 : rr_chk mX11_reads [(.iconst (-1), (-1), 0, 0)] 11 12 = true := by decide +kernel
theorem bk_X11_reads_15_16 : rr_chk mX11_reads [(.aload_n 0, 0, 0, 0)] 15 16 = true := by decide +kernel
theorem bk_X11_reads_19_21 : rr_chk mX11_reads [(.bipush 116, 116, 0, 0)] 19 21 = true := by decide +kernel
theorem bk_X11_reads_31_37 : rr_chk mX11_reads [(.aload_n 0, 0, 0, 0), (.getfield 29, 0, 11, 7), (.iconst 0, 0, 0, 0), (.iaload, 0, 0, 0)] 31 37 = true := by decide +kernel
theorem bk_X11_reads_40_42 : rr_chk mX11_reads [(.aload_n 0, 0, 0, 0), (.iconst 1, 1, 0, 0)] 40 42 = true := by decide +kernel
theorem bk_X11_reads_45_101 : rr_chk mX11_reads [(.goto 56, 0, 0, 0)] 45 101 = true := by decide +kernel
theorem bk_X11_reads_101_102 : rr_chk mX11_reads [(.aload_n 0, 0, 0, 0)] 101 102 = true := by decide +kernel
theorem bk_X11_reads_105_0 : rr_chk mX11_reads [(.goto (-105), 0, 0, 0)] 105 0 = true := by decide +kernel
theorem bk_X11_reads_24_25 : rr_chk mX11_reads [(.aload_n 0, 0, 0, 0)] 24 25 = true := by decide +kernel
theorem bk_X11_reads_28_101 : rr_chk mX11_reads [(.goto 73, 0, 0, 0)] 28 101 = true := by decide +kernel
theorem bk_X11_reads_48_49 : rr_chk mX11_reads [(.aload_n 0, 0, 0, 0)] 48 49 = true := by decide +kernel
theorem bk_X11_reads_52_54 : rr_chk mX11_reads [(.bipush 119, 119, 0, 0)] 52 54 = true := by decide +kernel
theorem bk_X11_reads_64_65 : rr_chk mX11_reads [(.aload_n 0, 0, 0, 0)] 64 65 = true := by decide +kernel
theorem bk_X11_reads_68_70 : rr_chk mX11_reads [(.bipush 99, 99, 0, 0)] 68 70 = true := by decide +kernel
theorem bk_X11_reads_80_81 : rr_chk mX11_reads [(.aload_n 0, 0, 0, 0)] 80 81 = true := by decide +kernel
theorem bk_X11_reads_84_86 : rr_chk mX11_reads [(.bipush 107, 107, 0, 0)] 84 86 = true := by decide +kernel
theorem bk_X11_reads_96_98 : rr_chk mX11_reads [(.aload_n 0, 0, 0, 0), (.iconst 1, 1, 0, 0)] 96 98 = true := by decide +kernel
theorem bk_X11_reads_89_90 : rr_chk mX11_reads [(.aload_n 0, 0, 0, 0)] 89 90 = true := by decide +kernel
theorem bk_X11_reads_93_101 : rr_chk mX11_reads [(.goto 8, 0, 0, 0)] 93 101 = true := by decide +kernel
theorem bk_X11_reads_73_74 : rr_chk mX11_reads [(.aload_n 0, 0, 0, 0)] 73 74 = true := by decide +kernel
theorem bk_X11_reads_77_101 : rr_chk mX11_reads [(.goto 24, 0, 0, 0)] 77 101 = true := by decide +kernel
theorem bk_X11_reads_57_58 : rr_chk mX11_reads [(.aload_n 0, 0, 0, 0)] 57 58 = true := by decide +kernel
theorem bk_X11_reads_61_101 : rr_chk mX11_reads [(.goto 40, 0, 0, 0)] 61 101 = true := by decide +kernel
set_option maxRecDepth 100000 in
set_option maxHeartbeats 4000000 in
theorem m_reads (len : Nat) (fa : Int32) (dd : Nat) (sd : Int32) (sg es : Nat) (M : Nat → Nat → Int32) (na : Nat) (H : Nat → Nat → Int32) (hlen : len ≤ 240) (hne : ¬ p_nl (M 0) len 0 = -1) (m50 : M 5 0 = nI 0) (m51 : M 5 1 = nI 0) (m52 : M 5 2 = nI 0) : rr_CP mX11_reads 4 [.ref 0] (W_M (mv len fa false dd sd sg es (p_sk (M 0) len 0) 0) M) 0 0 (fun r w' => r = none ∧ m_RP len fa dd sd sg es M (p_read (M 0) len na H) w') := by
  refine rr_CP.of (n := 0) fX11_reads.1 rfl rfl (fun Z hC => ?_)
  show rr_J Z 1 0 0 (rr_MP Z 0 0 (fun r w' => r = none ∧ m_RP len fa dd sd sg es M (p_read (M 0) len na H) w')) 0 [(0, .ref 0)] [] (W_M (mv len fa false dd sd sg es (p_sk (M 0) len 0) 0) M)
  have hsk0 := p_sk_le (M 0) len 0
  refine rr_go hC bk_X11_reads_0_4 (l' := [(0, .ref 0)]) (st' := [.int 0]) (w' := (W_M (mv len fa false dd sd sg es (p_sk (M 0) len 0) 0) M)) rfl ?_
  refine rr_if_ne hC (off := 104) (tgt := 108) (by decide +kernel) (fun h4 => by  exact absurd rfl h4) (fun h4 => ?_)
  obtain ⟨c, hc⟩ : ∃ z, z = p_nl (M 0) len 0 := ⟨_, rfl⟩
  refine rr_go hC bk_X11_reads_7_8 (l' := [(0, .ref 0)]) (st' := [.ref 0]) (w' := (W_M (mv len fa false dd sd sg es (p_sk (M 0) len 0) 0) M)) rfl ?_
  refine rr_callVI hC (by decide +kernel) kl_11_93 fX11_look (m_look len fa false dd sd sg es (p_sk (M 0) len 0) 0 M (by omega) (by omega)) rfl rfl rfl rfl rfl (rest := []) rfl rfl ⟨Nat.zero_le _, Nat.zero_le _⟩ (Eq.refl 22) ?_
  show rr_J Z 1 0 0 _ 11 [(0, .ref 0)] [.int (m_lk (M 0) len (p_sk (M 0) len 0))] (W_M (mv len fa false dd sd sg es (p_sk (M 0) len 0) 0) M)
  rw [show m_lk (M 0) len (p_sk (M 0) len 0) = c from hc.symm]
  refine rr_go hC bk_X11_reads_11_12 (l' := [(0, .ref 0)]) (st' := [.int (-1), .int c]) (w' := (W_M (mv len fa false dd sd sg es (p_sk (M 0) len 0) 0) M)) rfl ?_
  refine rr_icmp_eq hC (off := 96) (tgt := 108) (by decide +kernel) (fun h12 => by  exact absurd (hc.symm.trans h12) hne) (fun h12 => ?_)
  obtain ⟨S1, hS1⟩ : ∃ z, z = p_skS (M 0) len (p_s0 na H) := ⟨_, rfl⟩
  have S1a : S1.1 = p_sk (M 0) len 0 := by rw [hS1]; rfl
  have S1b : S1.2 = (p_s0 na H).2 := by rw [hS1]; rfl
  have S1n : p_nl (M 0) len S1.1 = c := by rw [S1a, p_nl_sk, hc]
  have hlt : p_sk (M 0) len 0 < len := p_nl_lt hc.symm h12
  have hrd : (p_read (M 0) len na H) = p_rl (M 0) len 240 (p_pt (M 0) len S1) := by rw [hS1]; exact if_neg hne
  have S1k : m_lk (M 0) len S1.1 = c := by rw [S1a]; exact hc.symm
  have S1q : S1.2.2.2.1 = (0, -1) := by rw [S1b]; rfl
  refine rr_cast (l' := [(0, .ref 0)]) rfl (st' := []) rfl (w' := (W_M (mv len fa S1.2.2.1 dd sd sg es S1.1 0) M)) (by rw [S1a, S1b]; rfl) ?_
  refine rr_go hC bk_X11_reads_15_16 (l' := [(0, .ref 0)]) (st' := [.ref 0]) (w' := (W_M (mv len fa S1.2.2.1 dd sd sg es S1.1 0) M)) rfl ?_
  refine rr_callVI hC (by decide +kernel) kl_11_93 fX11_look (m_look len fa S1.2.2.1 dd sd sg es S1.1 0 M (by omega) (by omega)) rfl rfl rfl rfl rfl (rest := []) rfl rfl ⟨Nat.zero_le _, Nat.zero_le _⟩ (Eq.refl 22) ?_
  show rr_J Z 1 0 0 _ 19 [(0, .ref 0)] [.int (m_lk (M 0) len S1.1)] (W_M (mv len fa S1.2.2.1 dd sd sg es S1.1 0) M)
  rw [S1k]
  refine rr_go hC bk_X11_reads_19_21 (l' := [(0, .ref 0)]) (st' := [.int 116, .int c]) (w' := (W_M (mv len fa S1.2.2.1 dd sd sg es S1.1 0) M)) rfl ?_
  refine rr_icmp_ne hC (off := 10) (tgt := 31) (by decide +kernel) (fun h21 => ?_) (fun h21 => ?_)
  · refine rr_go hC bk_X11_reads_31_37 (l' := [(0, .ref 0)]) (st' := [.int (M 5 0)]) (w' := (W_M (mv len fa S1.2.2.1 dd sd sg es S1.1 0) M)) rfl ?_
    rw [m50]
    refine rr_if_ne hC (off := 11) (tgt := 48) (by decide +kernel) (fun h37 => by rw [rr_nl_eq (b := 0) (by omega) (by omega)] at h37; omega) (fun h37 => ?_)
    rw [rr_nl_eq (b := 0) (by omega) (by omega)] at h37
    refine rr_go hC bk_X11_reads_40_42 (l' := [(0, .ref 0)]) (st' := [.int 1, .ref 0]) (w' := (W_M (mv len fa S1.2.2.1 dd sd sg es S1.1 0) M)) rfl ?_
    refine rr_callVI hC (by decide +kernel) kl_11_100 fX11_fails (m_fails len fa S1.2.2.1 dd sd sg es S1.1 0 M 1) rfl rfl rfl rfl rfl (rest := []) rfl rfl ⟨Nat.zero_le _, Nat.zero_le _⟩ (Eq.refl 22) ?_
    show rr_J Z 1 0 0 _ 45 [(0, .ref 0)] [] (W_M (mv len fa S1.2.2.1 dd sd sg es S1.1 (if (0 : Int32) = 0 then 1 else 0)) M)
    refine rr_cast (l' := [(0, .ref 0)]) rfl (st' := []) rfl (w' := (W_M (mv len fa S1.2.2.1 dd sd sg es S1.1 1) M)) (by rw [if_pos rfl]) ?_
    have hpt : p_pt (M 0) len S1 = p_pf 1 (p_skS (M 0) len S1) := if_neg (by rw [S1n]; exact h21)
    have hq1 : (p_skS (M 0) len S1).2.2.2.1.1 = 0 := by show S1.2.2.2.1.1 = 0; rw [S1q]
    have hrd3 : (p_read (M 0) len na H) = p_pf 1 (p_skS (M 0) len S1) := by rw [hrd, hpt]; exact p_rl_f _ _ _ (p_pf_no hq1 (by decide))
    have hQ : (p_read (M 0) len na H).2.2.2.1 = (1, nI S1.1) := by rw [hrd3]; show p_fl 1 (nI (p_sk (M 0) len S1.1)) _ = _; rw [p_fl_0 hq1, S1a, p_sk_sk]
    have hS1l : S1.1 ≤ 500 := by rw [S1a]; omega
    refine rr_go hC bk_X11_reads_45_101 (l' := [(0, .ref 0)]) (st' := []) (w' := (W_M (mv len fa S1.2.2.1 dd sd sg es S1.1 1) M)) rfl ?_
    refine rr_go hC bk_X11_reads_101_102 (l' := [(0, .ref 0)]) (st' := [.ref 0]) (w' := (W_M (mv len fa S1.2.2.1 dd sd sg es S1.1 1) M)) rfl ?_
    refine rr_callVI hC (by decide +kernel) kl_11_97 fX11_skips (m_skipsW len fa S1.2.2.1 dd sd sg es S1.1 1 M (by omega) (by omega) (by decide)) rfl rfl rfl rfl rfl (rest := []) rfl rfl ⟨Nat.zero_le _, Nat.zero_le _⟩ (Eq.refl 22) ?_
    show rr_J Z 1 0 0 _ 105 [(0, .ref 0)] [] (W_M (mv len fa S1.2.2.1 dd sd sg es S1.1 1) M)
    refine rr_go hC bk_X11_reads_105_0 (l' := [(0, .ref 0)]) (st' := []) (w' := (W_M (mv len fa S1.2.2.1 dd sd sg es S1.1 1) M)) rfl ?_
    refine rr_go hC bk_X11_reads_0_4 (l' := [(0, .ref 0)]) (st' := [.int 1]) (w' := (W_M (mv len fa S1.2.2.1 dd sd sg es S1.1 1) M)) rfl ?_
    refine rr_if_ne hC (off := 104) (tgt := 108) (by decide +kernel) (fun h4 => ?_) (fun h4 => by  exact absurd h4 (by decide))
    exact rr_retvP hC (by decide +kernel) (by exact ⟨rfl, _, S1.1, 1, M, rfl, by omega, fun _ _ => rfl, Or.inr ⟨by rw [hQ]; exact (show ¬ (1 : Int32) = 0 from by decide), by rw [hQ], by rw [hQ]⟩⟩) ⟨Nat.zero_le _, Nat.zero_le _⟩
  · refine rr_go hC bk_X11_reads_24_25 (l' := [(0, .ref 0)]) (st' := [.ref 0]) (w' := (W_M (mv len fa S1.2.2.1 dd sd sg es S1.1 0) M)) rfl ?_
    refine rr_callVPI hC (by decide +kernel) kl_11_119 fX11_readsTides (m_readsTides len fa dd sd sg es M S1 hlen (by rw [S1a]; exact hlt) (by rw [S1a, p_sk_sk]) (by rw [S1n]; exact h21) (by rw [S1q]) (by rw [S1b]; rfl) (by rw [S1b]; rfl) (by rw [S1b]; rfl) m50 m51 m52) rfl rfl rfl rfl rfl (rest := []) rfl rfl ⟨Nat.zero_le _, Nat.zero_le _⟩ (by intro r_ w_ h_; obtain ⟨rfl, hd3, a3, wr3, M3, rfl, ha3, hM3, hRO⟩ := h_; exact Eq.refl 22) (fun r_ w_ h_ => ?_)
    obtain ⟨rfl, hd3, a3, wr3, M3, rfl, ha3, hM3, hRO⟩ := h_
    show rr_J Z 1 0 0 _ 28 [(0, .ref 0)] [] (W_M (mv len fa hd3 dd sd sg es a3 wr3) M3)
    obtain ⟨s3, hs3⟩ : ∃ z, z = p_pt (M 0) len S1 := ⟨_, rfl⟩
    rw [← hs3] at hRO
    rw [← hs3] at hrd
    have hrl := hrd
    have hM4 := hM3
    rcases hRO with ⟨q1, e1, e2, hR3⟩ | ⟨q1, e1, e2⟩
    · refine rr_cast (l' := [(0, .ref 0)]) rfl (st' := []) rfl (w' := (W_M (mv len fa s3.2.2.1 dd sd sg es s3.1 0) M3)) (by rw [e1, e2, hR3.1.1]) ?_
      rw [hR3.1.1] at hR3
      have h30 : M3 0 = M 0 := hM4 0 (by omega)
      have hs3l : s3.1 ≤ 500 := by rw [← e2]; exact ha3
      skip
      refine rr_go hC bk_X11_reads_28_101 (l' := [(0, .ref 0)]) (st' := []) (w' := (W_M (mv len fa s3.2.2.1 dd sd sg es s3.1 0) M3)) rfl ?_
      refine rr_go hC bk_X11_reads_101_102 (l' := [(0, .ref 0)]) (st' := [.ref 0]) (w' := (W_M (mv len fa s3.2.2.1 dd sd sg es s3.1 0) M3)) rfl ?_
      refine rr_callVI hC (by decide +kernel) kl_11_97 fX11_skips (m_skips len fa s3.2.2.1 dd sd sg es s3.1 M3 (by omega) (by omega)) rfl rfl rfl rfl rfl (rest := []) rfl rfl ⟨Nat.zero_le _, Nat.zero_le _⟩ (Eq.refl 22) ?_
      show rr_J Z 1 0 0 _ 105 [(0, .ref 0)] [] (W_M (mv len fa s3.2.2.1 dd sd sg es (p_sk (M3 0) len s3.1) 0) M3)
      refine rr_cast (l' := [(0, .ref 0)]) rfl (st' := []) rfl (w' := (W_M (mv len fa s3.2.2.1 dd sd sg es (p_sk (M 0) len s3.1) 0) M3)) (by rw [h30]) ?_
      refine rr_go hC bk_X11_reads_105_0 (l' := [(0, .ref 0)]) (st' := []) (w' := (W_M (mv len fa s3.2.2.1 dd sd sg es (p_sk (M 0) len s3.1) 0) M3)) rfl ?_
      have lp0 : ∀ (j n : Nat), n + j = 240 → 0 ≤ n → ∀ (s : p_RS) (M2 : Nat → Nat → Int32), s.2.2.2.1.1 = 0 → (p_read (M 0) len na H) = p_rl (M 0) len (240 - n) s → m_RR M2 s.2.2.1 s → (∀ i, i < 5 ∨ 8 < i → M2 i = M i) → n ≤ s.1 → s.1 ≤ 500 → rr_J Z 1 0 0 (rr_MP Z 0 0 (fun r w' => r = none ∧ m_RP len fa dd sd sg es M (p_read (M 0) len na H) w')) 0 [(0, .ref 0)] [] (W_M (mv len fa s.2.2.1 dd sd sg es (p_sk (M 0) len s.1) 0) M2) := by
        intro j
        induction j with
        | zero =>
          intro n hk0 hlo0 s M2 hq hX hR hM2 hns hs5
          have h20 : M2 0 = M 0 := hM2 0 (by omega)
          have hskl := p_sk_le (M 0) len s.1
          have htc12 := hR.1.2.2.1
          refine rr_go hC bk_X11_reads_0_4 (l' := [(0, .ref 0)]) (st' := [.int 0]) (w' := (W_M (mv len fa s.2.2.1 dd sd sg es (p_sk (M 0) len s.1) 0) M2)) rfl ?_
          refine rr_if_ne hC (off := 104) (tgt := 108) (by decide +kernel) (fun h4 => by  exact absurd rfl h4) (fun h4 => ?_)
          obtain ⟨c, hc⟩ : ∃ z, z = p_nl (M 0) len s.1 := ⟨_, rfl⟩
          have hc1 : c = -1 := by rw [hc]; unfold p_nl; rw [p_sk_end (by omega), if_neg (by omega)]
          refine rr_go hC bk_X11_reads_7_8 (l' := [(0, .ref 0)]) (st' := [.ref 0]) (w' := (W_M (mv len fa s.2.2.1 dd sd sg es (p_sk (M 0) len s.1) 0) M2)) rfl ?_
          refine rr_callVI hC (by decide +kernel) kl_11_93 fX11_look (m_look len fa s.2.2.1 dd sd sg es (p_sk (M 0) len s.1) 0 M2 (by omega) (by omega)) rfl rfl rfl rfl rfl (rest := []) rfl rfl ⟨Nat.zero_le _, Nat.zero_le _⟩ (Eq.refl 22) ?_
          show rr_J Z 1 0 0 _ 11 [(0, .ref 0)] [.int (m_lk (M2 0) len (p_sk (M 0) len s.1))] (W_M (mv len fa s.2.2.1 dd sd sg es (p_sk (M 0) len s.1) 0) M2)
          rw [h20]
          rw [show m_lk (M 0) len (p_sk (M 0) len s.1) = c from hc.symm]
          refine rr_go hC bk_X11_reads_11_12 (l' := [(0, .ref 0)]) (st' := [.int (-1), .int c]) (w' := (W_M (mv len fa s.2.2.1 dd sd sg es (p_sk (M 0) len s.1) 0) M2)) rfl ?_
          refine rr_icmp_eq hC (off := 96) (tgt := 108) (by decide +kernel) (fun h12 => ?_) (fun h12 => by  exact absurd hc1 h12)
          exact rr_retvP hC (by decide +kernel) (by have hskl := p_sk_le (M 0) len s.1; have hend : (p_read (M 0) len na H).2 = s.2 ∧ (p_read (M 0) len na H).1 = p_sk (M 0) len s.1 := (by rw [hX, show 240 - n = 0 by omega]; exact ⟨rfl, by show s.1 = _; rw [p_sk_end (by omega)]⟩); exact ⟨rfl, _, _, 0, M2, rfl, by omega, hM2, Or.inl ⟨by rw [hend.1]; exact hq, rfl, by rw [hend.2], by unfold m_RR at hR ⊢; rw [hend.1]; exact hR⟩⟩) ⟨Nat.zero_le _, Nat.zero_le _⟩
        | succ j ih =>
          intro n hk0 hlo0 s M2 hq hX hR hM2 hns hs5
          have h20 : M2 0 = M 0 := hM2 0 (by omega)
          have hskl := p_sk_le (M 0) len s.1
          have htc12 := hR.1.2.2.1
          refine rr_go hC bk_X11_reads_0_4 (l' := [(0, .ref 0)]) (st' := [.int 0]) (w' := (W_M (mv len fa s.2.2.1 dd sd sg es (p_sk (M 0) len s.1) 0) M2)) rfl ?_
          refine rr_if_ne hC (off := 104) (tgt := 108) (by decide +kernel) (fun h4 => by  exact absurd rfl h4) (fun h4 => ?_)
          obtain ⟨c, hc⟩ : ∃ z, z = p_nl (M 0) len s.1 := ⟨_, rfl⟩
          refine rr_go hC bk_X11_reads_7_8 (l' := [(0, .ref 0)]) (st' := [.ref 0]) (w' := (W_M (mv len fa s.2.2.1 dd sd sg es (p_sk (M 0) len s.1) 0) M2)) rfl ?_
          refine rr_callVI hC (by decide +kernel) kl_11_93 fX11_look (m_look len fa s.2.2.1 dd sd sg es (p_sk (M 0) len s.1) 0 M2 (by omega) (by omega)) rfl rfl rfl rfl rfl (rest := []) rfl rfl ⟨Nat.zero_le _, Nat.zero_le _⟩ (Eq.refl 22) ?_
          show rr_J Z 1 0 0 _ 11 [(0, .ref 0)] [.int (m_lk (M2 0) len (p_sk (M 0) len s.1))] (W_M (mv len fa s.2.2.1 dd sd sg es (p_sk (M 0) len s.1) 0) M2)
          rw [h20]
          rw [show m_lk (M 0) len (p_sk (M 0) len s.1) = c from hc.symm]
          refine rr_go hC bk_X11_reads_11_12 (l' := [(0, .ref 0)]) (st' := [.int (-1), .int c]) (w' := (W_M (mv len fa s.2.2.1 dd sd sg es (p_sk (M 0) len s.1) 0) M2)) rfl ?_
          refine rr_icmp_eq hC (off := 96) (tgt := 108) (by decide +kernel) (fun h12 => ?_) (fun h12 => ?_)
          · exact rr_retvP hC (by decide +kernel) (by have hskl := p_sk_le (M 0) len s.1; have hend : (p_read (M 0) len na H).2 = s.2 ∧ (p_read (M 0) len na H).1 = p_sk (M 0) len s.1 := (by rw [hX, show 240 - n = (240 - (n + 1)) + 1 by omega, p_rl_2 _ _ _ s hq (by rw [← hc]; exact h12)]; exact ⟨rfl, rfl⟩); exact ⟨rfl, _, _, 0, M2, rfl, by omega, hM2, Or.inl ⟨by rw [hend.1]; exact hq, rfl, by rw [hend.2], by unfold m_RR at hR ⊢; rw [hend.1]; exact hR⟩⟩) ⟨Nat.zero_le _, Nat.zero_le _⟩
          · have hlt : p_sk (M 0) len s.1 < len := p_nl_lt hc.symm h12
            obtain ⟨s2, hs2⟩ : ∃ z, z = p_skS (M 0) len s := ⟨_, rfl⟩
            have s2a : s2.1 = p_sk (M 0) len s.1 := by rw [hs2]; rfl
            have s2b : s2.2 = s.2 := by rw [hs2]; rfl
            have s2n : p_nl (M 0) len s2.1 = c := by rw [s2a, p_nl_sk, hc]
            have s2s : p_skS (M 0) len s2 = s2 := by rw [hs2, p_skS_sk]
            have s2q : s2.2.2.2.1.1 = 0 := by rw [s2b]; exact hq
            have s2l : s2.1 < len := by rw [s2a]; exact hlt
            have s2R : m_RR M2 s2.2.2.1 s2 := by unfold m_RR at hR ⊢; rw [s2b]; exact hR
            have hrl : (p_read (M 0) len na H) = p_rl (M 0) len (240 - (n + 1)) (p_part (M 0) len s2) := by rw [hX, show 240 - n = (240 - (n + 1)) + 1 by omega, p_rl_3 _ _ _ s hq (by rw [← hc]; exact h12), ← hs2]
            have hge := p_sk_ge (M 0) len s.1
            have s2k : m_lk (M 0) len s2.1 = c := by rw [s2a]; exact hc.symm
            refine rr_cast (l' := [(0, .ref 0)]) rfl (st' := []) rfl (w' := (W_M (mv len fa s2.2.2.1 dd sd sg es s2.1 0) M2)) (by rw [s2a, s2b]) ?_
            refine rr_go hC bk_X11_reads_15_16 (l' := [(0, .ref 0)]) (st' := [.ref 0]) (w' := (W_M (mv len fa s2.2.2.1 dd sd sg es s2.1 0) M2)) rfl ?_
            refine rr_callVI hC (by decide +kernel) kl_11_93 fX11_look (m_look len fa s2.2.2.1 dd sd sg es s2.1 0 M2 (by omega) (by omega)) rfl rfl rfl rfl rfl (rest := []) rfl rfl ⟨Nat.zero_le _, Nat.zero_le _⟩ (Eq.refl 22) ?_
            show rr_J Z 1 0 0 _ 19 [(0, .ref 0)] [.int (m_lk (M2 0) len s2.1)] (W_M (mv len fa s2.2.2.1 dd sd sg es s2.1 0) M2)
            rw [h20]
            rw [s2k]
            refine rr_go hC bk_X11_reads_19_21 (l' := [(0, .ref 0)]) (st' := [.int 116, .int c]) (w' := (W_M (mv len fa s2.2.2.1 dd sd sg es s2.1 0) M2)) rfl ?_
            refine rr_icmp_ne hC (off := 10) (tgt := 31) (by decide +kernel) (fun h21 => ?_) (fun h21 => ?_)
            · refine rr_go hC bk_X11_reads_31_37 (l' := [(0, .ref 0)]) (st' := [.int (M2 5 0)]) (w' := (W_M (mv len fa s2.2.2.1 dd sd sg es s2.1 0) M2)) rfl ?_
              rw [show M2 5 0 = nI s.2.2.2.2.1 from hR.2.1.1]
              refine rr_if_ne hC (off := 11) (tgt := 48) (by decide +kernel) (fun h37 => ?_) (fun h37 => by rw [rr_nl_eq (b := 0) (by omega) (by omega)] at h37; have := hR.1.2.1; omega)
              rw [rr_nl_eq (b := 0) (by omega) (by omega)] at h37
              refine rr_go hC bk_X11_reads_48_49 (l' := [(0, .ref 0)]) (st' := [.ref 0]) (w' := (W_M (mv len fa s2.2.2.1 dd sd sg es s2.1 0) M2)) rfl ?_
              refine rr_callVI hC (by decide +kernel) kl_11_93 fX11_look (m_look len fa s2.2.2.1 dd sd sg es s2.1 0 M2 (by omega) (by omega)) rfl rfl rfl rfl rfl (rest := []) rfl rfl ⟨Nat.zero_le _, Nat.zero_le _⟩ (Eq.refl 22) ?_
              show rr_J Z 1 0 0 _ 52 [(0, .ref 0)] [.int (m_lk (M2 0) len s2.1)] (W_M (mv len fa s2.2.2.1 dd sd sg es s2.1 0) M2)
              rw [h20]
              rw [s2k]
              refine rr_go hC bk_X11_reads_52_54 (l' := [(0, .ref 0)]) (st' := [.int 119, .int c]) (w' := (W_M (mv len fa s2.2.2.1 dd sd sg es s2.1 0) M2)) rfl ?_
              refine rr_icmp_ne hC (off := 10) (tgt := 64) (by decide +kernel) (fun h54 => ?_) (fun h54 => ?_)
              · refine rr_go hC bk_X11_reads_64_65 (l' := [(0, .ref 0)]) (st' := [.ref 0]) (w' := (W_M (mv len fa s2.2.2.1 dd sd sg es s2.1 0) M2)) rfl ?_
                refine rr_callVI hC (by decide +kernel) kl_11_93 fX11_look (m_look len fa s2.2.2.1 dd sd sg es s2.1 0 M2 (by omega) (by omega)) rfl rfl rfl rfl rfl (rest := []) rfl rfl ⟨Nat.zero_le _, Nat.zero_le _⟩ (Eq.refl 22) ?_
                show rr_J Z 1 0 0 _ 68 [(0, .ref 0)] [.int (m_lk (M2 0) len s2.1)] (W_M (mv len fa s2.2.2.1 dd sd sg es s2.1 0) M2)
                rw [h20]
                rw [s2k]
                refine rr_go hC bk_X11_reads_68_70 (l' := [(0, .ref 0)]) (st' := [.int 99, .int c]) (w' := (W_M (mv len fa s2.2.2.1 dd sd sg es s2.1 0) M2)) rfl ?_
                refine rr_icmp_ne hC (off := 10) (tgt := 80) (by decide +kernel) (fun h70 => ?_) (fun h70 => ?_)
                · refine rr_go hC bk_X11_reads_80_81 (l' := [(0, .ref 0)]) (st' := [.ref 0]) (w' := (W_M (mv len fa s2.2.2.1 dd sd sg es s2.1 0) M2)) rfl ?_
                  refine rr_callVI hC (by decide +kernel) kl_11_93 fX11_look (m_look len fa s2.2.2.1 dd sd sg es s2.1 0 M2 (by omega) (by omega)) rfl rfl rfl rfl rfl (rest := []) rfl rfl ⟨Nat.zero_le _, Nat.zero_le _⟩ (Eq.refl 22) ?_
                  show rr_J Z 1 0 0 _ 84 [(0, .ref 0)] [.int (m_lk (M2 0) len s2.1)] (W_M (mv len fa s2.2.2.1 dd sd sg es s2.1 0) M2)
                  rw [h20]
                  rw [s2k]
                  refine rr_go hC bk_X11_reads_84_86 (l' := [(0, .ref 0)]) (st' := [.int 107, .int c]) (w' := (W_M (mv len fa s2.2.2.1 dd sd sg es s2.1 0) M2)) rfl ?_
                  refine rr_icmp_ne hC (off := 10) (tgt := 96) (by decide +kernel) (fun h86 => ?_) (fun h86 => ?_)
                  · refine rr_go hC bk_X11_reads_96_98 (l' := [(0, .ref 0)]) (st' := [.int 1, .ref 0]) (w' := (W_M (mv len fa s2.2.2.1 dd sd sg es s2.1 0) M2)) rfl ?_
                    refine rr_callVI hC (by decide +kernel) kl_11_100 fX11_fails (m_fails len fa s2.2.2.1 dd sd sg es s2.1 0 M2 1) rfl rfl rfl rfl rfl (rest := []) rfl rfl ⟨Nat.zero_le _, Nat.zero_le _⟩ (Eq.refl 22) ?_
                    show rr_J Z 1 0 0 _ 101 [(0, .ref 0)] [] (W_M (mv len fa s2.2.2.1 dd sd sg es s2.1 (if (0 : Int32) = 0 then 1 else 0)) M2)
                    refine rr_cast (l' := [(0, .ref 0)]) rfl (st' := []) rfl (w' := (W_M (mv len fa s2.2.2.1 dd sd sg es s2.1 1) M2)) (by rw [if_pos rfl]) ?_
                    have hpt : p_part (M 0) len s2 = p_pf 1 s2 := by unfold p_part; rw [s2s, s2n, if_neg h54, if_neg h70, if_neg h86, if_neg h21]
                    have hrd3 : (p_read (M 0) len na H) = p_pf 1 s2 := by rw [hrl, hpt]; exact p_rl_f _ _ _ (p_pf_no s2q (by decide))
                    have hQ : (p_read (M 0) len na H).2.2.2.1 = (1, nI s2.1) := by rw [hrd3]; exact p_fl_0 s2q _ _
                    refine rr_go hC bk_X11_reads_101_102 (l' := [(0, .ref 0)]) (st' := [.ref 0]) (w' := (W_M (mv len fa s2.2.2.1 dd sd sg es s2.1 1) M2)) rfl ?_
                    refine rr_callVI hC (by decide +kernel) kl_11_97 fX11_skips (m_skipsW len fa s2.2.2.1 dd sd sg es s2.1 1 M2 (by omega) (by omega) (by decide)) rfl rfl rfl rfl rfl (rest := []) rfl rfl ⟨Nat.zero_le _, Nat.zero_le _⟩ (Eq.refl 22) ?_
                    show rr_J Z 1 0 0 _ 105 [(0, .ref 0)] [] (W_M (mv len fa s2.2.2.1 dd sd sg es s2.1 1) M2)
                    refine rr_go hC bk_X11_reads_105_0 (l' := [(0, .ref 0)]) (st' := []) (w' := (W_M (mv len fa s2.2.2.1 dd sd sg es s2.1 1) M2)) rfl ?_
                    refine rr_go hC bk_X11_reads_0_4 (l' := [(0, .ref 0)]) (st' := [.int 1]) (w' := (W_M (mv len fa s2.2.2.1 dd sd sg es s2.1 1) M2)) rfl ?_
                    refine rr_if_ne hC (off := 104) (tgt := 108) (by decide +kernel) (fun h4 => ?_) (fun h4 => by  exact absurd h4 (by decide))
                    exact rr_retvP hC (by decide +kernel) (by exact ⟨rfl, _, s2.1, 1, M2, rfl, by omega, hM2, Or.inr ⟨by rw [hQ]; exact (show ¬ (1 : Int32) = 0 from by decide), by rw [hQ], by rw [hQ]⟩⟩) ⟨Nat.zero_le _, Nat.zero_le _⟩
                  · refine rr_go hC bk_X11_reads_89_90 (l' := [(0, .ref 0)]) (st' := [.ref 0]) (w' := (W_M (mv len fa s2.2.2.1 dd sd sg es s2.1 0) M2)) rfl ?_
                    refine rr_callVPI hC (by decide +kernel) kl_11_128 fX11_readsClause (m_readsClause len fa dd sd sg es M2 s2 hlen s2l s2q s2R) rfl rfl rfl rfl rfl (rest := []) rfl rfl ⟨Nat.zero_le _, Nat.zero_le _⟩ (by intro r_ w_ h_; obtain ⟨rfl, hd3, a3, wr3, M3, rfl, ha3, hM3, hRO⟩ := h_; exact Eq.refl 22) (fun r_ w_ h_ => ?_)
                    obtain ⟨rfl, hd3, a3, wr3, M3, rfl, ha3, hM3, hRO⟩ := h_
                    show rr_J Z 1 0 0 _ 93 [(0, .ref 0)] [] (W_M (mv len fa hd3 dd sd sg es a3 wr3) M3)
                    rw [h20] at hRO
                    obtain ⟨s3, hs3⟩ : ∃ z, z = p_pk (M 0) len s2 := ⟨_, rfl⟩
                    rw [← hs3] at hRO
                    have hpt : p_part (M 0) len s2 = s3 := by rw [hs3]; unfold p_part; rw [s2s, s2n, if_neg h54, if_neg h70, if_pos h86]
                    rw [hpt] at hrl
                    have hM4 : ∀ i, i < 5 ∨ 8 < i → M3 i = M i := fun i hi => (hM3 i hi).trans (hM2 i hi)
                    rcases hRO with ⟨q1, e1, e2, hR3⟩ | ⟨q1, e1, e2⟩
                    · refine rr_cast (l' := [(0, .ref 0)]) rfl (st' := []) rfl (w' := (W_M (mv len fa s3.2.2.1 dd sd sg es s3.1 0) M3)) (by rw [e1, e2, hR3.1.1]) ?_
                      rw [hR3.1.1] at hR3
                      have h30 : M3 0 = M 0 := hM4 0 (by omega)
                      have hs3l : s3.1 ≤ 500 := by rw [← e2]; exact ha3
                      have hgt : n + 1 ≤ s3.1 := by have := p_pk_gt s2q (by rw [← hs3]; exact q1); rw [← hs3] at this; omega
                      refine rr_go hC bk_X11_reads_93_101 (l' := [(0, .ref 0)]) (st' := []) (w' := (W_M (mv len fa s3.2.2.1 dd sd sg es s3.1 0) M3)) rfl ?_
                      refine rr_go hC bk_X11_reads_101_102 (l' := [(0, .ref 0)]) (st' := [.ref 0]) (w' := (W_M (mv len fa s3.2.2.1 dd sd sg es s3.1 0) M3)) rfl ?_
                      refine rr_callVI hC (by decide +kernel) kl_11_97 fX11_skips (m_skips len fa s3.2.2.1 dd sd sg es s3.1 M3 (by omega) (by omega)) rfl rfl rfl rfl rfl (rest := []) rfl rfl ⟨Nat.zero_le _, Nat.zero_le _⟩ (Eq.refl 22) ?_
                      show rr_J Z 1 0 0 _ 105 [(0, .ref 0)] [] (W_M (mv len fa s3.2.2.1 dd sd sg es (p_sk (M3 0) len s3.1) 0) M3)
                      refine rr_cast (l' := [(0, .ref 0)]) rfl (st' := []) rfl (w' := (W_M (mv len fa s3.2.2.1 dd sd sg es (p_sk (M 0) len s3.1) 0) M3)) (by rw [h30]) ?_
                      refine rr_go hC bk_X11_reads_105_0 (l' := [(0, .ref 0)]) (st' := []) (w' := (W_M (mv len fa s3.2.2.1 dd sd sg es (p_sk (M 0) len s3.1) 0) M3)) rfl ?_
                      exact rr_cast (l' := [(0, .ref 0)]) (by rfl) rfl (w' := (W_M (mv len fa s3.2.2.1 dd sd sg es (p_sk (M 0) len s3.1) 0) M3)) (by rfl) (ih (n + 1) (by omega) (by omega) s3 M3 q1 hrl hR3 hM4 hgt hs3l)
                    · have hnz3 : ¬ wr3 = 0 := by rw [e1]; exact q1
                      have hrd3 : (p_read (M 0) len na H) = s3 := by rw [hrl]; exact p_rl_f _ _ _ q1
                      refine rr_go hC bk_X11_reads_93_101 (l' := [(0, .ref 0)]) (st' := []) (w' := (W_M (mv len fa hd3 dd sd sg es a3 wr3) M3)) rfl ?_
                      refine rr_go hC bk_X11_reads_101_102 (l' := [(0, .ref 0)]) (st' := [.ref 0]) (w' := (W_M (mv len fa hd3 dd sd sg es a3 wr3) M3)) rfl ?_
                      refine rr_callVI hC (by decide +kernel) kl_11_97 fX11_skips (m_skipsW len fa hd3 dd sd sg es a3 wr3 M3 (by omega) (by omega) hnz3) rfl rfl rfl rfl rfl (rest := []) rfl rfl ⟨Nat.zero_le _, Nat.zero_le _⟩ (Eq.refl 22) ?_
                      show rr_J Z 1 0 0 _ 105 [(0, .ref 0)] [] (W_M (mv len fa hd3 dd sd sg es a3 wr3) M3)
                      refine rr_go hC bk_X11_reads_105_0 (l' := [(0, .ref 0)]) (st' := []) (w' := (W_M (mv len fa hd3 dd sd sg es a3 wr3) M3)) rfl ?_
                      refine rr_go hC bk_X11_reads_0_4 (l' := [(0, .ref 0)]) (st' := [.int wr3]) (w' := (W_M (mv len fa hd3 dd sd sg es a3 wr3) M3)) rfl ?_
                      refine rr_if_ne hC (off := 104) (tgt := 108) (by decide +kernel) (fun h4 => ?_) (fun h4 => by  exact absurd h4 hnz3)
                      exact rr_retvP hC (by decide +kernel) (by exact ⟨rfl, hd3, a3, wr3, M3, rfl, ha3, hM4, by rw [hrd3]; exact Or.inr ⟨q1, e1, e2⟩⟩) ⟨Nat.zero_le _, Nat.zero_le _⟩
                · refine rr_go hC bk_X11_reads_73_74 (l' := [(0, .ref 0)]) (st' := [.ref 0]) (w' := (W_M (mv len fa s2.2.2.1 dd sd sg es s2.1 0) M2)) rfl ?_
                  refine rr_callVPI hC (by decide +kernel) kl_11_125 fX11_readsCell (m_readsCell len fa dd sd sg es M2 s2 hlen s2l s2q s2R) rfl rfl rfl rfl rfl (rest := []) rfl rfl ⟨Nat.zero_le _, Nat.zero_le _⟩ (by intro r_ w_ h_; obtain ⟨rfl, hd3, a3, wr3, M3, rfl, ha3, hM3, hRO⟩ := h_; exact Eq.refl 22) (fun r_ w_ h_ => ?_)
                  obtain ⟨rfl, hd3, a3, wr3, M3, rfl, ha3, hM3, hRO⟩ := h_
                  show rr_J Z 1 0 0 _ 77 [(0, .ref 0)] [] (W_M (mv len fa hd3 dd sd sg es a3 wr3) M3)
                  rw [h20] at hRO
                  obtain ⟨s3, hs3⟩ : ∃ z, z = p_pc (M 0) len s2 := ⟨_, rfl⟩
                  rw [← hs3] at hRO
                  have hpt : p_part (M 0) len s2 = s3 := by rw [hs3]; unfold p_part; rw [s2s, s2n, if_neg h54, if_pos h70]
                  rw [hpt] at hrl
                  have hM4 : ∀ i, i < 5 ∨ 8 < i → M3 i = M i := fun i hi => (hM3 i hi).trans (hM2 i hi)
                  rcases hRO with ⟨q1, e1, e2, hR3⟩ | ⟨q1, e1, e2⟩
                  · refine rr_cast (l' := [(0, .ref 0)]) rfl (st' := []) rfl (w' := (W_M (mv len fa s3.2.2.1 dd sd sg es s3.1 0) M3)) (by rw [e1, e2, hR3.1.1]) ?_
                    rw [hR3.1.1] at hR3
                    have h30 : M3 0 = M 0 := hM4 0 (by omega)
                    have hs3l : s3.1 ≤ 500 := by rw [← e2]; exact ha3
                    have hgt : n + 1 ≤ s3.1 := by have := p_pc_gt s2q (by rw [← hs3]; exact q1); rw [← hs3] at this; omega
                    refine rr_go hC bk_X11_reads_77_101 (l' := [(0, .ref 0)]) (st' := []) (w' := (W_M (mv len fa s3.2.2.1 dd sd sg es s3.1 0) M3)) rfl ?_
                    refine rr_go hC bk_X11_reads_101_102 (l' := [(0, .ref 0)]) (st' := [.ref 0]) (w' := (W_M (mv len fa s3.2.2.1 dd sd sg es s3.1 0) M3)) rfl ?_
                    refine rr_callVI hC (by decide +kernel) kl_11_97 fX11_skips (m_skips len fa s3.2.2.1 dd sd sg es s3.1 M3 (by omega) (by omega)) rfl rfl rfl rfl rfl (rest := []) rfl rfl ⟨Nat.zero_le _, Nat.zero_le _⟩ (Eq.refl 22) ?_
                    show rr_J Z 1 0 0 _ 105 [(0, .ref 0)] [] (W_M (mv len fa s3.2.2.1 dd sd sg es (p_sk (M3 0) len s3.1) 0) M3)
                    refine rr_cast (l' := [(0, .ref 0)]) rfl (st' := []) rfl (w' := (W_M (mv len fa s3.2.2.1 dd sd sg es (p_sk (M 0) len s3.1) 0) M3)) (by rw [h30]) ?_
                    refine rr_go hC bk_X11_reads_105_0 (l' := [(0, .ref 0)]) (st' := []) (w' := (W_M (mv len fa s3.2.2.1 dd sd sg es (p_sk (M 0) len s3.1) 0) M3)) rfl ?_
                    exact rr_cast (l' := [(0, .ref 0)]) (by rfl) rfl (w' := (W_M (mv len fa s3.2.2.1 dd sd sg es (p_sk (M 0) len s3.1) 0) M3)) (by rfl) (ih (n + 1) (by omega) (by omega) s3 M3 q1 hrl hR3 hM4 hgt hs3l)
                  · have hnz3 : ¬ wr3 = 0 := by rw [e1]; exact q1
                    have hrd3 : (p_read (M 0) len na H) = s3 := by rw [hrl]; exact p_rl_f _ _ _ q1
                    refine rr_go hC bk_X11_reads_77_101 (l' := [(0, .ref 0)]) (st' := []) (w' := (W_M (mv len fa hd3 dd sd sg es a3 wr3) M3)) rfl ?_
                    refine rr_go hC bk_X11_reads_101_102 (l' := [(0, .ref 0)]) (st' := [.ref 0]) (w' := (W_M (mv len fa hd3 dd sd sg es a3 wr3) M3)) rfl ?_
                    refine rr_callVI hC (by decide +kernel) kl_11_97 fX11_skips (m_skipsW len fa hd3 dd sd sg es a3 wr3 M3 (by omega) (by omega) hnz3) rfl rfl rfl rfl rfl (rest := []) rfl rfl ⟨Nat.zero_le _, Nat.zero_le _⟩ (Eq.refl 22) ?_
                    show rr_J Z 1 0 0 _ 105 [(0, .ref 0)] [] (W_M (mv len fa hd3 dd sd sg es a3 wr3) M3)
                    refine rr_go hC bk_X11_reads_105_0 (l' := [(0, .ref 0)]) (st' := []) (w' := (W_M (mv len fa hd3 dd sd sg es a3 wr3) M3)) rfl ?_
                    refine rr_go hC bk_X11_reads_0_4 (l' := [(0, .ref 0)]) (st' := [.int wr3]) (w' := (W_M (mv len fa hd3 dd sd sg es a3 wr3) M3)) rfl ?_
                    refine rr_if_ne hC (off := 104) (tgt := 108) (by decide +kernel) (fun h4 => ?_) (fun h4 => by  exact absurd h4 hnz3)
                    exact rr_retvP hC (by decide +kernel) (by exact ⟨rfl, hd3, a3, wr3, M3, rfl, ha3, hM4, by rw [hrd3]; exact Or.inr ⟨q1, e1, e2⟩⟩) ⟨Nat.zero_le _, Nat.zero_le _⟩
              · refine rr_go hC bk_X11_reads_57_58 (l' := [(0, .ref 0)]) (st' := [.ref 0]) (w' := (W_M (mv len fa s2.2.2.1 dd sd sg es s2.1 0) M2)) rfl ?_
                refine rr_callVPI hC (by decide +kernel) kl_11_122 fX11_readsWind (m_readsWind len fa dd sd sg es M2 s2 hlen s2l s2q s2R) rfl rfl rfl rfl rfl (rest := []) rfl rfl ⟨Nat.zero_le _, Nat.zero_le _⟩ (by intro r_ w_ h_; obtain ⟨rfl, hd3, a3, wr3, M3, rfl, ha3, hM3, hRO⟩ := h_; exact Eq.refl 22) (fun r_ w_ h_ => ?_)
                obtain ⟨rfl, hd3, a3, wr3, M3, rfl, ha3, hM3, hRO⟩ := h_
                show rr_J Z 1 0 0 _ 61 [(0, .ref 0)] [] (W_M (mv len fa hd3 dd sd sg es a3 wr3) M3)
                rw [h20] at hRO
                obtain ⟨s3, hs3⟩ : ∃ z, z = p_pw (M 0) len s2 := ⟨_, rfl⟩
                rw [← hs3] at hRO
                have hpt : p_part (M 0) len s2 = s3 := by rw [hs3]; unfold p_part; rw [s2s, s2n, if_pos h54]
                rw [hpt] at hrl
                have hM4 : ∀ i, i < 5 ∨ 8 < i → M3 i = M i := fun i hi => (hM3 i hi).trans (hM2 i hi)
                rcases hRO with ⟨q1, e1, e2, hR3⟩ | ⟨q1, e1, e2⟩
                · refine rr_cast (l' := [(0, .ref 0)]) rfl (st' := []) rfl (w' := (W_M (mv len fa s3.2.2.1 dd sd sg es s3.1 0) M3)) (by rw [e1, e2, hR3.1.1]) ?_
                  rw [hR3.1.1] at hR3
                  have h30 : M3 0 = M 0 := hM4 0 (by omega)
                  have hs3l : s3.1 ≤ 500 := by rw [← e2]; exact ha3
                  have hgt : n + 1 ≤ s3.1 := by have := p_pw_gt s2q (by rw [← hs3]; exact q1); rw [← hs3] at this; omega
                  refine rr_go hC bk_X11_reads_61_101 (l' := [(0, .ref 0)]) (st' := []) (w' := (W_M (mv len fa s3.2.2.1 dd sd sg es s3.1 0) M3)) rfl ?_
                  refine rr_go hC bk_X11_reads_101_102 (l' := [(0, .ref 0)]) (st' := [.ref 0]) (w' := (W_M (mv len fa s3.2.2.1 dd sd sg es s3.1 0) M3)) rfl ?_
                  refine rr_callVI hC (by decide +kernel) kl_11_97 fX11_skips (m_skips len fa s3.2.2.1 dd sd sg es s3.1 M3 (by omega) (by omega)) rfl rfl rfl rfl rfl (rest := []) rfl rfl ⟨Nat.zero_le _, Nat.zero_le _⟩ (Eq.refl 22) ?_
                  show rr_J Z 1 0 0 _ 105 [(0, .ref 0)] [] (W_M (mv len fa s3.2.2.1 dd sd sg es (p_sk (M3 0) len s3.1) 0) M3)
                  refine rr_cast (l' := [(0, .ref 0)]) rfl (st' := []) rfl (w' := (W_M (mv len fa s3.2.2.1 dd sd sg es (p_sk (M 0) len s3.1) 0) M3)) (by rw [h30]) ?_
                  refine rr_go hC bk_X11_reads_105_0 (l' := [(0, .ref 0)]) (st' := []) (w' := (W_M (mv len fa s3.2.2.1 dd sd sg es (p_sk (M 0) len s3.1) 0) M3)) rfl ?_
                  exact rr_cast (l' := [(0, .ref 0)]) (by rfl) rfl (w' := (W_M (mv len fa s3.2.2.1 dd sd sg es (p_sk (M 0) len s3.1) 0) M3)) (by rfl) (ih (n + 1) (by omega) (by omega) s3 M3 q1 hrl hR3 hM4 hgt hs3l)
                · have hnz3 : ¬ wr3 = 0 := by rw [e1]; exact q1
                  have hrd3 : (p_read (M 0) len na H) = s3 := by rw [hrl]; exact p_rl_f _ _ _ q1
                  refine rr_go hC bk_X11_reads_61_101 (l' := [(0, .ref 0)]) (st' := []) (w' := (W_M (mv len fa hd3 dd sd sg es a3 wr3) M3)) rfl ?_
                  refine rr_go hC bk_X11_reads_101_102 (l' := [(0, .ref 0)]) (st' := [.ref 0]) (w' := (W_M (mv len fa hd3 dd sd sg es a3 wr3) M3)) rfl ?_
                  refine rr_callVI hC (by decide +kernel) kl_11_97 fX11_skips (m_skipsW len fa hd3 dd sd sg es a3 wr3 M3 (by omega) (by omega) hnz3) rfl rfl rfl rfl rfl (rest := []) rfl rfl ⟨Nat.zero_le _, Nat.zero_le _⟩ (Eq.refl 22) ?_
                  show rr_J Z 1 0 0 _ 105 [(0, .ref 0)] [] (W_M (mv len fa hd3 dd sd sg es a3 wr3) M3)
                  refine rr_go hC bk_X11_reads_105_0 (l' := [(0, .ref 0)]) (st' := []) (w' := (W_M (mv len fa hd3 dd sd sg es a3 wr3) M3)) rfl ?_
                  refine rr_go hC bk_X11_reads_0_4 (l' := [(0, .ref 0)]) (st' := [.int wr3]) (w' := (W_M (mv len fa hd3 dd sd sg es a3 wr3) M3)) rfl ?_
                  refine rr_if_ne hC (off := 104) (tgt := 108) (by decide +kernel) (fun h4 => ?_) (fun h4 => by  exact absurd h4 hnz3)
                  exact rr_retvP hC (by decide +kernel) (by exact ⟨rfl, hd3, a3, wr3, M3, rfl, ha3, hM4, by rw [hrd3]; exact Or.inr ⟨q1, e1, e2⟩⟩) ⟨Nat.zero_le _, Nat.zero_le _⟩
            · refine rr_go hC bk_X11_reads_24_25 (l' := [(0, .ref 0)]) (st' := [.ref 0]) (w' := (W_M (mv len fa s2.2.2.1 dd sd sg es s2.1 0) M2)) rfl ?_
              refine rr_callVPI hC (by decide +kernel) kl_11_119 fX11_readsTides (m_readsTidesF len fa dd sd sg es M2 s2 hlen s2l s2q s2R) rfl rfl rfl rfl rfl (rest := []) rfl rfl ⟨Nat.zero_le _, Nat.zero_le _⟩ (by intro r_ w_ h_; obtain ⟨rfl, hd3, a3, wr3, M3, rfl, ha3, hM3, hRO⟩ := h_; exact Eq.refl 22) (fun r_ w_ h_ => ?_)
              obtain ⟨rfl, hd3, a3, wr3, M3, rfl, ha3, hM3, hRO⟩ := h_
              show rr_J Z 1 0 0 _ 28 [(0, .ref 0)] [] (W_M (mv len fa hd3 dd sd sg es a3 wr3) M3)
              obtain ⟨s3, hs3⟩ : ∃ z, z = p_pf 3 s2 := ⟨_, rfl⟩
              rw [← hs3] at hRO
              have hpt : p_part (M 0) len s2 = s3 := by rw [hs3]; unfold p_part; rw [s2s, s2n, if_neg (by rw [h21]; decide), if_neg (by rw [h21]; decide), if_neg (by rw [h21]; decide), if_pos h21]
              rw [hpt] at hrl
              have hM4 : ∀ i, i < 5 ∨ 8 < i → M3 i = M i := fun i hi => (hM3 i hi).trans (hM2 i hi)
              rcases hRO with ⟨q1, e1, e2, hR3⟩ | ⟨q1, e1, e2⟩
              · exact absurd q1 (by rw [hs3]; exact p_pf_no s2q (by decide))
              · have hnz3 : ¬ wr3 = 0 := by rw [e1]; exact q1
                have hrd3 : (p_read (M 0) len na H) = s3 := by rw [hrl]; exact p_rl_f _ _ _ q1
                refine rr_go hC bk_X11_reads_28_101 (l' := [(0, .ref 0)]) (st' := []) (w' := (W_M (mv len fa hd3 dd sd sg es a3 wr3) M3)) rfl ?_
                refine rr_go hC bk_X11_reads_101_102 (l' := [(0, .ref 0)]) (st' := [.ref 0]) (w' := (W_M (mv len fa hd3 dd sd sg es a3 wr3) M3)) rfl ?_
                refine rr_callVI hC (by decide +kernel) kl_11_97 fX11_skips (m_skipsW len fa hd3 dd sd sg es a3 wr3 M3 (by omega) (by omega) hnz3) rfl rfl rfl rfl rfl (rest := []) rfl rfl ⟨Nat.zero_le _, Nat.zero_le _⟩ (Eq.refl 22) ?_
                show rr_J Z 1 0 0 _ 105 [(0, .ref 0)] [] (W_M (mv len fa hd3 dd sd sg es a3 wr3) M3)
                refine rr_go hC bk_X11_reads_105_0 (l' := [(0, .ref 0)]) (st' := []) (w' := (W_M (mv len fa hd3 dd sd sg es a3 wr3) M3)) rfl ?_
                refine rr_go hC bk_X11_reads_0_4 (l' := [(0, .ref 0)]) (st' := [.int wr3]) (w' := (W_M (mv len fa hd3 dd sd sg es a3 wr3) M3)) rfl ?_
                refine rr_if_ne hC (off := 104) (tgt := 108) (by decide +kernel) (fun h4 => ?_) (fun h4 => by  exact absurd h4 hnz3)
                exact rr_retvP hC (by decide +kernel) (by exact ⟨rfl, hd3, a3, wr3, M3, rfl, ha3, hM4, by rw [hrd3]; exact Or.inr ⟨q1, e1, e2⟩⟩) ⟨Nat.zero_le _, Nat.zero_le _⟩
      exact rr_cast (l' := [(0, .ref 0)]) (by rfl) rfl (w' := (W_M (mv len fa s3.2.2.1 dd sd sg es (p_sk (M 0) len s3.1) 0) M3)) (by rfl) (lp0 (240 - 0) 0 (by omega) (Nat.le_refl _) s3 M3 q1 hrl hR3 hM4 (Nat.zero_le _) hs3l)
    · have hnz3 : ¬ wr3 = 0 := by rw [e1]; exact q1
      have hrd3 : (p_read (M 0) len na H) = s3 := by rw [hrl]; exact p_rl_f _ _ _ q1
      refine rr_go hC bk_X11_reads_28_101 (l' := [(0, .ref 0)]) (st' := []) (w' := (W_M (mv len fa hd3 dd sd sg es a3 wr3) M3)) rfl ?_
      refine rr_go hC bk_X11_reads_101_102 (l' := [(0, .ref 0)]) (st' := [.ref 0]) (w' := (W_M (mv len fa hd3 dd sd sg es a3 wr3) M3)) rfl ?_
      refine rr_callVI hC (by decide +kernel) kl_11_97 fX11_skips (m_skipsW len fa hd3 dd sd sg es a3 wr3 M3 (by omega) (by omega) hnz3) rfl rfl rfl rfl rfl (rest := []) rfl rfl ⟨Nat.zero_le _, Nat.zero_le _⟩ (Eq.refl 22) ?_
      show rr_J Z 1 0 0 _ 105 [(0, .ref 0)] [] (W_M (mv len fa hd3 dd sd sg es a3 wr3) M3)
      refine rr_go hC bk_X11_reads_105_0 (l' := [(0, .ref 0)]) (st' := []) (w' := (W_M (mv len fa hd3 dd sd sg es a3 wr3) M3)) rfl ?_
      refine rr_go hC bk_X11_reads_0_4 (l' := [(0, .ref 0)]) (st' := [.int wr3]) (w' := (W_M (mv len fa hd3 dd sd sg es a3 wr3) M3)) rfl ?_
      refine rr_if_ne hC (off := 104) (tgt := 108) (by decide +kernel) (fun h4 => ?_) (fun h4 => by  exact absurd h4 hnz3)
      exact rr_retvP hC (by decide +kernel) (by exact ⟨rfl, hd3, a3, wr3, M3, rfl, ha3, hM4, by rw [hrd3]; exact Or.inr ⟨q1, e1, e2⟩⟩) ⟨Nat.zero_le _, Nat.zero_le _⟩
