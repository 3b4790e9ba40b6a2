/-! the model: forceBy, isSo, begins, agreed, lookAt -/
theorem en_u0 (q : p_Q) {k : Nat} (hk : k < 6) (x : Int32) : upd (en q) (4 + 3 * k) (x + 1) = en (q.1, q.2.1, q.2.2.1, q.2.2.2.1, va_up q.2.2.2.2 0 (upd (q.2.2.2.2 0) k x)) := by
  apply en_ext
  · rw [pk_un (by omega), en_0]
  · rw [pk_un (by omega), en_1]
  · rw [pk_un (by omega), en_2]
  · rw [pk_un (by omega), en_3]
  · intro j hj
    show _ = upd (q.2.2.2.2 0) k x j + 1
    by_cases e : j = k
    · subst e
      rw [pk_us, pk_us]
    · rw [pk_un (by omega), pk_un e, en_c q hj]
  · intro j hj
    rw [pk_un (by omega), en_w q hj]; rfl
  · intro j hj
    rw [pk_un (by omega), en_d q hj]; rfl
  · intro i hi
    rw [pk_un (by omega), en_o q hi]
theorem p_zer_at (f : Nat → Int32) (n i : Nat) : p_zer f n i = if i < n then 0 else f i := by
  induction n with
  | zero => rfl
  | succ n ih =>
    show upd (p_zer f n) n 0 i = _
    by_cases e : i = n
    · subst e
      rw [pk_us, if_pos (by omega)]
    · rw [pk_un e, ih]
      by_cases e2 : i < n
      · rw [if_pos e2, if_pos (by omega)]
      · rw [if_neg e2, if_neg (by omega)]
def m_ly (G : Nat → Nat → Int32) (b n : Nat) : p_Q := (b, -1, 0, 0, p_lay (p_rsS p_T0 6) G n)
theorem m_ly_at (G : Nat → Nat → Int32) (b n : Nat) {k : Nat} (hk : k < 6) : (m_ly G b n).2.2.2.2 0 k = (if k < n then nI k else -1) ∧ (m_ly G b n).2.2.2.2 1 k = (if k < n then G 2 k else 0) ∧ (m_ly G b n).2.2.2.2 2 k = 0 := by
  obtain ⟨a, c, d⟩ := p_lay_at (p_rsS p_T0 6) G n k
  obtain ⟨e, f, h⟩ := p_rsS_at p_T0 6 k hk
  show p_lay (p_rsS p_T0 6) G n 0 k = _ ∧ p_lay (p_rsS p_T0 6) G n 1 k = _ ∧ p_lay (p_rsS p_T0 6) G n 2 k = _
  rw [a, c, d, e, f, h]
  exact ⟨rfl, rfl, rfl⟩
theorem m_ly_0 (G : Nat → Nat → Int32) (b : Nat) (t : p_Q) : upd (p_zer (en t) 22) 0 (nI b) = en (m_ly G b 0) := by
  have z : ∀ i, i < 22 → p_zer (en t) 22 i = 0 := fun i hi => by rw [p_zer_at, if_pos hi]
  apply en_ext
  · rw [pk_us]; rfl
  · rw [pk_un (by omega), z 1 (by omega)]; exact (show (0 : Int32) = -1 + 1 by decide)
  · rw [pk_un (by omega), z 2 (by omega)]; rfl
  · rw [pk_un (by omega), z 3 (by omega)]; rfl
  · intro k hk
    rw [pk_un (by omega), z _ (by omega), (m_ly_at G b 0 hk).1, if_neg (by omega)]; decide
  · intro k hk
    rw [pk_un (by omega), z _ (by omega), (m_ly_at G b 0 hk).2.1, if_neg (by omega)]
  · intro k hk
    rw [pk_un (by omega), z _ (by omega), (m_ly_at G b 0 hk).2.2]
  · intro i hi
    rw [pk_un (by omega), p_zer_at, if_neg (by omega), en_o t hi]
theorem m_ly_s (G : Nat → Nat → Int32) (b : Nat) {k : Nat} (hk : k < 6) : upd (upd (en (m_ly G b k)) (4 + 3 * k) (nI (k + 1))) ((4 + 3 * k) + 1) (G 2 k) = en (m_ly G b (k + 1)) := by
  rw [← nI_1, en_u0 _ hk, en_u1 _ hk]
  rfl
theorem m_ly_n (G : Nat → Nat → Int32) (b : Nat) {k n : Nat} (hk : k < 6) (hn : n ≤ k) : upd (upd (en (m_ly G b n)) (4 + 3 * k) 0) ((4 + 3 * k) + 1) 0 = en (m_ly G b n) := by
  obtain ⟨h0, h1, _⟩ := m_ly_at G b n hk
  rw [p_upd_i (en (m_ly G b n)) (4 + 3 * k) (by rw [en_c _ hk, h0, if_neg (by omega)]; decide), p_upd_i (en (m_ly G b n)) ((4 + 3 * k) + 1) (by rw [en_w _ hk, h1, if_neg (by omega)])]
theorem m_ly_I {G : Nat → Nat → Int32} {cc kc : Nat} (b : Nat) (hkc : kc ≤ 6) (hK : ∀ j, j < kc → ∃ t : Nat, G 2 j = nI t ∧ 1 ≤ t ∧ t ≤ 6) : m_I G cc kc (m_ly G b (min kc cc)) := by
  refine ⟨⟨fun j hj => ?_, fun j hj hs => ?_⟩, fun j hj h0 => ?_⟩
  · obtain ⟨a, c, _⟩ := m_ly_at G b (min kc cc) hj
    rw [a, c]
    by_cases e : j < min kc cc
    · rw [if_pos e, if_pos e]
      refine ⟨Or.inr ⟨by omega, j, by omega, rfl⟩, fun hj2 => ?_⟩
      obtain ⟨t, h1, h2, h3⟩ := hK j hj2
      exact ⟨t, t, h1, h1, Nat.le_refl _, h2, h3⟩
    · rw [if_neg e, if_neg e]
      refine ⟨Or.inl rfl, fun hj2 => ?_⟩
      obtain ⟨t, h1, h2, h3⟩ := hK j hj2
      exact ⟨0, t, rfl, h1, by omega, h2, h3⟩
  · exact absurd hs.symm (p_nm1 (by omega))
  · obtain ⟨a, c, d⟩ := m_ly_at G b (min kc cc) hj
    rw [a] at h0
    rw [c, d]
    by_cases e : j < min kc cc
    · rw [if_pos e] at h0
      exact absurd h0 (p_nm1 (by omega))
    · rw [if_neg e]
      exact ⟨rfl, rfl⟩
theorem m_ly_q (G : Nat → Nat → Int32) (cc kc b : Nat) : m_ly G b (min kc cc) = p_layq G cc kc b p_T0 := rfl
/-- all that was seen is so, if the hour was b at first -/
def m_so (V : Nat → Nat → Int32) (G : Nat → Nat → Int32) (tc wd cc kc b : Nat) (n : Nat) : Bool := p_all (fun i => decide (p_bit (p_fo G tc wd cc kc b (V 1 i).toNatClampNeg) (V 0 i) = V 2 i)) n
/-- how many of the begins bs have clause k in force, where F tells what is -/
def m_cf (F : Nat → Int32) (bs : Int32) (k : Nat) : Nat → Int32
  | 0 => 0
  | b + 1 => if p_bit bs (nI b) = 0 then m_cf F bs k b else m_cf F bs k b + p_bit (F b) (nI k)
/-- the least of the begins bs from b on -/
def m_fb (bs : Int32) : Nat → Int32
  | 0 => -1
  | k + 1 => if p_bit bs (nI (11 - k)) = 0 then m_fb bs k else nI (11 - k)
theorem bk_X11_forceBy_0_2 : rr_chk mX11_forceBy [(.iconst 0, 0, 0, 0), (.istore_n 3, 0, 3, 0)] 0 2 = true := by decide +kernel
theorem bk_X11_forceBy_2_5 : rr_chk mX11_forceBy [(.iload_n 3, 0, 3, 0), (.bipush 22, 22, 0, 0)] 2 5 = true := by decide +kernel
theorem bk_X11_forceBy_21_28 : rr_chk mX11_forceBy [(.aload_n 0, 0, 0, 0), (.getfield 44, 0, 11, 13), (.iconst 0, 0, 0, 0), (.iload_n 1, 0, 1, 0), (.iastore, 0, 0, 0)] 21 28 = true := by decide +kernel
theorem bk_X11_forceBy_28_30 : rr_chk mX11_forceBy [(.iconst 0, 0, 0, 0), (.istore_n 3, 0, 3, 0)] 28 30 = true := by decide +kernel
theorem bk_X11_forceBy_30_37 : rr_chk mX11_forceBy [(.iload_n 3, 0, 3, 0), (.aload_n 0, 0, 0, 0), (.getfield 17, 0, 11, 3), (.iconst 2, 2, 0, 0), (.iaload, 0, 2, 0)] 30 37 = true := by decide +kernel
theorem bk_X11_forceBy_107_109 : rr_chk mX11_forceBy [(.iconst 0, 0, 0, 0), (.istore_n 3, 0, 3, 0)] 107 109 = true := by decide +kernel
theorem bk_X11_forceBy_109_111 : rr_chk mX11_forceBy [(.iload_n 3, 0, 3, 0), (.iload_n 2, 0, 2, 0)] 109 111 = true := by decide +kernel
theorem bk_X11_forceBy_128_133 : rr_chk mX11_forceBy [(.aload_n 0, 0, 0, 0), (.aload_n 0, 0, 0, 0), (.getfield 44, 0, 11, 13)] 128 133 = true := by decide +kernel
theorem bk_X11_forceBy_114_119 : rr_chk mX11_forceBy [(.aload_n 0, 0, 0, 0), (.aload_n 0, 0, 0, 0), (.getfield 44, 0, 11, 13)] 114 119 = true := by decide +kernel
theorem bk_X11_forceBy_122_109 : rr_chk mX11_forceBy [(.iinc 3 1, 1, 3, 0), (.goto (-16), 0, 0, 0)] 122 109 = true := by decide +kernel
theorem bk_X11_forceBy_40_56 : rr_chk mX11_forceBy [(.aload_n 0, 0, 0, 0), (.getfield 44, 0, 11, 13), (.iconst 4, 4, 0, 0), (.iconst 3, 3, 0, 0), (.iload_n 3, 0, 3, 0), (.imul, 0, 0, 0), (.iadd, 0, 0, 0), (.iload_n 3, 0, 3, 0), (.aload_n 0, 0, 0, 0), (.getfield 17, 0, 11, 3), (.iconst 1, 1, 0, 0), (.iaload, 0, 1, 0)] 40 56 = true := by decide +kernel
theorem bk_X11_forceBy_65_66 : rr_chk mX11_forceBy [(.iconst 0, 0, 0, 0)] 65 66 = true := by decide +kernel
theorem bk_X11_forceBy_67_85 : rr_chk mX11_forceBy [(.aload_n 0, 0, 0, 0), (.getfield 44, 0, 11, 13), (.iconst 4, 4, 0, 0), (.iconst 3, 3, 0, 0), (.iload_n 3, 0, 3, 0), (.imul, 0, 0, 0), (.iadd, 0, 0, 0), (.iconst 1, 1, 0, 0), (.iadd, 0, 0, 0), (.iload_n 3, 0, 3, 0), (.aload_n 0, 0, 0, 0), (.getfield 17, 0, 11, 3), (.iconst 1, 1, 0, 0), (.iaload, 0, 1, 0)] 67 85 = true := by decide +kernel
theorem bk_X11_forceBy_99_100 : rr_chk mX11_forceBy [(.iconst 0, 0, 0, 0)] 99 100 = true := by decide +kernel
theorem bk_X11_forceBy_101_30 : rr_chk mX11_forceBy [(.iinc 3 1, 1, 3, 0), (.goto (-74), 0, 0, 0)] 101 30 = true := by decide +kernel
theorem bk_X11_forceBy_59_66 : rr_chk mX11_forceBy [(.iload_n 3, 0, 3, 0), (.iconst 1, 1, 0, 0), (.iadd, 0, 0, 0), (.goto 4, 0, 0, 0)] 59 66 = true := by decide +kernel
theorem bk_X11_forceBy_88_95 : rr_chk mX11_forceBy [(.aload_n 0, 0, 0, 0), (.getfield 26, 0, 11, 6), (.iconst 4, 4, 0, 0), (.iload_n 3, 0, 3, 0), (.imul, 0, 0, 0)] 88 95 = true := by decide +kernel
theorem bk_X11_forceBy_96_100 : rr_chk mX11_forceBy [(.goto 4, 0, 0, 0)] 96 100 = true := by decide +kernel
theorem bk_X11_forceBy_8_14 : rr_chk mX11_forceBy [(.aload_n 0, 0, 0, 0), (.getfield 44, 0, 11, 13), (.iload_n 3, 0, 3, 0), (.iconst 0, 0, 0, 0)] 8 14 = true := by decide +kernel
theorem bk_X11_forceBy_15_2 : rr_chk mX11_forceBy [(.iinc 3 1, 1, 3, 0), (.goto (-16), 0, 0, 0)] 15 2 = true := by decide +kernel
set_option maxRecDepth 100000 in
set_option maxHeartbeats 4000000 in
theorem m_forceBy (len : Nat) (fa : Int32) (hd : Bool) (dd : Nat) (sd : Int32) (sg es a : Nat) (wr : Int32) (M : Nat → Nat → Int32) (tc wd cc kc : Nat) (G : Nat → Nat → Int32) (hG : m_G M G tc wd cc kc) (t : p_Q) (ht : M 10 = en t) (b h : Nat) (htc : tc ≤ 12) (hcc : cc ≤ 9) (hkc : kc ≤ 6) (h0c : 0 < cc → 0 < tc) (h0k : 0 < kc → 0 < tc) (hK : ∀ j, j < kc → ∃ t : Nat, G 2 j = nI t ∧ 1 ≤ t ∧ t ≤ 6) (hb : b < 12) (hh : h ≤ 60) : rr_C mX11_forceBy 4 [.ref 0, .int (nI b), .int (nI h)] (W_M (mv len fa hd dd sd sg es a wr) M) 0 0 (some (p_fo G tc wd cc kc b h)) (W_M (mv len fa hd dd sd sg es a wr) (va_up M 10 (en (p_it G tc wd kc (m_ly G b (min kc cc)) h)))) := by
  refine rr_C.of (n := 2) fX11_forceBy.1 rfl rfl (fun Z hC => ?_)
  show rr_J Z 4 0 0 (rr_MQ Z 0 0 (some (p_fo G tc wd cc kc b h)) (W_M (mv len fa hd dd sd sg es a wr) (va_up M 10 (en (p_it G tc wd kc (m_ly G b (min kc cc)) h))))) 0 [(0, .ref 0), (1, .int (nI b)), (2, .int (nI h))] [] (W_M (mv len fa hd dd sd sg es a wr) M)
  refine rr_go hC bk_X11_forceBy_0_2 (l' := [(0, .ref 0), (1, .int (nI b)), (2, .int (nI h)), (3, .int 0)]) (st' := []) (w' := (W_M (mv len fa hd dd sd sg es a wr) M)) rfl ?_
  have lp2 : ∀ (j k : Nat), k + j = 22 → 0 ≤ k → rr_J Z 4 0 0 (rr_MQ Z 0 0 (some (p_fo G tc wd cc kc b h)) (W_M (mv len fa hd dd sd sg es a wr) (va_up M 10 (en (p_it G tc wd kc (m_ly G b (min kc cc)) h))))) 2 [(0, .ref 0), (1, .int (nI b)), (2, .int (nI h)), (3, .int (nI k))] [] (W_M (mv len fa hd dd sd sg es a wr) (va_up M 10 (p_zer (M 10) k))) := by
    intro j
    induction j with
    | zero =>
      intro k hk2 hlo2
      refine rr_go hC bk_X11_forceBy_2_5 (l' := [(0, .ref 0), (1, .int (nI b)), (2, .int (nI h)), (3, .int (nI k))]) (st' := [.int 22, .int (nI k)]) (w' := (W_M (mv len fa hd dd sd sg es a wr) (va_up M 10 (p_zer (M 10) k)))) rfl ?_
      refine rr_icmp_ge hC (off := 16) (tgt := 21) (by decide +kernel) (fun h5 => ?_) (fun h5 => by rw [rr_ln_le (a := 22) (by omega) (by omega)] at h5; omega)
      rw [rr_ln_le (a := 22) (by omega) (by omega)] at h5
      rw [show k = 22 by omega]
      refine rr_go hC bk_X11_forceBy_21_28 (l' := [(0, .ref 0), (1, .int (nI b)), (2, .int (nI h)), (3, .int (nI 22))]) (st' := []) (w' := (W_M (mv len fa hd dd sd sg es a wr) (va_up M 10 (upd (p_zer (M 10) 22) 0 (nI b))))) rfl ?_
      refine rr_cast (l' := [(0, .ref 0), (1, .int (nI b)), (2, .int (nI h)), (3, .int (nI 22))]) rfl (st' := []) rfl (w' := (W_M (mv len fa hd dd sd sg es a wr) (va_up M 10 (en (m_ly G b 0))))) (by rw [ht, m_ly_0 G b t]) ?_
      refine rr_go hC bk_X11_forceBy_28_30 (l' := [(0, .ref 0), (1, .int (nI b)), (2, .int (nI h)), (3, .int 0)]) (st' := []) (w' := (W_M (mv len fa hd dd sd sg es a wr) (va_up M 10 (en (m_ly G b 0))))) rfl ?_
      have lp30 : ∀ (j k : Nat), k + j = kc → 0 ≤ k → rr_J Z 4 0 0 (rr_MQ Z 0 0 (some (p_fo G tc wd cc kc b h)) (W_M (mv len fa hd dd sd sg es a wr) (va_up M 10 (en (p_it G tc wd kc (m_ly G b (min kc cc)) h))))) 30 [(0, .ref 0), (1, .int (nI b)), (2, .int (nI h)), (3, .int (nI k))] [] (W_M (mv len fa hd dd sd sg es a wr) (va_up M 10 (en (m_ly G b (min k cc))))) := by
        intro j
        induction j with
        | zero =>
          intro k hk30 hlo30
          refine rr_go hC bk_X11_forceBy_30_37 (l' := [(0, .ref 0), (1, .int (nI b)), (2, .int (nI h)), (3, .int (nI k))]) (st' := [.int (M 1 2), .int (nI k)]) (w' := (W_M (mv len fa hd dd sd sg es a wr) (va_up M 10 (en (m_ly G b (min k cc)))))) rfl ?_
          rw [show (M 1 2 : Int32) = nI kc from hG.2.2.1]
          refine rr_icmp_ge hC (off := 70) (tgt := 107) (by decide +kernel) (fun h37 => ?_) (fun h37 => by rw [rr_nn_le (by omega) (by omega)] at h37; omega)
          rw [rr_nn_le (by omega) (by omega)] at h37
          refine rr_cast (l' := [(0, .ref 0), (1, .int (nI b)), (2, .int (nI h)), (3, .int (nI kc))]) (by rw [show k = kc by omega]) (st' := []) rfl (w' := (W_M (mv len fa hd dd sd sg es a wr) (va_up M 10 (en (m_ly G b (min kc cc)))))) (by rw [show k = kc by omega]) ?_
          refine rr_go hC bk_X11_forceBy_107_109 (l' := [(0, .ref 0), (1, .int (nI b)), (2, .int (nI h)), (3, .int 0)]) (st' := []) (w' := (W_M (mv len fa hd dd sd sg es a wr) (va_up M 10 (en (m_ly G b (min kc cc)))))) rfl ?_
          have lp109 : ∀ (j k : Nat), k + j = h → 0 ≤ k → rr_J Z 4 0 0 (rr_MQ Z 0 0 (some (p_fo G tc wd cc kc b h)) (W_M (mv len fa hd dd sd sg es a wr) (va_up M 10 (en (p_it G tc wd kc (m_ly G b (min kc cc)) h))))) 109 [(0, .ref 0), (1, .int (nI b)), (2, .int (nI h)), (3, .int (nI k))] [] (W_M (mv len fa hd dd sd sg es a wr) (va_up M 10 (en (p_it G tc wd kc (m_ly G b (min kc cc)) k)))) := by
            intro j
            induction j with
            | zero =>
              intro k hk109 hlo109
              have hq1 : (p_it G tc wd kc (m_ly G b (min kc cc)) k).1 = b + k := p_it_h G tc wd kc (m_ly G b (min kc cc)) k
              refine rr_go hC bk_X11_forceBy_109_111 (l' := [(0, .ref 0), (1, .int (nI b)), (2, .int (nI h)), (3, .int (nI k))]) (st' := [.int (nI h), .int (nI k)]) (w' := (W_M (mv len fa hd dd sd sg es a wr) (va_up M 10 (en (p_it G tc wd kc (m_ly G b (min kc cc)) k))))) rfl ?_
              refine rr_icmp_ge hC (off := 17) (tgt := 128) (by decide +kernel) (fun h111 => ?_) (fun h111 => by rw [rr_nn_le (by omega) (by omega)] at h111; omega)
              rw [rr_nn_le (by omega) (by omega)] at h111
              refine rr_go hC bk_X11_forceBy_128_133 (l' := [(0, .ref 0), (1, .int (nI b)), (2, .int (nI h)), (3, .int (nI k))]) (st' := [.ref 11, .ref 0]) (w' := (W_M (mv len fa hd dd sd sg es a wr) (va_up M 10 (en (p_it G tc wd kc (m_ly G b (min kc cc)) k))))) rfl ?_
              refine rr_callVI hC (by decide +kernel) kl_11_169 fX11_force (m_force_tried (mv len fa hd dd sd sg es a wr) (va_up M 10 (en (p_it G tc wd kc (m_ly G b (min kc cc)) k))) tc wd cc kc G (by exact hG) (p_it G tc wd kc (m_ly G b (min kc cc)) k) rfl (by omega) (by omega) (by omega) ((m_ly_I b hkc hK).it tc wd hkc k).ok) rfl rfl rfl rfl rfl (rest := []) rfl rfl ⟨Nat.zero_le _, Nat.zero_le _⟩ (Eq.refl 22) ?_
              show rr_J Z 4 0 0 _ 136 [(0, .ref 0), (1, .int (nI b)), (2, .int (nI h)), (3, .int (nI k))] [.int (p_fs (p_it G tc wd kc (m_ly G b (min kc cc)) k).2.2.2.2 G kc)] (W_M (mv len fa hd dd sd sg es a wr) (va_up M 10 (en (p_it G tc wd kc (m_ly G b (min kc cc)) k))))
              exact rr_reti hC (by decide +kernel) (by rw [show k = h by omega]; rfl) (by rw [show k = h by omega]) ⟨Nat.zero_le _, Nat.zero_le _⟩
            | succ j ih =>
              intro k hk109 hlo109
              have hq1 : (p_it G tc wd kc (m_ly G b (min kc cc)) k).1 = b + k := p_it_h G tc wd kc (m_ly G b (min kc cc)) k
              refine rr_go hC bk_X11_forceBy_109_111 (l' := [(0, .ref 0), (1, .int (nI b)), (2, .int (nI h)), (3, .int (nI k))]) (st' := [.int (nI h), .int (nI k)]) (w' := (W_M (mv len fa hd dd sd sg es a wr) (va_up M 10 (en (p_it G tc wd kc (m_ly G b (min kc cc)) k))))) rfl ?_
              refine rr_icmp_ge hC (off := 17) (tgt := 128) (by decide +kernel) (fun h111 => by rw [rr_nn_le (by omega) (by omega)] at h111; omega) (fun h111 => ?_)
              rw [rr_nn_le (by omega) (by omega)] at h111
              refine rr_go hC bk_X11_forceBy_114_119 (l' := [(0, .ref 0), (1, .int (nI b)), (2, .int (nI h)), (3, .int (nI k))]) (st' := [.ref 11, .ref 0]) (w' := (W_M (mv len fa hd dd sd sg es a wr) (va_up M 10 (en (p_it G tc wd kc (m_ly G b (min kc cc)) k))))) rfl ?_
              refine rr_callVI hC (by decide +kernel) kl_11_211 fX11_passes (m_passes_tried (mv len fa hd dd sd sg es a wr) (va_up M 10 (en (p_it G tc wd kc (m_ly G b (min kc cc)) k))) tc wd cc kc G (by exact hG) (p_it G tc wd kc (m_ly G b (min kc cc)) k) rfl (by omega) (by omega) (by omega) h0c (by first | omega | (simp only [p_it_h, p_wr_h, p_sm_h, p_dd_h, p_d1_h, p_df_h]; omega)) ((m_ly_I b hkc hK).it tc wd hkc k).1) rfl rfl rfl rfl rfl (rest := []) rfl rfl ⟨Nat.zero_le _, Nat.zero_le _⟩ (Eq.refl 22) ?_
              show rr_J Z 4 0 0 _ 122 [(0, .ref 0), (1, .int (nI b)), (2, .int (nI h)), (3, .int (nI k))] [] (W_M (mv len fa hd dd sd sg es a wr) (va_up M 10 (en (p_pass G tc wd kc (p_it G tc wd kc (m_ly G b (min kc cc)) k)))))
              refine rr_go hC bk_X11_forceBy_122_109 (l' := [(0, .ref 0), (1, .int (nI b)), (2, .int (nI h)), (3, .int ((nI k) + 1))]) (st' := []) (w' := (W_M (mv len fa hd dd sd sg es a wr) (va_up M 10 (en (p_pass G tc wd kc (p_it G tc wd kc (m_ly G b (min kc cc)) k)))))) rfl ?_
              rw [show ((nI k) + 1 : Int32) = nI (k + 1) from nI_add k 1]
              exact rr_cast (l' := [(0, .ref 0), (1, .int (nI b)), (2, .int (nI h)), (3, .int (nI (k + 1)))]) (by rfl) rfl (w' := (W_M (mv len fa hd dd sd sg es a wr) (va_up M 10 (en (p_it G tc wd kc (m_ly G b (min kc cc)) (k + 1)))))) (by rw [p_it_1]) (ih (k + 1) (by omega) (by omega))
          exact rr_cast (l' := [(0, .ref 0), (1, .int (nI b)), (2, .int (nI h)), (3, .int (nI 0))]) (by first | rfl | (rfl)) rfl (w' := (W_M (mv len fa hd dd sd sg es a wr) (va_up M 10 (en (p_it G tc wd kc (m_ly G b (min kc cc)) 0))))) (by rw [p_it_0]) (lp109 (h - 0) 0 (by omega) (Nat.le_refl _))
        | succ j ih =>
          intro k hk30 hlo30
          refine rr_go hC bk_X11_forceBy_30_37 (l' := [(0, .ref 0), (1, .int (nI b)), (2, .int (nI h)), (3, .int (nI k))]) (st' := [.int (M 1 2), .int (nI k)]) (w' := (W_M (mv len fa hd dd sd sg es a wr) (va_up M 10 (en (m_ly G b (min k cc)))))) rfl ?_
          rw [show (M 1 2 : Int32) = nI kc from hG.2.2.1]
          refine rr_icmp_ge hC (off := 70) (tgt := 107) (by decide +kernel) (fun h37 => by rw [rr_nn_le (by omega) (by omega)] at h37; omega) (fun h37 => ?_)
          rw [rr_nn_le (by omega) (by omega)] at h37
          refine rr_go hC bk_X11_forceBy_40_56 (l' := [(0, .ref 0), (1, .int (nI b)), (2, .int (nI h)), (3, .int (nI k))]) (st' := [.int (M 1 1), .int (nI k), .int (4 + (3 * (nI k))), .ref 11]) (w' := (W_M (mv len fa hd dd sd sg es a wr) (va_up M 10 (en (m_ly G b (min k cc)))))) rfl ?_
          rw [show (M 1 1 : Int32) = nI cc from hG.2.1]
          rw [show (3 * (nI k) : Int32) = nI (3 * k) from pk_mul 3 k]
          rw [show (4 + (nI (3 * k)) : Int32) = nI (4 + (3 * k)) from nI_add 4 (3 * k)]
          refine rr_icmp_ge hC (off := 9) (tgt := 65) (by decide +kernel) (fun h56 => ?_) (fun h56 => ?_)
          · rw [rr_nn_le (by omega) (by omega)] at h56
            refine rr_go hC bk_X11_forceBy_65_66 (l' := [(0, .ref 0), (1, .int (nI b)), (2, .int (nI h)), (3, .int (nI k))]) (st' := [.int 0, .int (nI (4 + (3 * k))), .ref 11]) (w' := (W_M (mv len fa hd dd sd sg es a wr) (va_up M 10 (en (m_ly G b (min k cc)))))) rfl ?_
            refine rr_iast hC (4 + (3 * k)) (by decide +kernel) rfl rfl (by omega) rfl (w' := (W_M (mv len fa hd dd sd sg es a wr) (va_up M 10 (upd (en (m_ly G b (min k cc))) (4 + (3 * k)) 0)))) rfl ?_
            show rr_J Z 4 0 0 _ 67 [(0, .ref 0), (1, .int (nI b)), (2, .int (nI h)), (3, .int (nI k))] [] (W_M (mv len fa hd dd sd sg es a wr) (va_up M 10 (upd (en (m_ly G b (min k cc))) (4 + (3 * k)) 0)))
            refine rr_go hC bk_X11_forceBy_67_85 (l' := [(0, .ref 0), (1, .int (nI b)), (2, .int (nI h)), (3, .int (nI k))]) (st' := [.int (M 1 1), .int (nI k), .int ((4 + (3 * (nI k))) + 1), .ref 11]) (w' := (W_M (mv len fa hd dd sd sg es a wr) (va_up M 10 (upd (en (m_ly G b (min k cc))) (4 + (3 * k)) 0)))) rfl ?_
            rw [show (M 1 1 : Int32) = nI cc from hG.2.1]
            rw [show (3 * (nI k) : Int32) = nI (3 * k) from pk_mul 3 k]
            rw [show (4 + (nI (3 * k)) : Int32) = nI (4 + (3 * k)) from nI_add 4 (3 * k)]
            rw [show ((nI (4 + (3 * k))) + 1 : Int32) = nI ((4 + (3 * k)) + 1) from nI_add (4 + (3 * k)) 1]
            refine rr_icmp_ge hC (off := 14) (tgt := 99) (by decide +kernel) (fun h85 => ?_) (fun h85 => by rw [rr_nn_le (by omega) (by omega)] at h85; omega)
            rw [rr_nn_le (by omega) (by omega)] at h85
            refine rr_go hC bk_X11_forceBy_99_100 (l' := [(0, .ref 0), (1, .int (nI b)), (2, .int (nI h)), (3, .int (nI k))]) (st' := [.int 0, .int (nI ((4 + (3 * k)) + 1)), .ref 11]) (w' := (W_M (mv len fa hd dd sd sg es a wr) (va_up M 10 (upd (en (m_ly G b (min k cc))) (4 + (3 * k)) 0)))) rfl ?_
            refine rr_iast hC ((4 + (3 * k)) + 1) (by decide +kernel) rfl rfl (by omega) rfl (w' := (W_M (mv len fa hd dd sd sg es a wr) (va_up M 10 (upd (upd (en (m_ly G b (min k cc))) (4 + (3 * k)) 0) ((4 + (3 * k)) + 1) 0)))) rfl ?_
            show rr_J Z 4 0 0 _ 101 [(0, .ref 0), (1, .int (nI b)), (2, .int (nI h)), (3, .int (nI k))] [] (W_M (mv len fa hd dd sd sg es a wr) (va_up M 10 (upd (upd (en (m_ly G b (min k cc))) (4 + (3 * k)) 0) ((4 + (3 * k)) + 1) 0)))
            refine rr_go hC bk_X11_forceBy_101_30 (l' := [(0, .ref 0), (1, .int (nI b)), (2, .int (nI h)), (3, .int ((nI k) + 1))]) (st' := []) (w' := (W_M (mv len fa hd dd sd sg es a wr) (va_up M 10 (upd (upd (en (m_ly G b (min k cc))) (4 + (3 * k)) 0) ((4 + (3 * k)) + 1) 0)))) rfl ?_
            rw [show ((nI k) + 1 : Int32) = nI (k + 1) from nI_add k 1]
            exact rr_cast (l' := [(0, .ref 0), (1, .int (nI b)), (2, .int (nI h)), (3, .int (nI (k + 1)))]) (by rfl) rfl (w' := (W_M (mv len fa hd dd sd sg es a wr) (va_up M 10 (en (m_ly G b (min (k + 1) cc)))))) (by first | (rw [show min k cc = k by omega, m_ly_s G b (show k < 6 by omega), show min (k + 1) cc = k + 1 by omega]; done) | (rw [m_ly_n G b (show k < 6 by omega) (show min k cc ≤ k by omega), show min (k + 1) cc = min k cc by omega]; done)) (ih (k + 1) (by omega) (by omega))
          · rw [rr_nn_le (by omega) (by omega)] at h56
            refine rr_go hC bk_X11_forceBy_59_66 (l' := [(0, .ref 0), (1, .int (nI b)), (2, .int (nI h)), (3, .int (nI k))]) (st' := [.int ((nI k) + 1), .int (nI (4 + (3 * k))), .ref 11]) (w' := (W_M (mv len fa hd dd sd sg es a wr) (va_up M 10 (en (m_ly G b (min k cc)))))) rfl ?_
            rw [show ((nI k) + 1 : Int32) = nI (k + 1) from nI_add k 1]
            refine rr_iast hC (4 + (3 * k)) (by decide +kernel) rfl rfl (by omega) rfl (w' := (W_M (mv len fa hd dd sd sg es a wr) (va_up M 10 (upd (en (m_ly G b (min k cc))) (4 + (3 * k)) (nI (k + 1)))))) rfl ?_
            show rr_J Z 4 0 0 _ 67 [(0, .ref 0), (1, .int (nI b)), (2, .int (nI h)), (3, .int (nI k))] [] (W_M (mv len fa hd dd sd sg es a wr) (va_up M 10 (upd (en (m_ly G b (min k cc))) (4 + (3 * k)) (nI (k + 1)))))
            refine rr_go hC bk_X11_forceBy_67_85 (l' := [(0, .ref 0), (1, .int (nI b)), (2, .int (nI h)), (3, .int (nI k))]) (st' := [.int (M 1 1), .int (nI k), .int ((4 + (3 * (nI k))) + 1), .ref 11]) (w' := (W_M (mv len fa hd dd sd sg es a wr) (va_up M 10 (upd (en (m_ly G b (min k cc))) (4 + (3 * k)) (nI (k + 1)))))) rfl ?_
            rw [show (M 1 1 : Int32) = nI cc from hG.2.1]
            rw [show (3 * (nI k) : Int32) = nI (3 * k) from pk_mul 3 k]
            rw [show (4 + (nI (3 * k)) : Int32) = nI (4 + (3 * k)) from nI_add 4 (3 * k)]
            rw [show ((nI (4 + (3 * k))) + 1 : Int32) = nI ((4 + (3 * k)) + 1) from nI_add (4 + (3 * k)) 1]
            refine rr_icmp_ge hC (off := 14) (tgt := 99) (by decide +kernel) (fun h85 => by rw [rr_nn_le (by omega) (by omega)] at h85; omega) (fun h85 => ?_)
            rw [rr_nn_le (by omega) (by omega)] at h85
            refine rr_go hC bk_X11_forceBy_88_95 (l' := [(0, .ref 0), (1, .int (nI b)), (2, .int (nI h)), (3, .int (nI k))]) (st' := [.int (4 * (nI k)), .ref 5, .int (nI ((4 + (3 * k)) + 1)), .ref 11]) (w' := (W_M (mv len fa hd dd sd sg es a wr) (va_up M 10 (upd (en (m_ly G b (min k cc))) (4 + (3 * k)) (nI (k + 1)))))) rfl ?_
            rw [show (4 * (nI k) : Int32) = nI (4 * k) from pk_mul 4 k]
            refine rr_iald hC (4 * k) (by decide +kernel) rfl rfl (by omega) rfl ?_
            show rr_J Z 4 0 0 _ 96 [(0, .ref 0), (1, .int (nI b)), (2, .int (nI h)), (3, .int (nI k))] [.int (M 4 (4 * k)), .int (nI ((4 + (3 * k)) + 1)), .ref 11] (W_M (mv len fa hd dd sd sg es a wr) (va_up M 10 (upd (en (m_ly G b (min k cc))) (4 + (3 * k)) (nI (k + 1)))))
            rw [(hG.2.2.2.2.2.2 k (show k < kc by omega)).1]
            refine rr_go hC bk_X11_forceBy_96_100 (l' := [(0, .ref 0), (1, .int (nI b)), (2, .int (nI h)), (3, .int (nI k))]) (st' := [.int (G 2 k), .int (nI ((4 + (3 * k)) + 1)), .ref 11]) (w' := (W_M (mv len fa hd dd sd sg es a wr) (va_up M 10 (upd (en (m_ly G b (min k cc))) (4 + (3 * k)) (nI (k + 1)))))) rfl ?_
            refine rr_iast hC ((4 + (3 * k)) + 1) (by decide +kernel) rfl rfl (by omega) rfl (w' := (W_M (mv len fa hd dd sd sg es a wr) (va_up M 10 (upd (upd (en (m_ly G b (min k cc))) (4 + (3 * k)) (nI (k + 1))) ((4 + (3 * k)) + 1) (G 2 k))))) rfl ?_
            show rr_J Z 4 0 0 _ 101 [(0, .ref 0), (1, .int (nI b)), (2, .int (nI h)), (3, .int (nI k))] [] (W_M (mv len fa hd dd sd sg es a wr) (va_up M 10 (upd (upd (en (m_ly G b (min k cc))) (4 + (3 * k)) (nI (k + 1))) ((4 + (3 * k)) + 1) (G 2 k))))
            refine rr_go hC bk_X11_forceBy_101_30 (l' := [(0, .ref 0), (1, .int (nI b)), (2, .int (nI h)), (3, .int ((nI k) + 1))]) (st' := []) (w' := (W_M (mv len fa hd dd sd sg es a wr) (va_up M 10 (upd (upd (en (m_ly G b (min k cc))) (4 + (3 * k)) (nI (k + 1))) ((4 + (3 * k)) + 1) (G 2 k))))) rfl ?_
            rw [show ((nI k) + 1 : Int32) = nI (k + 1) from nI_add k 1]
            exact rr_cast (l' := [(0, .ref 0), (1, .int (nI b)), (2, .int (nI h)), (3, .int (nI (k + 1)))]) (by rfl) rfl (w' := (W_M (mv len fa hd dd sd sg es a wr) (va_up M 10 (en (m_ly G b (min (k + 1) cc)))))) (by first | (rw [show min k cc = k by omega, m_ly_s G b (show k < 6 by omega), show min (k + 1) cc = k + 1 by omega]; done) | (rw [m_ly_n G b (show k < 6 by omega) (show min k cc ≤ k by omega), show min (k + 1) cc = min k cc by omega]; done)) (ih (k + 1) (by omega) (by omega))
      exact rr_cast (l' := [(0, .ref 0), (1, .int (nI b)), (2, .int (nI h)), (3, .int (nI 0))]) (by first | rfl | (rfl)) rfl (w' := (W_M (mv len fa hd dd sd sg es a wr) (va_up M 10 (en (m_ly G b (min 0 cc)))))) (by rw [show min 0 cc = 0 by omega]) (lp30 (kc - 0) 0 (by omega) (Nat.le_refl _))
    | succ j ih =>
      intro k hk2 hlo2
      refine rr_go hC bk_X11_forceBy_2_5 (l' := [(0, .ref 0), (1, .int (nI b)), (2, .int (nI h)), (3, .int (nI k))]) (st' := [.int 22, .int (nI k)]) (w' := (W_M (mv len fa hd dd sd sg es a wr) (va_up M 10 (p_zer (M 10) k)))) rfl ?_
      refine rr_icmp_ge hC (off := 16) (tgt := 21) (by decide +kernel) (fun h5 => by rw [rr_ln_le (a := 22) (by omega) (by omega)] at h5; omega) (fun h5 => ?_)
      rw [rr_ln_le (a := 22) (by omega) (by omega)] at h5
      refine rr_go hC bk_X11_forceBy_8_14 (l' := [(0, .ref 0), (1, .int (nI b)), (2, .int (nI h)), (3, .int (nI k))]) (st' := [.int 0, .int (nI k), .ref 11]) (w' := (W_M (mv len fa hd dd sd sg es a wr) (va_up M 10 (p_zer (M 10) k)))) rfl ?_
      refine rr_iast hC k (by decide +kernel) rfl rfl (by omega) rfl (w' := (W_M (mv len fa hd dd sd sg es a wr) (va_up M 10 (upd (p_zer (M 10) k) k 0)))) rfl ?_
      show rr_J Z 4 0 0 _ 15 [(0, .ref 0), (1, .int (nI b)), (2, .int (nI h)), (3, .int (nI k))] [] (W_M (mv len fa hd dd sd sg es a wr) (va_up M 10 (upd (p_zer (M 10) k) k 0)))
      refine rr_go hC bk_X11_forceBy_15_2 (l' := [(0, .ref 0), (1, .int (nI b)), (2, .int (nI h)), (3, .int ((nI k) + 1))]) (st' := []) (w' := (W_M (mv len fa hd dd sd sg es a wr) (va_up M 10 (upd (p_zer (M 10) k) k 0)))) rfl ?_
      rw [show ((nI k) + 1 : Int32) = nI (k + 1) from nI_add k 1]
      exact rr_cast (l' := [(0, .ref 0), (1, .int (nI b)), (2, .int (nI h)), (3, .int (nI (k + 1)))]) (by rfl) rfl (w' := (W_M (mv len fa hd dd sd sg es a wr) (va_up M 10 (p_zer (M 10) (k + 1))))) (by rfl) (ih (k + 1) (by omega) (by omega))
  exact rr_cast (l' := [(0, .ref 0), (1, .int (nI b)), (2, .int (nI h)), (3, .int (nI 0))]) (by first | rfl | (rfl)) rfl (w' := (W_M (mv len fa hd dd sd sg es a wr) (va_up M 10 (p_zer (M 10) 0)))) (by rw [show p_zer (M 10) 0 = M 10 from rfl, va_up_i]) (lp2 (22 - 0) 0 (by omega) (Nat.le_refl _))
theorem bk_X11_isSo_0_4 : rr_chk mX11_isSo [(.iconst 1, 1, 0, 0), (.istore_n 2, 0, 2, 0), (.iconst 0, 0, 0, 0), (.istore_n 3, 0, 3, 0)] 0 4 = true := by decide +kernel
theorem bk_X11_isSo_4_9 : rr_chk mX11_isSo [(.iload_n 3, 0, 3, 0), (.aload_n 0, 0, 0, 0), (.getfield 141, 0, 11, 21)] 4 9 = true := by decide +kernel
theorem bk_X11_isSo_67_68 : rr_chk mX11_isSo [(.iload_n 2, 0, 2, 0)] 67 68 = true := by decide +kernel
theorem bk_X11_isSo_12_13 : rr_chk mX11_isSo [(.iload_n 2, 0, 2, 0)] 12 13 = true := by decide +kernel
theorem bk_X11_isSo_59_4 : rr_chk mX11_isSo [(.iconst 0, 0, 0, 0), (.istore_n 2, 0, 2, 0), (.iinc 3 1, 1, 3, 0), (.goto (-60), 0, 0, 0)] 59 4 = true := by decide +kernel
theorem bk_X11_isSo_16_27 : rr_chk mX11_isSo [(.aload_n 0, 0, 0, 0), (.iload_n 1, 0, 1, 0), (.aload_n 0, 0, 0, 0), (.getfield 60, 0, 11, 20), (.iconst 3, 3, 0, 0), (.iload_n 3, 0, 3, 0), (.imul, 0, 0, 0), (.iconst 1, 1, 0, 0), (.iadd, 0, 0, 0)] 16 27 = true := by decide +kernel
theorem bk_X11_isSo_31_38 : rr_chk mX11_isSo [(.aload_n 0, 0, 0, 0), (.getfield 60, 0, 11, 20), (.iconst 3, 3, 0, 0), (.iload_n 3, 0, 3, 0), (.imul, 0, 0, 0)] 31 38 = true := by decide +kernel
theorem bk_X11_isSo_39_51 : rr_chk mX11_isSo [(.ishr, 0, 0, 0), (.iconst 1, 1, 0, 0), (.iand, 0, 0, 0), (.aload_n 0, 0, 0, 0), (.getfield 60, 0, 11, 20), (.iconst 3, 3, 0, 0), (.iload_n 3, 0, 3, 0), (.imul, 0, 0, 0), (.iconst 2, 2, 0, 0), (.iadd, 0, 0, 0)] 39 51 = true := by decide +kernel
theorem bk_X11_isSo_55_4 : rr_chk mX11_isSo [(.iconst 1, 1, 0, 0), (.goto 4, 0, 0, 0), (.istore_n 2, 0, 2, 0), (.iinc 3 1, 1, 3, 0), (.goto (-60), 0, 0, 0)] 55 4 = true := by decide +kernel
set_option maxRecDepth 100000 in
set_option maxHeartbeats 4000000 in
theorem m_isSo (len : Nat) (fa : Int32) (hd : Bool) (dd : Nat) (sd : Int32) (sg es a : Nat) (wr : Int32) (M : Nat → Nat → Int32) (tc wd cc kc : Nat) (G : Nat → Nat → Int32) (hG : m_G M G tc wd cc kc) (t : p_Q) (ht : M 10 = en t) (V : Nat → Nat → Int32) (b : Nat) (htc : tc ≤ 12) (hcc : cc ≤ 9) (hkc : kc ≤ 6) (h0c : 0 < cc → 0 < tc) (h0k : 0 < kc → 0 < tc) (hK : ∀ j, j < kc → ∃ t : Nat, G 2 j = nI t ∧ 1 ≤ t ∧ t ≤ 6) (hs : sg ≤ 8) (hV : ∀ i, i < sg → ∃ (k h : Nat) (z : Bool), k < 6 ∧ h ≤ 60 ∧ M 15 (3 * i) = nI k ∧ M 15 ((3 * i) + 1) = nI h ∧ M 15 ((3 * i) + 2) = rr_b z ∧ V 0 i = nI k ∧ V 1 i = nI h ∧ V 2 i = rr_b z) (hb : b < 12) : rr_CP mX11_isSo 5 [.ref 0, .int (nI b)] (W_M (mv len fa hd dd sd sg es a wr) M) 0 0 (fun r w' => r = some (rr_b (m_so V G tc wd cc kc b sg)) ∧ ∃ t : p_Q, w' = (W_M (mv len fa hd dd sd sg es a wr) (va_up M 10 (en t)))) := by
  refine rr_CP.of (n := 1) fX11_isSo.1 rfl rfl (fun Z hC => ?_)
  show rr_J Z 4 0 0 (rr_MP Z 0 0 (fun r w' => r = some (rr_b (m_so V G tc wd cc kc b sg)) ∧ ∃ t : p_Q, w' = (W_M (mv len fa hd dd sd sg es a wr) (va_up M 10 (en t))))) 0 [(0, .ref 0), (1, .int (nI b))] [] (W_M (mv len fa hd dd sd sg es a wr) M)
  refine rr_cast (l' := [(0, .ref 0), (1, .int (nI b))]) rfl (st' := []) rfl (w' := (W_M (mv len fa hd dd sd sg es a wr) (va_up M 10 (en t)))) (by rw [← ht, va_up_i]) ?_
  refine rr_go hC bk_X11_isSo_0_4 (l' := [(0, .ref 0), (1, .int (nI b)), (2, .int 1), (3, .int 0)]) (st' := []) (w' := (W_M (mv len fa hd dd sd sg es a wr) (va_up M 10 (en t)))) rfl ?_
  have lp4 : ∀ (j i : Nat), i + j = sg → 0 ≤ i → ∀ t : p_Q, rr_J Z 4 0 0 (rr_MP Z 0 0 (fun r w' => r = some (rr_b (m_so V G tc wd cc kc b sg)) ∧ ∃ t : p_Q, w' = (W_M (mv len fa hd dd sd sg es a wr) (va_up M 10 (en t))))) 4 [(0, .ref 0), (1, .int (nI b)), (2, .int (rr_b (m_so V G tc wd cc kc b i))), (3, .int (nI i))] [] (W_M (mv len fa hd dd sd sg es a wr) (va_up M 10 (en t))) := by
    intro j
    induction j with
    | zero =>
      intro i hk4 hlo4 t
      refine rr_go hC bk_X11_isSo_4_9 (l' := [(0, .ref 0), (1, .int (nI b)), (2, .int (rr_b (m_so V G tc wd cc kc b i))), (3, .int (nI i))]) (st' := [.int (nI sg), .int (nI i)]) (w' := (W_M (mv len fa hd dd sd sg es a wr) (va_up M 10 (en t)))) rfl ?_
      refine rr_icmp_ge hC (off := 58) (tgt := 67) (by decide +kernel) (fun h9 => ?_) (fun h9 => by rw [rr_nn_le (by omega) (by omega)] at h9; omega)
      rw [rr_nn_le (by omega) (by omega)] at h9
      refine rr_go hC bk_X11_isSo_67_68 (l' := [(0, .ref 0), (1, .int (nI b)), (2, .int (rr_b (m_so V G tc wd cc kc b i))), (3, .int (nI i))]) (st' := [.int (rr_b (m_so V G tc wd cc kc b i))]) (w' := (W_M (mv len fa hd dd sd sg es a wr) (va_up M 10 (en t)))) rfl ?_
      exact rr_retzP hC (by decide +kernel) (rr_b01 _) (by exact ⟨by rw [show i = sg by omega], _, rfl⟩) ⟨Nat.zero_le _, Nat.zero_le _⟩
    | succ j ih =>
      intro i hk4 hlo4 t
      refine rr_go hC bk_X11_isSo_4_9 (l' := [(0, .ref 0), (1, .int (nI b)), (2, .int (rr_b (m_so V G tc wd cc kc b i))), (3, .int (nI i))]) (st' := [.int (nI sg), .int (nI i)]) (w' := (W_M (mv len fa hd dd sd sg es a wr) (va_up M 10 (en t)))) rfl ?_
      refine rr_icmp_ge hC (off := 58) (tgt := 67) (by decide +kernel) (fun h9 => by rw [rr_nn_le (by omega) (by omega)] at h9; omega) (fun h9 => ?_)
      rw [rr_nn_le (by omega) (by omega)] at h9
      refine rr_go hC bk_X11_isSo_12_13 (l' := [(0, .ref 0), (1, .int (nI b)), (2, .int (rr_b (m_so V G tc wd cc kc b i))), (3, .int (nI i))]) (st' := [.int (rr_b (m_so V G tc wd cc kc b i))]) (w' := (W_M (mv len fa hd dd sd sg es a wr) (va_up M 10 (en t)))) rfl ?_
      refine rr_eqb hC (off := 46) (tgt := 59) (by decide +kernel) (fun h13 => ?_) (fun h13 => ?_)
      · refine rr_go hC bk_X11_isSo_59_4 (l' := [(0, .ref 0), (1, .int (nI b)), (2, .int 0), (3, .int ((nI i) + 1))]) (st' := []) (w' := (W_M (mv len fa hd dd sd sg es a wr) (va_up M 10 (en t)))) rfl ?_
        rw [show ((nI i) + 1 : Int32) = nI (i + 1) from nI_add i 1]
        have hso : m_so V G tc wd cc kc b (i + 1) = false := by show (_ && _) = false; rw [show p_all _ i = false from h13]; rfl
        exact rr_cast (l' := [(0, .ref 0), (1, .int (nI b)), (2, .int (rr_b (m_so V G tc wd cc kc b (i + 1)))), (3, .int (nI (i + 1)))]) (by rw [hso] <;> rfl) rfl (w' := (W_M (mv len fa hd dd sd sg es a wr) (va_up M 10 (en t)))) (by rfl) (ih (i + 1) (by omega) (by omega) t)
      · refine rr_go hC bk_X11_isSo_16_27 (l' := [(0, .ref 0), (1, .int (nI b)), (2, .int (rr_b (m_so V G tc wd cc kc b i))), (3, .int (nI i))]) (st' := [.int ((3 * (nI i)) + 1), .ref 16, .int (nI b), .ref 0]) (w' := (W_M (mv len fa hd dd sd sg es a wr) (va_up M 10 (en t)))) rfl ?_
        rw [show (3 * (nI i) : Int32) = nI (3 * i) from pk_mul 3 i]
        rw [show ((nI (3 * i)) + 1 : Int32) = nI ((3 * i) + 1) from nI_add (3 * i) 1]
        refine rr_iald hC ((3 * i) + 1) (by decide +kernel) rfl rfl (by omega) rfl ?_
        show rr_J Z 4 0 0 _ 28 [(0, .ref 0), (1, .int (nI b)), (2, .int (rr_b (m_so V G tc wd cc kc b i))), (3, .int (nI i))] [.int (M 15 ((3 * i) + 1)), .int (nI b), .ref 0] (W_M (mv len fa hd dd sd sg es a wr) (va_up M 10 (en t)))
        obtain ⟨kk, hh, z, hkk, hhh, m0, m1, m2, v0, v1, v2⟩ := hV i (by omega)
        rw [m1]
        refine rr_callVI hC (by decide +kernel) kl_11_251 fX11_forceBy (m_forceBy len fa hd dd sd sg es a wr (va_up M 10 (en t)) tc wd cc kc G (by exact hG) t rfl b hh (by omega) (by omega) (by omega) h0c h0k hK (by omega) (by omega)) rfl rfl rfl rfl rfl (rest := []) rfl rfl ⟨Nat.zero_le _, Nat.zero_le _⟩ (Eq.refl 22) ?_
        show rr_J Z 4 0 0 _ 31 [(0, .ref 0), (1, .int (nI b)), (2, .int (rr_b (m_so V G tc wd cc kc b i))), (3, .int (nI i))] [.int (p_fo G tc wd cc kc b hh)] (W_M (mv len fa hd dd sd sg es a wr) (va_up M 10 (en (p_it G tc wd kc (m_ly G b (min kc cc)) hh))))
        refine rr_go hC bk_X11_isSo_31_38 (l' := [(0, .ref 0), (1, .int (nI b)), (2, .int (rr_b (m_so V G tc wd cc kc b i))), (3, .int (nI i))]) (st' := [.int (3 * (nI i)), .ref 16, .int (p_fo G tc wd cc kc b hh)]) (w' := (W_M (mv len fa hd dd sd sg es a wr) (va_up M 10 (en (p_it G tc wd kc (m_ly G b (min kc cc)) hh))))) rfl ?_
        rw [show (3 * (nI i) : Int32) = nI (3 * i) from pk_mul 3 i]
        refine rr_iald hC (3 * i) (by decide +kernel) rfl rfl (by omega) rfl ?_
        show rr_J Z 4 0 0 _ 39 [(0, .ref 0), (1, .int (nI b)), (2, .int (rr_b (m_so V G tc wd cc kc b i))), (3, .int (nI i))] [.int (M 15 (3 * i)), .int (p_fo G tc wd cc kc b hh)] (W_M (mv len fa hd dd sd sg es a wr) (va_up M 10 (en (p_it G tc wd kc (m_ly G b (min kc cc)) hh))))
        rw [m0]
        refine rr_go hC bk_X11_isSo_39_51 (l' := [(0, .ref 0), (1, .int (nI b)), (2, .int (rr_b (m_so V G tc wd cc kc b i))), (3, .int (nI i))]) (st' := [.int ((3 * (nI i)) + 2), .ref 16, .int (((p_fo G tc wd cc kc b hh) >>> (nI kk &&& 31)) &&& 1)]) (w' := (W_M (mv len fa hd dd sd sg es a wr) (va_up M 10 (en (p_it G tc wd kc (m_ly G b (min kc cc)) hh))))) rfl ?_
        rw [show (3 * (nI i) : Int32) = nI (3 * i) from pk_mul 3 i]
        rw [show ((nI (3 * i)) + 2 : Int32) = nI ((3 * i) + 2) from nI_add (3 * i) 2]
        refine rr_iald hC ((3 * i) + 2) (by decide +kernel) rfl rfl (by omega) rfl ?_
        show rr_J Z 4 0 0 _ 52 [(0, .ref 0), (1, .int (nI b)), (2, .int (rr_b (m_so V G tc wd cc kc b i))), (3, .int (nI i))] [.int (M 15 ((3 * i) + 2)), .int (((p_fo G tc wd cc kc b hh) >>> (nI kk &&& 31)) &&& 1)] (W_M (mv len fa hd dd sd sg es a wr) (va_up M 10 (en (p_it G tc wd kc (m_ly G b (min kc cc)) hh))))
        rw [m2]
        refine rr_icmp_ne hC (off := 7) (tgt := 59) (by decide +kernel) (fun h52 => ?_) (fun h52 => ?_)
        · refine rr_go hC bk_X11_isSo_59_4 (l' := [(0, .ref 0), (1, .int (nI b)), (2, .int 0), (3, .int ((nI i) + 1))]) (st' := []) (w' := (W_M (mv len fa hd dd sd sg es a wr) (va_up M 10 (en (p_it G tc wd kc (m_ly G b (min kc cc)) hh))))) rfl ?_
          rw [show ((nI i) + 1 : Int32) = nI (i + 1) from nI_add i 1]
          have hso : m_so V G tc wd cc kc b (i + 1) = false := by show (_ && decide (p_bit (p_fo G tc wd cc kc b (V 1 i).toNatClampNeg) (V 0 i) = V 2 i)) = _; rw [show p_all _ i = true from h13, v0, v1, v2, nI_clamp (by omega), show decide (p_bit (p_fo G tc wd cc kc b hh) (nI kk) = rr_b z) = false from decide_eq_false h52]; rfl
          exact rr_cast (l' := [(0, .ref 0), (1, .int (nI b)), (2, .int (rr_b (m_so V G tc wd cc kc b (i + 1)))), (3, .int (nI (i + 1)))]) (by rw [hso] <;> rfl) rfl (w' := (W_M (mv len fa hd dd sd sg es a wr) (va_up M 10 (en (p_it G tc wd kc (m_ly G b (min kc cc)) hh))))) (by rfl) (ih (i + 1) (by omega) (by omega) (p_it G tc wd kc (m_ly G b (min kc cc)) hh))
        · refine rr_go hC bk_X11_isSo_55_4 (l' := [(0, .ref 0), (1, .int (nI b)), (2, .int 1), (3, .int ((nI i) + 1))]) (st' := []) (w' := (W_M (mv len fa hd dd sd sg es a wr) (va_up M 10 (en (p_it G tc wd kc (m_ly G b (min kc cc)) hh))))) rfl ?_
          rw [show ((nI i) + 1 : Int32) = nI (i + 1) from nI_add i 1]
          have hso : m_so V G tc wd cc kc b (i + 1) = true := by show (_ && decide (p_bit (p_fo G tc wd cc kc b (V 1 i).toNatClampNeg) (V 0 i) = V 2 i)) = _; rw [show p_all _ i = true from h13, v0, v1, v2, nI_clamp (by omega), show decide (p_bit (p_fo G tc wd cc kc b hh) (nI kk) = rr_b z) = true from decide_eq_true h52]; rfl
          exact rr_cast (l' := [(0, .ref 0), (1, .int (nI b)), (2, .int (rr_b (m_so V G tc wd cc kc b (i + 1)))), (3, .int (nI (i + 1)))]) (by rw [hso] <;> rfl) rfl (w' := (W_M (mv len fa hd dd sd sg es a wr) (va_up M 10 (en (p_it G tc wd kc (m_ly G b (min kc cc)) hh))))) (by rfl) (ih (i + 1) (by omega) (by omega) (p_it G tc wd kc (m_ly G b (min kc cc)) hh))
  exact rr_cast (l' := [(0, .ref 0), (1, .int (nI b)), (2, .int (rr_b (m_so V G tc wd cc kc b 0))), (3, .int (nI 0))]) (by first | rfl | (rfl)) rfl (w' := (W_M (mv len fa hd dd sd sg es a wr) (va_up M 10 (en t)))) (by rfl) (lp4 (sg - 0) 0 (by omega) (Nat.le_refl _) t)
theorem bk_X11_begins_0_7 : rr_chk mX11_begins [(.iconst 0, 0, 0, 0), (.istore_n 1, 0, 1, 0), (.iconst 0, 0, 0, 0), (.istore_n 2, 0, 2, 0), (.iload_n 2, 0, 2, 0), (.bipush 12, 12, 0, 0)] 0 7 = true := by decide +kernel
theorem bk_X11_begins_10_11 : rr_chk mX11_begins [(.aload_n 0, 0, 0, 0)] 10 11 = true := by decide +kernel
theorem bk_X11_begins_41_42 : rr_chk mX11_begins [(.iload_n 1, 0, 1, 0)] 41 42 = true := by decide +kernel
set_option maxRecDepth 100000 in
set_option maxHeartbeats 4000000 in
theorem m_begins0 (len : Nat) (fa : Int32) (hd : Bool) (dd : Nat) (sd : Int32) (sg es a : Nat) (wr : Int32) (M : Nat → Nat → Int32) (tc wd cc kc : Nat) (G : Nat → Nat → Int32) (hG : m_G M G tc wd cc kc) (htc : tc ≤ 12) (hcc : cc ≤ 9) (hkc : kc ≤ 6) (h0 : tc = 0) : rr_C mX11_begins 6 [.ref 0] (W_M (mv len fa hd dd sd sg es a wr) M) 0 0 (some 0) (W_M (mv len fa hd dd sd sg es a wr) M) := by
  refine rr_C.of (n := 0) fX11_begins.1 rfl rfl (fun Z hC => ?_)
  show rr_J Z 3 0 0 (rr_MQ Z 0 0 (some 0) (W_M (mv len fa hd dd sd sg es a wr) M)) 0 [(0, .ref 0)] [] (W_M (mv len fa hd dd sd sg es a wr) M)
  refine rr_go hC bk_X11_begins_0_7 (l' := [(0, .ref 0), (1, .int 0), (2, .int 0)]) (st' := [.int 12, .int 0]) (w' := (W_M (mv len fa hd dd sd sg es a wr) M)) rfl ?_
  refine rr_icmp_ge hC (off := 34) (tgt := 41) (by decide +kernel) (fun h7 => by  exact absurd h7 (by decide)) (fun h7 => ?_)
  refine rr_go hC bk_X11_begins_10_11 (l' := [(0, .ref 0), (1, .int 0), (2, .int 0)]) (st' := [.ref 0]) (w' := (W_M (mv len fa hd dd sd sg es a wr) M)) rfl ?_
  refine rr_callVI hC (by decide +kernel) kl_11_162 fX11_isStrand (m_isStrand (mv len fa hd dd sd sg es a wr) M tc wd cc kc G hG (by omega) (by omega) (by omega)) rfl rfl rfl rfl rfl (rest := []) rfl rfl ⟨Nat.zero_le _, Nat.zero_le _⟩ (Eq.refl 22) ?_
  show rr_J Z 3 0 0 _ 14 [(0, .ref 0), (1, .int 0), (2, .int 0)] [.int (rr_b (decide (0 < tc)))] (W_M (mv len fa hd dd sd sg es a wr) M)
  refine rr_eqb hC (off := 27) (tgt := 41) (by decide +kernel) (fun h14 => ?_) (fun h14 => by replace h14 := of_decide_eq_true h14; omega)
  replace h14 := of_decide_eq_false h14
  refine rr_go hC bk_X11_begins_41_42 (l' := [(0, .ref 0), (1, .int 0), (2, .int 0)]) (st' := [.int 0]) (w' := (W_M (mv len fa hd dd sd sg es a wr) M)) rfl ?_
  exact rr_reti hC (by decide +kernel) (by rfl) (by rfl) ⟨Nat.zero_le _, Nat.zero_le _⟩
theorem bk_X11_begins_0_4 : rr_chk mX11_begins [(.iconst 0, 0, 0, 0), (.istore_n 1, 0, 1, 0), (.iconst 0, 0, 0, 0), (.istore_n 2, 0, 2, 0)] 0 4 = true := by decide +kernel
theorem bk_X11_begins_4_7 : rr_chk mX11_begins [(.iload_n 2, 0, 2, 0), (.bipush 12, 12, 0, 0)] 4 7 = true := by decide +kernel
theorem bk_X11_begins_17_20 : rr_chk mX11_begins [(.iload_n 1, 0, 1, 0), (.aload_n 0, 0, 0, 0), (.iload_n 2, 0, 2, 0)] 17 20 = true := by decide +kernel
theorem bk_X11_begins_32_4 : rr_chk mX11_begins [(.iconst 0, 0, 0, 0), (.ior, 0, 0, 0), (.istore_n 1, 0, 1, 0), (.iinc 2 1, 1, 2, 0), (.goto (-34), 0, 0, 0)] 32 4 = true := by decide +kernel
theorem bk_X11_begins_26_4 : rr_chk mX11_begins [(.iconst 1, 1, 0, 0), (.iload_n 2, 0, 2, 0), (.ishl, 0, 0, 0), (.goto 4, 0, 0, 0), (.ior, 0, 0, 0), (.istore_n 1, 0, 1, 0), (.iinc 2 1, 1, 2, 0), (.goto (-34), 0, 0, 0)] 26 4 = true := by decide +kernel
set_option maxRecDepth 100000 in
set_option maxHeartbeats 4000000 in
theorem m_begins1 (len : Nat) (fa : Int32) (hd : Bool) (dd : Nat) (sd : Int32) (sg es a : Nat) (wr : Int32) (M : Nat → Nat → Int32) (tc wd cc kc : Nat) (G : Nat → Nat → Int32) (hG : m_G M G tc wd cc kc) (t : p_Q) (ht : M 10 = en t) (V : Nat → Nat → Int32) (htc : tc ≤ 12) (hcc : cc ≤ 9) (hkc : kc ≤ 6) (h0c : 0 < cc → 0 < tc) (h0k : 0 < kc → 0 < tc) (hK : ∀ j, j < kc → ∃ t : Nat, G 2 j = nI t ∧ 1 ≤ t ∧ t ≤ 6) (hs : sg ≤ 8) (hV : ∀ i, i < sg → ∃ (k h : Nat) (z : Bool), k < 6 ∧ h ≤ 60 ∧ M 15 (3 * i) = nI k ∧ M 15 ((3 * i) + 1) = nI h ∧ M 15 ((3 * i) + 2) = rr_b z ∧ V 0 i = nI k ∧ V 1 i = nI h ∧ V 2 i = rr_b z) (h0 : 0 < tc) : rr_CP mX11_begins 6 [.ref 0] (W_M (mv len fa hd dd sd sg es a wr) M) 0 0 (fun r w' => r = some (p_bs (fun b => m_so V G tc wd cc kc b sg) 12) ∧ ∃ t : p_Q, w' = (W_M (mv len fa hd dd sd sg es a wr) (va_up M 10 (en t)))) := by
  refine rr_CP.of (n := 0) fX11_begins.1 rfl rfl (fun Z hC => ?_)
  show rr_J Z 3 0 0 (rr_MP Z 0 0 (fun r w' => r = some (p_bs (fun b => m_so V G tc wd cc kc b sg) 12) ∧ ∃ t : p_Q, w' = (W_M (mv len fa hd dd sd sg es a wr) (va_up M 10 (en t))))) 0 [(0, .ref 0)] [] (W_M (mv len fa hd dd sd sg es a wr) M)
  refine rr_cast (l' := [(0, .ref 0)]) rfl (st' := []) rfl (w' := (W_M (mv len fa hd dd sd sg es a wr) (va_up M 10 (en t)))) (by rw [← ht, va_up_i]) ?_
  refine rr_go hC bk_X11_begins_0_4 (l' := [(0, .ref 0), (1, .int 0), (2, .int 0)]) (st' := []) (w' := (W_M (mv len fa hd dd sd sg es a wr) (va_up M 10 (en t)))) rfl ?_
  have lp4 : ∀ (j b : Nat), b + j = 12 → 0 ≤ b → ∀ t : p_Q, rr_J Z 3 0 0 (rr_MP Z 0 0 (fun r w' => r = some (p_bs (fun b => m_so V G tc wd cc kc b sg) 12) ∧ ∃ t : p_Q, w' = (W_M (mv len fa hd dd sd sg es a wr) (va_up M 10 (en t))))) 4 [(0, .ref 0), (1, .int (p_bs (fun b => m_so V G tc wd cc kc b sg) b)), (2, .int (nI b))] [] (W_M (mv len fa hd dd sd sg es a wr) (va_up M 10 (en t))) := by
    intro j
    induction j with
    | zero =>
      intro b hk4 hlo4 t
      refine rr_go hC bk_X11_begins_4_7 (l' := [(0, .ref 0), (1, .int (p_bs (fun b => m_so V G tc wd cc kc b sg) b)), (2, .int (nI b))]) (st' := [.int 12, .int (nI b)]) (w' := (W_M (mv len fa hd dd sd sg es a wr) (va_up M 10 (en t)))) rfl ?_
      refine rr_icmp_ge hC (off := 34) (tgt := 41) (by decide +kernel) (fun h7 => ?_) (fun h7 => by rw [rr_ln_le (a := 12) (by omega) (by omega)] at h7; omega)
      rw [rr_ln_le (a := 12) (by omega) (by omega)] at h7
      refine rr_go hC bk_X11_begins_41_42 (l' := [(0, .ref 0), (1, .int (p_bs (fun b => m_so V G tc wd cc kc b sg) b)), (2, .int (nI b))]) (st' := [.int (p_bs (fun b => m_so V G tc wd cc kc b sg) b)]) (w' := (W_M (mv len fa hd dd sd sg es a wr) (va_up M 10 (en t)))) rfl ?_
      exact rr_retiP hC (by decide +kernel) (by exact ⟨by rw [show b = 12 by omega], _, rfl⟩) ⟨Nat.zero_le _, Nat.zero_le _⟩
    | succ j ih =>
      intro b hk4 hlo4 t
      refine rr_go hC bk_X11_begins_4_7 (l' := [(0, .ref 0), (1, .int (p_bs (fun b => m_so V G tc wd cc kc b sg) b)), (2, .int (nI b))]) (st' := [.int 12, .int (nI b)]) (w' := (W_M (mv len fa hd dd sd sg es a wr) (va_up M 10 (en t)))) rfl ?_
      refine rr_icmp_ge hC (off := 34) (tgt := 41) (by decide +kernel) (fun h7 => by rw [rr_ln_le (a := 12) (by omega) (by omega)] at h7; omega) (fun h7 => ?_)
      rw [rr_ln_le (a := 12) (by omega) (by omega)] at h7
      refine rr_go hC bk_X11_begins_10_11 (l' := [(0, .ref 0), (1, .int (p_bs (fun b => m_so V G tc wd cc kc b sg) b)), (2, .int (nI b))]) (st' := [.ref 0]) (w' := (W_M (mv len fa hd dd sd sg es a wr) (va_up M 10 (en t)))) rfl ?_
      refine rr_callVI hC (by decide +kernel) kl_11_162 fX11_isStrand (m_isStrand (mv len fa hd dd sd sg es a wr) (va_up M 10 (en t)) tc wd cc kc G (by exact hG) (by omega) (by omega) (by omega)) rfl rfl rfl rfl rfl (rest := []) rfl rfl ⟨Nat.zero_le _, Nat.zero_le _⟩ (Eq.refl 22) ?_
      show rr_J Z 3 0 0 _ 14 [(0, .ref 0), (1, .int (p_bs (fun b => m_so V G tc wd cc kc b sg) b)), (2, .int (nI b))] [.int (rr_b (decide (0 < tc)))] (W_M (mv len fa hd dd sd sg es a wr) (va_up M 10 (en t)))
      refine rr_eqb hC (off := 27) (tgt := 41) (by decide +kernel) (fun h14 => by replace h14 := of_decide_eq_false h14; omega) (fun h14 => ?_)
      replace h14 := of_decide_eq_true h14
      refine rr_go hC bk_X11_begins_17_20 (l' := [(0, .ref 0), (1, .int (p_bs (fun b => m_so V G tc wd cc kc b sg) b)), (2, .int (nI b))]) (st' := [.int (nI b), .ref 0, .int (p_bs (fun b => m_so V G tc wd cc kc b sg) b)]) (w' := (W_M (mv len fa hd dd sd sg es a wr) (va_up M 10 (en t)))) rfl ?_
      refine rr_callVPI hC (by decide +kernel) kl_11_254 fX11_isSo (m_isSo len fa hd dd sd sg es a wr (va_up M 10 (en t)) tc wd cc kc G (by exact hG) t rfl V b (by omega) (by omega) (by omega) h0c h0k hK hs (by exact hV) (by omega)) rfl rfl rfl rfl rfl (rest := [.int (p_bs (fun b => m_so V G tc wd cc kc b sg) b)]) rfl rfl ⟨Nat.zero_le _, Nat.zero_le _⟩ (by intro r_ w_ h_; obtain ⟨rfl, t, rfl⟩ := h_; exact Eq.refl 22) (fun r_ w_ h_ => ?_)
      obtain ⟨rfl, t, rfl⟩ := h_
      show rr_J Z 3 0 0 _ 23 [(0, .ref 0), (1, .int (p_bs (fun b => m_so V G tc wd cc kc b sg) b)), (2, .int (nI b))] [.int (rr_b (m_so V G tc wd cc kc b sg)), .int (p_bs (fun b => m_so V G tc wd cc kc b sg) b)] (W_M (mv len fa hd dd sd sg es a wr) (va_up M 10 (en t)))
      refine rr_eqb hC (off := 9) (tgt := 32) (by decide +kernel) (fun h23 => ?_) (fun h23 => ?_)
      · refine rr_go hC bk_X11_begins_32_4 (l' := [(0, .ref 0), (1, .int ((p_bs (fun b => m_so V G tc wd cc kc b sg) b) ||| 0)), (2, .int ((nI b) + 1))]) (st' := []) (w' := (W_M (mv len fa hd dd sd sg es a wr) (va_up M 10 (en t)))) rfl ?_
        rw [show ((nI b) + 1 : Int32) = nI (b + 1) from nI_add b 1]
        exact rr_cast (l' := [(0, .ref 0), (1, .int (p_bs (fun b => m_so V G tc wd cc kc b sg) (b + 1))), (2, .int (nI (b + 1)))]) (by first | (rw [show p_bs (fun b => m_so V G tc wd cc kc b sg) (b + 1) = _ from if_pos h23]; done) | (rw [p_or0, show p_bs (fun b => m_so V G tc wd cc kc b sg) (b + 1) = p_bs (fun b => m_so V G tc wd cc kc b sg) b from if_neg (fun z => by rw [show m_so V G tc wd cc kc b sg = true from z] at h23; cases h23)]; done)) rfl (w' := (W_M (mv len fa hd dd sd sg es a wr) (va_up M 10 (en t)))) (by rfl) (ih (b + 1) (by omega) (by omega) t)
      · refine rr_go hC bk_X11_begins_26_4 (l' := [(0, .ref 0), (1, .int ((p_bs (fun b => m_so V G tc wd cc kc b sg) b) ||| (1 <<< (nI b &&& 31)))), (2, .int ((nI b) + 1))]) (st' := []) (w' := (W_M (mv len fa hd dd sd sg es a wr) (va_up M 10 (en t)))) rfl ?_
        rw [show ((nI b) + 1 : Int32) = nI (b + 1) from nI_add b 1]
        exact rr_cast (l' := [(0, .ref 0), (1, .int (p_bs (fun b => m_so V G tc wd cc kc b sg) (b + 1))), (2, .int (nI (b + 1)))]) (by first | (rw [show p_bs (fun b => m_so V G tc wd cc kc b sg) (b + 1) = _ from if_pos h23]; done) | (rw [p_or0, show p_bs (fun b => m_so V G tc wd cc kc b sg) (b + 1) = p_bs (fun b => m_so V G tc wd cc kc b sg) b from if_neg (fun z => by rw [show m_so V G tc wd cc kc b sg = true from z] at h23; cases h23)]; done)) rfl (w' := (W_M (mv len fa hd dd sd sg es a wr) (va_up M 10 (en t)))) (by rfl) (ih (b + 1) (by omega) (by omega) t)
  exact rr_cast (l' := [(0, .ref 0), (1, .int (p_bs (fun b => m_so V G tc wd cc kc b sg) 0)), (2, .int (nI 0))]) (by first | rfl | (rfl)) rfl (w' := (W_M (mv len fa hd dd sd sg es a wr) (va_up M 10 (en t)))) (by rfl) (lp4 (12 - 0) 0 (by omega) (Nat.le_refl _) t)
theorem m_begins (len : Nat) (fa : Int32) (hd : Bool) (dd : Nat) (sd : Int32) (sg es a : Nat) (wr : Int32) (M : Nat → Nat → Int32) (tc wd cc kc : Nat) (G : Nat → Nat → Int32) (hG : m_G M G tc wd cc kc) (t : p_Q) (ht : M 10 = en t) (V : Nat → Nat → Int32) (htc : tc ≤ 12) (hcc : cc ≤ 9) (hkc : kc ≤ 6) (h0c : 0 < cc → 0 < tc) (h0k : 0 < kc → 0 < tc) (hK : ∀ j, j < kc → ∃ t : Nat, G 2 j = nI t ∧ 1 ≤ t ∧ t ≤ 6) (hs : sg ≤ 8) (hV : ∀ i, i < sg → ∃ (k h : Nat) (z : Bool), k < 6 ∧ h ≤ 60 ∧ M 15 (3 * i) = nI k ∧ M 15 ((3 * i) + 1) = nI h ∧ M 15 ((3 * i) + 2) = rr_b z ∧ V 0 i = nI k ∧ V 1 i = nI h ∧ V 2 i = rr_b z) : rr_CP mX11_begins 6 [.ref 0] (W_M (mv len fa hd dd sd sg es a wr) M) 0 0 (fun r w' => r = some ((p_bs (fun b => m_so V G tc wd cc kc b sg) (if tc = 0 then 0 else 12))) ∧ ∃ t : p_Q, w' = (W_M (mv len fa hd dd sd sg es a wr) (va_up M 10 (en t)))) := by
  by_cases h0 : tc = 0
  · rw [if_pos h0]
    refine (m_begins0 len fa hd dd sd sg es a wr M tc wd cc kc G hG htc hcc hkc h0).toP ⟨rfl, t, ?_⟩
    rw [← ht, va_up_i]
  · rw [if_neg h0]
    exact m_begins1 len fa hd dd sd sg es a wr M tc wd cc kc G hG t ht V htc hcc hkc h0c h0k hK hs hV (by omega)
theorem bk_X11_agreed_0_3 : rr_chk mX11_agreed [(.iload_n 1, 0, 1, 0), (.iconst 0, 0, 0, 0), (.iconst 2, 2, 0, 0)] 0 3 = true := by decide +kernel
theorem bk_X11_agreed_9_11 : rr_chk mX11_agreed [(.ldc 82, (-1000000002), 0, 0)] 9 11 = true := by decide +kernel
set_option maxRecDepth 100000 in
set_option maxHeartbeats 4000000 in
theorem m_agreedO (len : Nat) (fa : Int32) (hd : Bool) (dd : Nat) (sd : Int32) (sg es a : Nat) (wr : Int32) (M : Nat → Nat → Int32) (tc wd cc kc : Nat) (G : Nat → Nat → Int32) (hG : m_G M G tc wd cc kc) (x : Int32) (hx : x < 0 ∨ 2 < x) : rr_C mX11_agreed 1 [.ref 0, .int x] (W_M (mv len fa hd dd sd sg es a wr) M) 0 0 (some (-1000000002)) (W_M (mv len fa hd dd sd sg es a wr) M) := by
  refine rr_C.of (n := 1) fX11_agreed.1 rfl rfl (fun Z hC => ?_)
  show rr_J Z 5 0 0 (rr_MQ Z 0 0 (some (-1000000002)) (W_M (mv len fa hd dd sd sg es a wr) M)) 0 [(0, .ref 0), (1, .int x)] [] (W_M (mv len fa hd dd sd sg es a wr) M)
  refine rr_go hC bk_X11_agreed_0_3 (l' := [(0, .ref 0), (1, .int x)]) (st' := [.int 2, .int 0, .int x]) (w' := (W_M (mv len fa hd dd sd sg es a wr) M)) rfl ?_
  refine rr_callS hC (by decide +kernel) kl_11_78 fX11_in (m_c_in x 0 2) rfl rfl [] rfl rfl (Eq.refl 0) rfl (rest := []) rfl rfl ⟨Nat.zero_le _, Nat.zero_le _⟩ (w2 := (W_M (mv len fa hd dd sd sg es a wr) M)) rfl ?_
  show rr_J Z 5 0 0 _ 6 [(0, .ref 0), (1, .int x)] [.int (rr_b (m_in x 0 2))] (W_M (mv len fa hd dd sd sg es a wr) M)
  refine rr_neb hC (off := 6) (tgt := 12) (by decide +kernel) (fun h6 => by  rw [m_in_no hx] at h6; cases h6) (fun h6 => ?_)
  refine rr_go hC bk_X11_agreed_9_11 (l' := [(0, .ref 0), (1, .int x)]) (st' := [.int (-1000000002)]) (w' := (W_M (mv len fa hd dd sd sg es a wr) M)) rfl ?_
  exact rr_reti hC (by decide +kernel) (by rfl) (by rfl) ⟨Nat.zero_le _, Nat.zero_le _⟩
theorem bk_X11_agreed_12_13 : rr_chk mX11_agreed [(.aload_n 0, 0, 0, 0)] 12 13 = true := by decide +kernel
theorem bk_X11_agreed_16_23 : rr_chk mX11_agreed [(.istore_n 2, 0, 2, 0), (.iconst (-1), (-1), 0, 0), (.istore_n 3, 0, 3, 0), (.bipush 11, 11, 0, 0), (.istore 4, 0, 4, 0)] 16 23 = true := by decide +kernel
theorem bk_X11_agreed_23_25 : rr_chk mX11_agreed [(.iload 4, 0, 4, 0)] 23 25 = true := by decide +kernel
theorem bk_X11_agreed_50_51 : rr_chk mX11_agreed [(.iload_n 1, 0, 1, 0)] 50 51 = true := by decide +kernel
theorem bk_X11_agreed_54_55 : rr_chk mX11_agreed [(.iload_n 2, 0, 2, 0)] 54 55 = true := by decide +kernel
theorem bk_X11_agreed_58_71 : rr_chk mX11_agreed [(.goto 13, 0, 0, 0)] 58 71 = true := by decide +kernel
theorem bk_X11_agreed_28_31 : rr_chk mX11_agreed [(.iload_n 2, 0, 2, 0), (.iload 4, 0, 4, 0)] 28 31 = true := by decide +kernel
theorem bk_X11_agreed_42_23 : rr_chk mX11_agreed [(.iload_n 3, 0, 3, 0), (.istore_n 3, 0, 3, 0), (.iinc 4 (-1), (-1), 4, 0), (.goto (-24), 0, 0, 0)] 42 23 = true := by decide +kernel
theorem bk_X11_agreed_37_23 : rr_chk mX11_agreed [(.iload 4, 0, 4, 0), (.goto 4, 0, 0, 0), (.istore_n 3, 0, 3, 0), (.iinc 4 (-1), (-1), 4, 0), (.goto (-24), 0, 0, 0)] 37 23 = true := by decide +kernel
set_option maxRecDepth 100000 in
set_option maxHeartbeats 4000000 in
theorem m_agreed0 (len : Nat) (fa : Int32) (hd : Bool) (dd : Nat) (sd : Int32) (sg es a : Nat) (wr : Int32) (M : Nat → Nat → Int32) (tc wd cc kc : Nat) (G : Nat → Nat → Int32) (hG : m_G M G tc wd cc kc) (t : p_Q) (ht : M 10 = en t) (V : Nat → Nat → Int32) (htc : tc ≤ 12) (hcc : cc ≤ 9) (hkc : kc ≤ 6) (h0c : 0 < cc → 0 < tc) (h0k : 0 < kc → 0 < tc) (hK : ∀ j, j < kc → ∃ t : Nat, G 2 j = nI t ∧ 1 ≤ t ∧ t ≤ 6) (hs : sg ≤ 8) (hV : ∀ i, i < sg → ∃ (k h : Nat) (z : Bool), k < 6 ∧ h ≤ 60 ∧ M 15 (3 * i) = nI k ∧ M 15 ((3 * i) + 1) = nI h ∧ M 15 ((3 * i) + 2) = rr_b z ∧ V 0 i = nI k ∧ V 1 i = nI h ∧ V 2 i = rr_b z) : rr_CP mX11_agreed 7 [.ref 0, .int 0] (W_M (mv len fa hd dd sd sg es a wr) M) 0 0 (fun r w' => r = some (m_ones (p_bs (fun b => m_so V G tc wd cc kc b sg) (if tc = 0 then 0 else 12)) 12) ∧ ∃ t : p_Q, w' = (W_M (mv len fa hd dd sd sg es a wr) (va_up M 10 (en t)))) := by
  refine rr_CP.of (n := 1) fX11_agreed.1 rfl rfl (fun Z hC => ?_)
  show rr_J Z 5 0 0 (rr_MP Z 0 0 (fun r w' => r = some (m_ones (p_bs (fun b => m_so V G tc wd cc kc b sg) (if tc = 0 then 0 else 12)) 12) ∧ ∃ t : p_Q, w' = (W_M (mv len fa hd dd sd sg es a wr) (va_up M 10 (en t))))) 0 [(0, .ref 0), (1, .int 0)] [] (W_M (mv len fa hd dd sd sg es a wr) M)
  refine rr_cast (l' := [(0, .ref 0), (1, .int 0)]) rfl (st' := []) rfl (w' := (W_M (mv len fa hd dd sd sg es a wr) (va_up M 10 (en t)))) (by rw [← ht, va_up_i]) ?_
  refine rr_go hC bk_X11_agreed_0_3 (l' := [(0, .ref 0), (1, .int 0)]) (st' := [.int 2, .int 0, .int 0]) (w' := (W_M (mv len fa hd dd sd sg es a wr) (va_up M 10 (en t)))) rfl ?_
  refine rr_callS hC (by decide +kernel) kl_11_78 fX11_in (m_c_in 0 0 2) rfl rfl [] rfl rfl (Eq.refl 0) rfl (rest := []) rfl rfl ⟨Nat.zero_le _, Nat.zero_le _⟩ (w2 := (W_M (mv len fa hd dd sd sg es a wr) (va_up M 10 (en t)))) rfl ?_
  show rr_J Z 5 0 0 _ 6 [(0, .ref 0), (1, .int 0)] [.int (rr_b (m_in 0 0 2))] (W_M (mv len fa hd dd sd sg es a wr) (va_up M 10 (en t)))
  refine rr_neb hC (off := 6) (tgt := 12) (by decide +kernel) (fun h6 => ?_) (fun h6 => by  cases h6)
  refine rr_go hC bk_X11_agreed_12_13 (l' := [(0, .ref 0), (1, .int 0)]) (st' := [.ref 0]) (w' := (W_M (mv len fa hd dd sd sg es a wr) (va_up M 10 (en t)))) rfl ?_
  refine rr_callVPI hC (by decide +kernel) kl_11_257 fX11_begins (m_begins len fa hd dd sd sg es a wr (va_up M 10 (en t)) tc wd cc kc G (by exact hG) t rfl V (by omega) (by omega) (by omega) h0c h0k hK hs (by exact hV)) rfl rfl rfl rfl rfl (rest := []) rfl rfl ⟨Nat.zero_le _, Nat.zero_le _⟩ (by intro r_ w_ h_; obtain ⟨rfl, t, rfl⟩ := h_; exact Eq.refl 22) (fun r_ w_ h_ => ?_)
  obtain ⟨rfl, t, rfl⟩ := h_
  show rr_J Z 5 0 0 _ 16 [(0, .ref 0), (1, .int 0)] [.int (p_bs (fun b => m_so V G tc wd cc kc b sg) (if tc = 0 then 0 else 12))] (W_M (mv len fa hd dd sd sg es a wr) (va_up M 10 (en t)))
  obtain ⟨bs, hbs⟩ : ∃ z, z = (p_bs (fun b => m_so V G tc wd cc kc b sg) (if tc = 0 then 0 else 12)) := ⟨_, rfl⟩
  refine rr_cast (l' := [(0, .ref 0), (1, .int 0)]) rfl (st' := [.int bs]) (by rw [hbs]) (w' := (W_M (mv len fa hd dd sd sg es a wr) (va_up M 10 (en t)))) rfl ?_
  refine rr_go hC bk_X11_agreed_16_23 (l' := [(0, .ref 0), (1, .int 0), (2, .int bs), (3, .int (-1)), (4, .int 11)]) (st' := []) (w' := (W_M (mv len fa hd dd sd sg es a wr) (va_up M 10 (en t)))) rfl ?_
  have lp23 : ∀ (j k : Nat), k + j = 12 → 0 ≤ k → ∀ t : p_Q, rr_J Z 5 0 0 (rr_MP Z 0 0 (fun r w' => r = some (m_ones (p_bs (fun b => m_so V G tc wd cc kc b sg) (if tc = 0 then 0 else 12)) 12) ∧ ∃ t : p_Q, w' = (W_M (mv len fa hd dd sd sg es a wr) (va_up M 10 (en t))))) 23 [(0, .ref 0), (1, .int 0), (2, .int bs), (3, .int (m_fb bs k)), (4, .int (nI (12 - k) - 1))] [] (W_M (mv len fa hd dd sd sg es a wr) (va_up M 10 (en t))) := by
    intro j
    induction j with
    | zero =>
      intro k hk23 hlo23 t
      refine rr_go hC bk_X11_agreed_23_25 (l' := [(0, .ref 0), (1, .int 0), (2, .int bs), (3, .int (m_fb bs k)), (4, .int (nI (12 - k) - 1))]) (st' := [.int (nI (12 - k) - 1)]) (w' := (W_M (mv len fa hd dd sd sg es a wr) (va_up M 10 (en t)))) rfl ?_
      rw [show nI (12 - k) - 1 = (-1 : Int32) from by rw [show 12 - k = 0 by omega]; decide]
      refine rr_if_lt hC (off := 25) (tgt := 50) (by decide +kernel) (fun h25 => ?_) (fun h25 => by  first | (exact absurd h25 (by decide)) | omega)
      refine rr_go hC bk_X11_agreed_50_51 (l' := [(0, .ref 0), (1, .int 0), (2, .int bs), (3, .int (m_fb bs k)), (4, .int (-1))]) (st' := [.int 0]) (w' := (W_M (mv len fa hd dd sd sg es a wr) (va_up M 10 (en t)))) rfl ?_
      refine rr_if_ne hC (off := 10) (tgt := 61) (by decide +kernel) (fun h51 => by  exact absurd rfl h51) (fun h51 => ?_)
      refine rr_go hC bk_X11_agreed_54_55 (l' := [(0, .ref 0), (1, .int 0), (2, .int bs), (3, .int (m_fb bs k)), (4, .int (-1))]) (st' := [.int bs]) (w' := (W_M (mv len fa hd dd sd sg es a wr) (va_up M 10 (en t)))) rfl ?_
      refine rr_callS hC (by decide +kernel) kl_11_260 fX11_many (m_c_many bs) rfl rfl [] rfl rfl (Eq.refl 0) rfl (rest := []) rfl rfl ⟨Nat.zero_le _, Nat.zero_le _⟩ (w2 := (W_M (mv len fa hd dd sd sg es a wr) (va_up M 10 (en t)))) rfl ?_
      show rr_J Z 5 0 0 _ 58 [(0, .ref 0), (1, .int 0), (2, .int bs), (3, .int (m_fb bs k)), (4, .int (-1))] [.int (m_ones bs 12)] (W_M (mv len fa hd dd sd sg es a wr) (va_up M 10 (en t)))
      refine rr_go hC bk_X11_agreed_58_71 (l' := [(0, .ref 0), (1, .int 0), (2, .int bs), (3, .int (m_fb bs k)), (4, .int (-1))]) (st' := [.int (m_ones bs 12)]) (w' := (W_M (mv len fa hd dd sd sg es a wr) (va_up M 10 (en t)))) rfl ?_
      exact rr_retiP hC (by decide +kernel) (by exact ⟨by rw [hbs], _, rfl⟩) ⟨Nat.zero_le _, Nat.zero_le _⟩
    | succ j ih =>
      intro k hk23 hlo23 t
      refine rr_go hC bk_X11_agreed_23_25 (l' := [(0, .ref 0), (1, .int 0), (2, .int bs), (3, .int (m_fb bs k)), (4, .int (nI (12 - k) - 1))]) (st' := [.int (nI (12 - k) - 1)]) (w' := (W_M (mv len fa hd dd sd sg es a wr) (va_up M 10 (en t)))) rfl ?_
      rw [show nI (12 - k) - 1 = nI (11 - k) from by rw [show (1 : Int32) = nI 1 from rfl, pk_sub (by omega)]; exact congrArg nI (by omega)]
      refine rr_if_lt hC (off := 25) (tgt := 50) (by decide +kernel) (fun h25 => by rw [rr_nl_lt (b := 0) (by omega) (by omega)] at h25; first | (exact absurd h25 (by decide)) | omega) (fun h25 => ?_)
      rw [rr_nl_lt (b := 0) (by omega) (by omega)] at h25
      refine rr_go hC bk_X11_agreed_28_31 (l' := [(0, .ref 0), (1, .int 0), (2, .int bs), (3, .int (m_fb bs k)), (4, .int (nI (11 - k)))]) (st' := [.int (nI (11 - k)), .int bs]) (w' := (W_M (mv len fa hd dd sd sg es a wr) (va_up M 10 (en t)))) rfl ?_
      refine rr_callS hC (by decide +kernel) kl_11_159 fX11_has (m_c_has bs (nI (11 - k))) rfl rfl [] rfl rfl (Eq.refl 0) rfl (rest := []) rfl rfl ⟨Nat.zero_le _, Nat.zero_le _⟩ (w2 := (W_M (mv len fa hd dd sd sg es a wr) (va_up M 10 (en t)))) rfl ?_
      show rr_J Z 5 0 0 _ 34 [(0, .ref 0), (1, .int 0), (2, .int bs), (3, .int (m_fb bs k)), (4, .int (nI (11 - k)))] [.int (rr_b (m_has bs (nI (11 - k))))] (W_M (mv len fa hd dd sd sg es a wr) (va_up M 10 (en t)))
      refine rr_eqb hC (off := 8) (tgt := 42) (by decide +kernel) (fun h34 => ?_) (fun h34 => ?_)
      · refine rr_go hC bk_X11_agreed_42_23 (l' := [(0, .ref 0), (1, .int 0), (2, .int bs), (3, .int (m_fb bs k)), (4, .int ((nI (11 - k)) + (-1)))]) (st' := []) (w' := (W_M (mv len fa hd dd sd sg es a wr) (va_up M 10 (en t)))) rfl ?_
        exact rr_cast (l' := [(0, .ref 0), (1, .int 0), (2, .int bs), (3, .int (m_fb bs (k + 1))), (4, .int (nI (12 - (k + 1)) - 1))]) (by first | (rw [m_has_p] at h34; rw [show m_fb bs (k + 1) = nI (11 - k) from if_neg (by simpa using h34)]; rw [show (12 - (k + 1)) = 11 - k by omega, p_m1]) | (rw [m_has_p] at h34; rw [show m_fb bs (k + 1) = m_fb bs k from if_pos (by simpa using h34)]; rw [show (12 - (k + 1)) = 11 - k by omega, p_m1])) rfl (w' := (W_M (mv len fa hd dd sd sg es a wr) (va_up M 10 (en t)))) (by rfl) (ih (k + 1) (by omega) (by omega) t)
      · refine rr_go hC bk_X11_agreed_37_23 (l' := [(0, .ref 0), (1, .int 0), (2, .int bs), (3, .int (nI (11 - k))), (4, .int ((nI (11 - k)) + (-1)))]) (st' := []) (w' := (W_M (mv len fa hd dd sd sg es a wr) (va_up M 10 (en t)))) rfl ?_
        exact rr_cast (l' := [(0, .ref 0), (1, .int 0), (2, .int bs), (3, .int (m_fb bs (k + 1))), (4, .int (nI (12 - (k + 1)) - 1))]) (by first | (rw [m_has_p] at h34; rw [show m_fb bs (k + 1) = nI (11 - k) from if_neg (by simpa using h34)]; rw [show (12 - (k + 1)) = 11 - k by omega, p_m1]) | (rw [m_has_p] at h34; rw [show m_fb bs (k + 1) = m_fb bs k from if_pos (by simpa using h34)]; rw [show (12 - (k + 1)) = 11 - k by omega, p_m1])) rfl (w' := (W_M (mv len fa hd dd sd sg es a wr) (va_up M 10 (en t)))) (by rfl) (ih (k + 1) (by omega) (by omega) t)
  exact rr_cast (l' := [(0, .ref 0), (1, .int 0), (2, .int bs), (3, .int (m_fb bs 0)), (4, .int (nI (12 - 0) - 1))]) (by first | rfl | (rfl)) rfl (w' := (W_M (mv len fa hd dd sd sg es a wr) (va_up M 10 (en t)))) (by rfl) (lp23 (12 - 0) 0 (by omega) (Nat.le_refl _) t)
theorem bk_X11_agreed_61_63 : rr_chk mX11_agreed [(.iload_n 1, 0, 1, 0), (.iconst 1, 1, 0, 0)] 61 63 = true := by decide +kernel
theorem bk_X11_agreed_66_71 : rr_chk mX11_agreed [(.iload_n 3, 0, 3, 0), (.goto 4, 0, 0, 0)] 66 71 = true := by decide +kernel
set_option maxRecDepth 100000 in
set_option maxHeartbeats 4000000 in
theorem m_agreed1 (len : Nat) (fa : Int32) (hd : Bool) (dd : Nat) (sd : Int32) (sg es a : Nat) (wr : Int32) (M : Nat → Nat → Int32) (tc wd cc kc : Nat) (G : Nat → Nat → Int32) (hG : m_G M G tc wd cc kc) (t : p_Q) (ht : M 10 = en t) (V : Nat → Nat → Int32) (htc : tc ≤ 12) (hcc : cc ≤ 9) (hkc : kc ≤ 6) (h0c : 0 < cc → 0 < tc) (h0k : 0 < kc → 0 < tc) (hK : ∀ j, j < kc → ∃ t : Nat, G 2 j = nI t ∧ 1 ≤ t ∧ t ≤ 6) (hs : sg ≤ 8) (hV : ∀ i, i < sg → ∃ (k h : Nat) (z : Bool), k < 6 ∧ h ≤ 60 ∧ M 15 (3 * i) = nI k ∧ M 15 ((3 * i) + 1) = nI h ∧ M 15 ((3 * i) + 2) = rr_b z ∧ V 0 i = nI k ∧ V 1 i = nI h ∧ V 2 i = rr_b z) : rr_CP mX11_agreed 7 [.ref 0, .int 1] (W_M (mv len fa hd dd sd sg es a wr) M) 0 0 (fun r w' => r = some (m_fb (p_bs (fun b => m_so V G tc wd cc kc b sg) (if tc = 0 then 0 else 12)) 12) ∧ ∃ t : p_Q, w' = (W_M (mv len fa hd dd sd sg es a wr) (va_up M 10 (en t)))) := by
  refine rr_CP.of (n := 1) fX11_agreed.1 rfl rfl (fun Z hC => ?_)
  show rr_J Z 5 0 0 (rr_MP Z 0 0 (fun r w' => r = some (m_fb (p_bs (fun b => m_so V G tc wd cc kc b sg) (if tc = 0 then 0 else 12)) 12) ∧ ∃ t : p_Q, w' = (W_M (mv len fa hd dd sd sg es a wr) (va_up M 10 (en t))))) 0 [(0, .ref 0), (1, .int 1)] [] (W_M (mv len fa hd dd sd sg es a wr) M)
  refine rr_cast (l' := [(0, .ref 0), (1, .int 1)]) rfl (st' := []) rfl (w' := (W_M (mv len fa hd dd sd sg es a wr) (va_up M 10 (en t)))) (by rw [← ht, va_up_i]) ?_
  refine rr_go hC bk_X11_agreed_0_3 (l' := [(0, .ref 0), (1, .int 1)]) (st' := [.int 2, .int 0, .int 1]) (w' := (W_M (mv len fa hd dd sd sg es a wr) (va_up M 10 (en t)))) rfl ?_
  refine rr_callS hC (by decide +kernel) kl_11_78 fX11_in (m_c_in 1 0 2) rfl rfl [] rfl rfl (Eq.refl 0) rfl (rest := []) rfl rfl ⟨Nat.zero_le _, Nat.zero_le _⟩ (w2 := (W_M (mv len fa hd dd sd sg es a wr) (va_up M 10 (en t)))) rfl ?_
  show rr_J Z 5 0 0 _ 6 [(0, .ref 0), (1, .int 1)] [.int (rr_b (m_in 1 0 2))] (W_M (mv len fa hd dd sd sg es a wr) (va_up M 10 (en t)))
  refine rr_neb hC (off := 6) (tgt := 12) (by decide +kernel) (fun h6 => ?_) (fun h6 => by  cases h6)
  refine rr_go hC bk_X11_agreed_12_13 (l' := [(0, .ref 0), (1, .int 1)]) (st' := [.ref 0]) (w' := (W_M (mv len fa hd dd sd sg es a wr) (va_up M 10 (en t)))) rfl ?_
  refine rr_callVPI hC (by decide +kernel) kl_11_257 fX11_begins (m_begins len fa hd dd sd sg es a wr (va_up M 10 (en t)) tc wd cc kc G (by exact hG) t rfl V (by omega) (by omega) (by omega) h0c h0k hK hs (by exact hV)) rfl rfl rfl rfl rfl (rest := []) rfl rfl ⟨Nat.zero_le _, Nat.zero_le _⟩ (by intro r_ w_ h_; obtain ⟨rfl, t, rfl⟩ := h_; exact Eq.refl 22) (fun r_ w_ h_ => ?_)
  obtain ⟨rfl, t, rfl⟩ := h_
  show rr_J Z 5 0 0 _ 16 [(0, .ref 0), (1, .int 1)] [.int (p_bs (fun b => m_so V G tc wd cc kc b sg) (if tc = 0 then 0 else 12))] (W_M (mv len fa hd dd sd sg es a wr) (va_up M 10 (en t)))
  obtain ⟨bs, hbs⟩ : ∃ z, z = (p_bs (fun b => m_so V G tc wd cc kc b sg) (if tc = 0 then 0 else 12)) := ⟨_, rfl⟩
  refine rr_cast (l' := [(0, .ref 0), (1, .int 1)]) rfl (st' := [.int bs]) (by rw [hbs]) (w' := (W_M (mv len fa hd dd sd sg es a wr) (va_up M 10 (en t)))) rfl ?_
  refine rr_go hC bk_X11_agreed_16_23 (l' := [(0, .ref 0), (1, .int 1), (2, .int bs), (3, .int (-1)), (4, .int 11)]) (st' := []) (w' := (W_M (mv len fa hd dd sd sg es a wr) (va_up M 10 (en t)))) rfl ?_
  have lp23 : ∀ (j k : Nat), k + j = 12 → 0 ≤ k → ∀ t : p_Q, rr_J Z 5 0 0 (rr_MP Z 0 0 (fun r w' => r = some (m_fb (p_bs (fun b => m_so V G tc wd cc kc b sg) (if tc = 0 then 0 else 12)) 12) ∧ ∃ t : p_Q, w' = (W_M (mv len fa hd dd sd sg es a wr) (va_up M 10 (en t))))) 23 [(0, .ref 0), (1, .int 1), (2, .int bs), (3, .int (m_fb bs k)), (4, .int (nI (12 - k) - 1))] [] (W_M (mv len fa hd dd sd sg es a wr) (va_up M 10 (en t))) := by
    intro j
    induction j with
    | zero =>
      intro k hk23 hlo23 t
      refine rr_go hC bk_X11_agreed_23_25 (l' := [(0, .ref 0), (1, .int 1), (2, .int bs), (3, .int (m_fb bs k)), (4, .int (nI (12 - k) - 1))]) (st' := [.int (nI (12 - k) - 1)]) (w' := (W_M (mv len fa hd dd sd sg es a wr) (va_up M 10 (en t)))) rfl ?_
      rw [show nI (12 - k) - 1 = (-1 : Int32) from by rw [show 12 - k = 0 by omega]; decide]
      refine rr_if_lt hC (off := 25) (tgt := 50) (by decide +kernel) (fun h25 => ?_) (fun h25 => by  first | (exact absurd h25 (by decide)) | omega)
      refine rr_go hC bk_X11_agreed_50_51 (l' := [(0, .ref 0), (1, .int 1), (2, .int bs), (3, .int (m_fb bs k)), (4, .int (-1))]) (st' := [.int 1]) (w' := (W_M (mv len fa hd dd sd sg es a wr) (va_up M 10 (en t)))) rfl ?_
      refine rr_if_ne hC (off := 10) (tgt := 61) (by decide +kernel) (fun h51 => ?_) (fun h51 => by  exact absurd h51 (by decide))
      refine rr_go hC bk_X11_agreed_61_63 (l' := [(0, .ref 0), (1, .int 1), (2, .int bs), (3, .int (m_fb bs k)), (4, .int (-1))]) (st' := [.int 1, .int 1]) (w' := (W_M (mv len fa hd dd sd sg es a wr) (va_up M 10 (en t)))) rfl ?_
      refine rr_icmp_ne hC (off := 7) (tgt := 70) (by decide +kernel) (fun h63 => by  exact absurd rfl h63) (fun h63 => ?_)
      refine rr_go hC bk_X11_agreed_66_71 (l' := [(0, .ref 0), (1, .int 1), (2, .int bs), (3, .int (m_fb bs k)), (4, .int (-1))]) (st' := [.int (m_fb bs k)]) (w' := (W_M (mv len fa hd dd sd sg es a wr) (va_up M 10 (en t)))) rfl ?_
      exact rr_retiP hC (by decide +kernel) (by exact ⟨by rw [show k = 12 by omega, hbs], _, rfl⟩) ⟨Nat.zero_le _, Nat.zero_le _⟩
    | succ j ih =>
      intro k hk23 hlo23 t
      refine rr_go hC bk_X11_agreed_23_25 (l' := [(0, .ref 0), (1, .int 1), (2, .int bs), (3, .int (m_fb bs k)), (4, .int (nI (12 - k) - 1))]) (st' := [.int (nI (12 - k) - 1)]) (w' := (W_M (mv len fa hd dd sd sg es a wr) (va_up M 10 (en t)))) rfl ?_
      rw [show nI (12 - k) - 1 = nI (11 - k) from by rw [show (1 : Int32) = nI 1 from rfl, pk_sub (by omega)]; exact congrArg nI (by omega)]
      refine rr_if_lt hC (off := 25) (tgt := 50) (by decide +kernel) (fun h25 => by rw [rr_nl_lt (b := 0) (by omega) (by omega)] at h25; first | (exact absurd h25 (by decide)) | omega) (fun h25 => ?_)
      rw [rr_nl_lt (b := 0) (by omega) (by omega)] at h25
      refine rr_go hC bk_X11_agreed_28_31 (l' := [(0, .ref 0), (1, .int 1), (2, .int bs), (3, .int (m_fb bs k)), (4, .int (nI (11 - k)))]) (st' := [.int (nI (11 - k)), .int bs]) (w' := (W_M (mv len fa hd dd sd sg es a wr) (va_up M 10 (en t)))) rfl ?_
      refine rr_callS hC (by decide +kernel) kl_11_159 fX11_has (m_c_has bs (nI (11 - k))) rfl rfl [] rfl rfl (Eq.refl 0) rfl (rest := []) rfl rfl ⟨Nat.zero_le _, Nat.zero_le _⟩ (w2 := (W_M (mv len fa hd dd sd sg es a wr) (va_up M 10 (en t)))) rfl ?_
      show rr_J Z 5 0 0 _ 34 [(0, .ref 0), (1, .int 1), (2, .int bs), (3, .int (m_fb bs k)), (4, .int (nI (11 - k)))] [.int (rr_b (m_has bs (nI (11 - k))))] (W_M (mv len fa hd dd sd sg es a wr) (va_up M 10 (en t)))
      refine rr_eqb hC (off := 8) (tgt := 42) (by decide +kernel) (fun h34 => ?_) (fun h34 => ?_)
      · refine rr_go hC bk_X11_agreed_42_23 (l' := [(0, .ref 0), (1, .int 1), (2, .int bs), (3, .int (m_fb bs k)), (4, .int ((nI (11 - k)) + (-1)))]) (st' := []) (w' := (W_M (mv len fa hd dd sd sg es a wr) (va_up M 10 (en t)))) rfl ?_
        exact rr_cast (l' := [(0, .ref 0), (1, .int 1), (2, .int bs), (3, .int (m_fb bs (k + 1))), (4, .int (nI (12 - (k + 1)) - 1))]) (by first | (rw [m_has_p] at h34; rw [show m_fb bs (k + 1) = nI (11 - k) from if_neg (by simpa using h34)]; rw [show (12 - (k + 1)) = 11 - k by omega, p_m1]) | (rw [m_has_p] at h34; rw [show m_fb bs (k + 1) = m_fb bs k from if_pos (by simpa using h34)]; rw [show (12 - (k + 1)) = 11 - k by omega, p_m1])) rfl (w' := (W_M (mv len fa hd dd sd sg es a wr) (va_up M 10 (en t)))) (by rfl) (ih (k + 1) (by omega) (by omega) t)
      · refine rr_go hC bk_X11_agreed_37_23 (l' := [(0, .ref 0), (1, .int 1), (2, .int bs), (3, .int (nI (11 - k))), (4, .int ((nI (11 - k)) + (-1)))]) (st' := []) (w' := (W_M (mv len fa hd dd sd sg es a wr) (va_up M 10 (en t)))) rfl ?_
        exact rr_cast (l' := [(0, .ref 0), (1, .int 1), (2, .int bs), (3, .int (m_fb bs (k + 1))), (4, .int (nI (12 - (k + 1)) - 1))]) (by first | (rw [m_has_p] at h34; rw [show m_fb bs (k + 1) = nI (11 - k) from if_neg (by simpa using h34)]; rw [show (12 - (k + 1)) = 11 - k by omega, p_m1]) | (rw [m_has_p] at h34; rw [show m_fb bs (k + 1) = m_fb bs k from if_pos (by simpa using h34)]; rw [show (12 - (k + 1)) = 11 - k by omega, p_m1])) rfl (w' := (W_M (mv len fa hd dd sd sg es a wr) (va_up M 10 (en t)))) (by rfl) (ih (k + 1) (by omega) (by omega) t)
  exact rr_cast (l' := [(0, .ref 0), (1, .int 1), (2, .int bs), (3, .int (m_fb bs 0)), (4, .int (nI (12 - 0) - 1))]) (by first | rfl | (rfl)) rfl (w' := (W_M (mv len fa hd dd sd sg es a wr) (va_up M 10 (en t)))) (by rfl) (lp23 (12 - 0) 0 (by omega) (Nat.le_refl _) t)
theorem bk_X11_agreed_70_71 : rr_chk mX11_agreed [(.iload_n 2, 0, 2, 0)] 70 71 = true := by decide +kernel
set_option maxRecDepth 100000 in
set_option maxHeartbeats 4000000 in
theorem m_agreed2 (len : Nat) (fa : Int32) (hd : Bool) (dd : Nat) (sd : Int32) (sg es a : Nat) (wr : Int32) (M : Nat → Nat → Int32) (tc wd cc kc : Nat) (G : Nat → Nat → Int32) (hG : m_G M G tc wd cc kc) (t : p_Q) (ht : M 10 = en t) (V : Nat → Nat → Int32) (htc : tc ≤ 12) (hcc : cc ≤ 9) (hkc : kc ≤ 6) (h0c : 0 < cc → 0 < tc) (h0k : 0 < kc → 0 < tc) (hK : ∀ j, j < kc → ∃ t : Nat, G 2 j = nI t ∧ 1 ≤ t ∧ t ≤ 6) (hs : sg ≤ 8) (hV : ∀ i, i < sg → ∃ (k h : Nat) (z : Bool), k < 6 ∧ h ≤ 60 ∧ M 15 (3 * i) = nI k ∧ M 15 ((3 * i) + 1) = nI h ∧ M 15 ((3 * i) + 2) = rr_b z ∧ V 0 i = nI k ∧ V 1 i = nI h ∧ V 2 i = rr_b z) : rr_CP mX11_agreed 7 [.ref 0, .int 2] (W_M (mv len fa hd dd sd sg es a wr) M) 0 0 (fun r w' => r = some ((p_bs (fun b => m_so V G tc wd cc kc b sg) (if tc = 0 then 0 else 12))) ∧ ∃ t : p_Q, w' = (W_M (mv len fa hd dd sd sg es a wr) (va_up M 10 (en t)))) := by
  refine rr_CP.of (n := 1) fX11_agreed.1 rfl rfl (fun Z hC => ?_)
  show rr_J Z 5 0 0 (rr_MP Z 0 0 (fun r w' => r = some ((p_bs (fun b => m_so V G tc wd cc kc b sg) (if tc = 0 then 0 else 12))) ∧ ∃ t : p_Q, w' = (W_M (mv len fa hd dd sd sg es a wr) (va_up M 10 (en t))))) 0 [(0, .ref 0), (1, .int 2)] [] (W_M (mv len fa hd dd sd sg es a wr) M)
  refine rr_cast (l' := [(0, .ref 0), (1, .int 2)]) rfl (st' := []) rfl (w' := (W_M (mv len fa hd dd sd sg es a wr) (va_up M 10 (en t)))) (by rw [← ht, va_up_i]) ?_
  refine rr_go hC bk_X11_agreed_0_3 (l' := [(0, .ref 0), (1, .int 2)]) (st' := [.int 2, .int 0, .int 2]) (w' := (W_M (mv len fa hd dd sd sg es a wr) (va_up M 10 (en t)))) rfl ?_
  refine rr_callS hC (by decide +kernel) kl_11_78 fX11_in (m_c_in 2 0 2) rfl rfl [] rfl rfl (Eq.refl 0) rfl (rest := []) rfl rfl ⟨Nat.zero_le _, Nat.zero_le _⟩ (w2 := (W_M (mv len fa hd dd sd sg es a wr) (va_up M 10 (en t)))) rfl ?_
  show rr_J Z 5 0 0 _ 6 [(0, .ref 0), (1, .int 2)] [.int (rr_b (m_in 2 0 2))] (W_M (mv len fa hd dd sd sg es a wr) (va_up M 10 (en t)))
  refine rr_neb hC (off := 6) (tgt := 12) (by decide +kernel) (fun h6 => ?_) (fun h6 => by  cases h6)
  refine rr_go hC bk_X11_agreed_12_13 (l' := [(0, .ref 0), (1, .int 2)]) (st' := [.ref 0]) (w' := (W_M (mv len fa hd dd sd sg es a wr) (va_up M 10 (en t)))) rfl ?_
  refine rr_callVPI hC (by decide +kernel) kl_11_257 fX11_begins (m_begins len fa hd dd sd sg es a wr (va_up M 10 (en t)) tc wd cc kc G (by exact hG) t rfl V (by omega) (by omega) (by omega) h0c h0k hK hs (by exact hV)) rfl rfl rfl rfl rfl (rest := []) rfl rfl ⟨Nat.zero_le _, Nat.zero_le _⟩ (by intro r_ w_ h_; obtain ⟨rfl, t, rfl⟩ := h_; exact Eq.refl 22) (fun r_ w_ h_ => ?_)
  obtain ⟨rfl, t, rfl⟩ := h_
  show rr_J Z 5 0 0 _ 16 [(0, .ref 0), (1, .int 2)] [.int (p_bs (fun b => m_so V G tc wd cc kc b sg) (if tc = 0 then 0 else 12))] (W_M (mv len fa hd dd sd sg es a wr) (va_up M 10 (en t)))
  obtain ⟨bs, hbs⟩ : ∃ z, z = (p_bs (fun b => m_so V G tc wd cc kc b sg) (if tc = 0 then 0 else 12)) := ⟨_, rfl⟩
  refine rr_cast (l' := [(0, .ref 0), (1, .int 2)]) rfl (st' := [.int bs]) (by rw [hbs]) (w' := (W_M (mv len fa hd dd sd sg es a wr) (va_up M 10 (en t)))) rfl ?_
  refine rr_go hC bk_X11_agreed_16_23 (l' := [(0, .ref 0), (1, .int 2), (2, .int bs), (3, .int (-1)), (4, .int 11)]) (st' := []) (w' := (W_M (mv len fa hd dd sd sg es a wr) (va_up M 10 (en t)))) rfl ?_
  have lp23 : ∀ (j k : Nat), k + j = 12 → 0 ≤ k → ∀ t : p_Q, rr_J Z 5 0 0 (rr_MP Z 0 0 (fun r w' => r = some ((p_bs (fun b => m_so V G tc wd cc kc b sg) (if tc = 0 then 0 else 12))) ∧ ∃ t : p_Q, w' = (W_M (mv len fa hd dd sd sg es a wr) (va_up M 10 (en t))))) 23 [(0, .ref 0), (1, .int 2), (2, .int bs), (3, .int (m_fb bs k)), (4, .int (nI (12 - k) - 1))] [] (W_M (mv len fa hd dd sd sg es a wr) (va_up M 10 (en t))) := by
    intro j
    induction j with
    | zero =>
      intro k hk23 hlo23 t
      refine rr_go hC bk_X11_agreed_23_25 (l' := [(0, .ref 0), (1, .int 2), (2, .int bs), (3, .int (m_fb bs k)), (4, .int (nI (12 - k) - 1))]) (st' := [.int (nI (12 - k) - 1)]) (w' := (W_M (mv len fa hd dd sd sg es a wr) (va_up M 10 (en t)))) rfl ?_
      rw [show nI (12 - k) - 1 = (-1 : Int32) from by rw [show 12 - k = 0 by omega]; decide]
      refine rr_if_lt hC (off := 25) (tgt := 50) (by decide +kernel) (fun h25 => ?_) (fun h25 => by  first | (exact absurd h25 (by decide)) | omega)
      refine rr_go hC bk_X11_agreed_50_51 (l' := [(0, .ref 0), (1, .int 2), (2, .int bs), (3, .int (m_fb bs k)), (4, .int (-1))]) (st' := [.int 2]) (w' := (W_M (mv len fa hd dd sd sg es a wr) (va_up M 10 (en t)))) rfl ?_
      refine rr_if_ne hC (off := 10) (tgt := 61) (by decide +kernel) (fun h51 => ?_) (fun h51 => by  exact absurd h51 (by decide))
      refine rr_go hC bk_X11_agreed_61_63 (l' := [(0, .ref 0), (1, .int 2), (2, .int bs), (3, .int (m_fb bs k)), (4, .int (-1))]) (st' := [.int 1, .int 2]) (w' := (W_M (mv len fa hd dd sd sg es a wr) (va_up M 10 (en t)))) rfl ?_
      refine rr_icmp_ne hC (off := 7) (tgt := 70) (by decide +kernel) (fun h63 => ?_) (fun h63 => by  exact absurd h63 (by decide))
      refine rr_go hC bk_X11_agreed_70_71 (l' := [(0, .ref 0), (1, .int 2), (2, .int bs), (3, .int (m_fb bs k)), (4, .int (-1))]) (st' := [.int bs]) (w' := (W_M (mv len fa hd dd sd sg es a wr) (va_up M 10 (en t)))) rfl ?_
      exact rr_retiP hC (by decide +kernel) (by exact ⟨by rw [hbs], _, rfl⟩) ⟨Nat.zero_le _, Nat.zero_le _⟩
    | succ j ih =>
      intro k hk23 hlo23 t
      refine rr_go hC bk_X11_agreed_23_25 (l' := [(0, .ref 0), (1, .int 2), (2, .int bs), (3, .int (m_fb bs k)), (4, .int (nI (12 - k) - 1))]) (st' := [.int (nI (12 - k) - 1)]) (w' := (W_M (mv len fa hd dd sd sg es a wr) (va_up M 10 (en t)))) rfl ?_
      rw [show nI (12 - k) - 1 = nI (11 - k) from by rw [show (1 : Int32) = nI 1 from rfl, pk_sub (by omega)]; exact congrArg nI (by omega)]
      refine rr_if_lt hC (off := 25) (tgt := 50) (by decide +kernel) (fun h25 => by rw [rr_nl_lt (b := 0) (by omega) (by omega)] at h25; first | (exact absurd h25 (by decide)) | omega) (fun h25 => ?_)
      rw [rr_nl_lt (b := 0) (by omega) (by omega)] at h25
      refine rr_go hC bk_X11_agreed_28_31 (l' := [(0, .ref 0), (1, .int 2), (2, .int bs), (3, .int (m_fb bs k)), (4, .int (nI (11 - k)))]) (st' := [.int (nI (11 - k)), .int bs]) (w' := (W_M (mv len fa hd dd sd sg es a wr) (va_up M 10 (en t)))) rfl ?_
      refine rr_callS hC (by decide +kernel) kl_11_159 fX11_has (m_c_has bs (nI (11 - k))) rfl rfl [] rfl rfl (Eq.refl 0) rfl (rest := []) rfl rfl ⟨Nat.zero_le _, Nat.zero_le _⟩ (w2 := (W_M (mv len fa hd dd sd sg es a wr) (va_up M 10 (en t)))) rfl ?_
      show rr_J Z 5 0 0 _ 34 [(0, .ref 0), (1, .int 2), (2, .int bs), (3, .int (m_fb bs k)), (4, .int (nI (11 - k)))] [.int (rr_b (m_has bs (nI (11 - k))))] (W_M (mv len fa hd dd sd sg es a wr) (va_up M 10 (en t)))
      refine rr_eqb hC (off := 8) (tgt := 42) (by decide +kernel) (fun h34 => ?_) (fun h34 => ?_)
      · refine rr_go hC bk_X11_agreed_42_23 (l' := [(0, .ref 0), (1, .int 2), (2, .int bs), (3, .int (m_fb bs k)), (4, .int ((nI (11 - k)) + (-1)))]) (st' := []) (w' := (W_M (mv len fa hd dd sd sg es a wr) (va_up M 10 (en t)))) rfl ?_
        exact rr_cast (l' := [(0, .ref 0), (1, .int 2), (2, .int bs), (3, .int (m_fb bs (k + 1))), (4, .int (nI (12 - (k + 1)) - 1))]) (by first | (rw [m_has_p] at h34; rw [show m_fb bs (k + 1) = nI (11 - k) from if_neg (by simpa using h34)]; rw [show (12 - (k + 1)) = 11 - k by omega, p_m1]) | (rw [m_has_p] at h34; rw [show m_fb bs (k + 1) = m_fb bs k from if_pos (by simpa using h34)]; rw [show (12 - (k + 1)) = 11 - k by omega, p_m1])) rfl (w' := (W_M (mv len fa hd dd sd sg es a wr) (va_up M 10 (en t)))) (by rfl) (ih (k + 1) (by omega) (by omega) t)
      · refine rr_go hC bk_X11_agreed_37_23 (l' := [(0, .ref 0), (1, .int 2), (2, .int bs), (3, .int (nI (11 - k))), (4, .int ((nI (11 - k)) + (-1)))]) (st' := []) (w' := (W_M (mv len fa hd dd sd sg es a wr) (va_up M 10 (en t)))) rfl ?_
        exact rr_cast (l' := [(0, .ref 0), (1, .int 2), (2, .int bs), (3, .int (m_fb bs (k + 1))), (4, .int (nI (12 - (k + 1)) - 1))]) (by first | (rw [m_has_p] at h34; rw [show m_fb bs (k + 1) = nI (11 - k) from if_neg (by simpa using h34)]; rw [show (12 - (k + 1)) = 11 - k by omega, p_m1]) | (rw [m_has_p] at h34; rw [show m_fb bs (k + 1) = m_fb bs k from if_pos (by simpa using h34)]; rw [show (12 - (k + 1)) = 11 - k by omega, p_m1])) rfl (w' := (W_M (mv len fa hd dd sd sg es a wr) (va_up M 10 (en t)))) (by rfl) (ih (k + 1) (by omega) (by omega) t)
  exact rr_cast (l' := [(0, .ref 0), (1, .int 2), (2, .int bs), (3, .int (m_fb bs 0)), (4, .int (nI (12 - 0) - 1))]) (by first | rfl | (rfl)) rfl (w' := (W_M (mv len fa hd dd sd sg es a wr) (va_up M 10 (en t)))) (by rfl) (lp23 (12 - 0) 0 (by omega) (Nat.le_refl _) t)
theorem m_prt (f : Nat → Int32) (all : Int32) (k : Nat) {n : Int32} (h : n = f k) : (if n ≤ all - n then all - n else n) = p_prt f all k := by
  unfold p_prt
  rw [h]
  by_cases e : f k < all - f k
  · rw [if_pos e, if_pos (by rw [Int32.le_iff_toInt_le]; rw [Int32.lt_iff_toInt_lt] at e; omega)]
  · rw [if_neg e]
    split
    · rename_i e2
      rw [Int32.le_iff_toInt_le] at e2
      rw [Int32.lt_iff_toInt_lt] at e
      exact Int32.toInt_inj.mp (by omega)
    · rfl
def m_bta (F : Nat → Int32) (bs : Int32) (all : Int32) (n : Nat) : Int32 × Int32 := p_bta (fun k => m_cf F bs k 12) all n
theorem m_bta_y {F : Nat → Int32} {bs all : Int32} {n : Nat} (h : p_prt (fun k => m_cf F bs k 12) all n < (m_bta F bs all n).2) : m_bta F bs all (n + 1) = (nI n, p_prt (fun k => m_cf F bs k 12) all n) := if_pos h
theorem m_bta_n {F : Nat → Int32} {bs all : Int32} {n : Nat} (h : ¬ p_prt (fun k => m_cf F bs k 12) all n < (m_bta F bs all n).2) : m_bta F bs all (n + 1) = m_bta F bs all n := if_neg h
theorem m_cf_y {F : Nat → Int32} {bs : Int32} {k b : Nat} (h : ¬ p_bit bs (nI b) = 0) : m_cf F bs k (b + 1) = m_cf F bs k b + p_bit (F b) (nI k) := if_neg h
theorem m_cf_n {F : Nat → Int32} {bs : Int32} {k b : Nat} (h : p_bit bs (nI b) = 0) : m_cf F bs k (b + 1) = m_cf F bs k b := if_pos h
theorem bk_X11_lookAt_0_4 : rr_chk mX11_lookAt [(.iload_n 1, 0, 1, 0), (.iconst 0, 0, 0, 0), (.bipush 60, 60, 0, 0)] 0 4 = true := by decide +kernel
theorem bk_X11_lookAt_10_12 : rr_chk mX11_lookAt [(.ldc 82, (-1000000002), 0, 0)] 10 12 = true := by decide +kernel
set_option maxRecDepth 100000 in
set_option maxHeartbeats 4000000 in
theorem m_lookAtO (len : Nat) (fa : Int32) (hd : Bool) (dd : Nat) (sd : Int32) (sg es a : Nat) (wr : Int32) (M : Nat → Nat → Int32) (tc wd cc kc : Nat) (G : Nat → Nat → Int32) (hG : m_G M G tc wd cc kc) (x : Int32) (hx : x < 0 ∨ 60 < x) : rr_C mX11_lookAt 1 [.ref 0, .int x] (W_M (mv len fa hd dd sd sg es a wr) M) 0 0 (some (-1000000002)) (W_M (mv len fa hd dd sd sg es a wr) M) := by
  refine rr_C.of (n := 1) fX11_lookAt.1 rfl rfl (fun Z hC => ?_)
  show rr_J Z 9 0 0 (rr_MQ Z 0 0 (some (-1000000002)) (W_M (mv len fa hd dd sd sg es a wr) M)) 0 [(0, .ref 0), (1, .int x)] [] (W_M (mv len fa hd dd sd sg es a wr) M)
  refine rr_go hC bk_X11_lookAt_0_4 (l' := [(0, .ref 0), (1, .int x)]) (st' := [.int 60, .int 0, .int x]) (w' := (W_M (mv len fa hd dd sd sg es a wr) M)) rfl ?_
  refine rr_callS hC (by decide +kernel) kl_11_78 fX11_in (m_c_in x 0 60) rfl rfl [] rfl rfl (Eq.refl 0) rfl (rest := []) rfl rfl ⟨Nat.zero_le _, Nat.zero_le _⟩ (w2 := (W_M (mv len fa hd dd sd sg es a wr) M)) rfl ?_
  show rr_J Z 9 0 0 _ 7 [(0, .ref 0), (1, .int x)] [.int (rr_b (m_in x 0 60))] (W_M (mv len fa hd dd sd sg es a wr) M)
  refine rr_neb hC (off := 6) (tgt := 13) (by decide +kernel) (fun h7 => by  rw [m_in_no hx] at h7; cases h7) (fun h7 => ?_)
  refine rr_go hC bk_X11_lookAt_10_12 (l' := [(0, .ref 0), (1, .int x)]) (st' := [.int (-1000000002)]) (w' := (W_M (mv len fa hd dd sd sg es a wr) M)) rfl ?_
  exact rr_reti hC (by decide +kernel) (by rfl) (by rfl) ⟨Nat.zero_le _, Nat.zero_le _⟩
theorem bk_X11_lookAt_13_14 : rr_chk mX11_lookAt [(.aload_n 0, 0, 0, 0)] 13 14 = true := by decide +kernel
theorem bk_X11_lookAt_17_19 : rr_chk mX11_lookAt [(.istore_n 2, 0, 2, 0), (.iload_n 2, 0, 2, 0)] 17 19 = true := by decide +kernel
theorem bk_X11_lookAt_22_32 : rr_chk mX11_lookAt [(.istore_n 3, 0, 3, 0), (.iconst (-1), (-1), 0, 0), (.istore 4, 0, 4, 0), (.iload_n 3, 0, 3, 0), (.istore 5, 0, 5, 0), (.iconst 0, 0, 0, 0), (.istore 6, 0, 6, 0)] 22 32 = true := by decide +kernel
theorem bk_X11_lookAt_32_40 : rr_chk mX11_lookAt [(.iload 6, 0, 6, 0), (.aload_n 0, 0, 0, 0), (.getfield 17, 0, 11, 3), (.iconst 2, 2, 0, 0), (.iaload, 0, 2, 0)] 32 40 = true := by decide +kernel
theorem bk_X11_lookAt_150_152 : rr_chk mX11_lookAt [(.iload 4, 0, 4, 0)] 150 152 = true := by decide +kernel
theorem bk_X11_lookAt_43_49 : rr_chk mX11_lookAt [(.iconst 0, 0, 0, 0), (.istore 7, 0, 7, 0), (.iconst 0, 0, 0, 0), (.istore 8, 0, 8, 0)] 43 49 = true := by decide +kernel
theorem bk_X11_lookAt_49_53 : rr_chk mX11_lookAt [(.iload 8, 0, 8, 0), (.bipush 12, 12, 0, 0)] 49 53 = true := by decide +kernel
theorem bk_X11_lookAt_92_98 : rr_chk mX11_lookAt [(.iload 7, 0, 7, 0), (.iload_n 3, 0, 3, 0), (.iload 7, 0, 7, 0), (.isub, 0, 0, 0)] 92 98 = true := by decide +kernel
theorem bk_X11_lookAt_106_110 : rr_chk mX11_lookAt [(.iload_n 3, 0, 3, 0), (.iload 7, 0, 7, 0), (.isub, 0, 0, 0)] 106 110 = true := by decide +kernel
theorem bk_X11_lookAt_110_116 : rr_chk mX11_lookAt [(.istore 8, 0, 8, 0), (.iload 8, 0, 8, 0), (.iload 5, 0, 5, 0)] 110 116 = true := by decide +kernel
theorem bk_X11_lookAt_124_132 : rr_chk mX11_lookAt [(.iload 4, 0, 4, 0), (.istore 4, 0, 4, 0), (.iload 8, 0, 8, 0), (.iload 5, 0, 5, 0)] 124 132 = true := by decide +kernel
theorem bk_X11_lookAt_140_32 : rr_chk mX11_lookAt [(.iload 5, 0, 5, 0), (.istore 5, 0, 5, 0), (.iinc 6 1, 1, 6, 0), (.goto (-115), 0, 0, 0)] 140 32 = true := by decide +kernel
theorem bk_X11_lookAt_119_132 : rr_chk mX11_lookAt [(.iload 6, 0, 6, 0), (.goto 5, 0, 0, 0), (.istore 4, 0, 4, 0), (.iload 8, 0, 8, 0), (.iload 5, 0, 5, 0)] 119 132 = true := by decide +kernel
theorem bk_X11_lookAt_135_32 : rr_chk mX11_lookAt [(.iload 8, 0, 8, 0), (.goto 5, 0, 0, 0), (.istore 5, 0, 5, 0), (.iinc 6 1, 1, 6, 0), (.goto (-115), 0, 0, 0)] 135 32 = true := by decide +kernel
theorem bk_X11_lookAt_101_110 : rr_chk mX11_lookAt [(.iload 7, 0, 7, 0), (.goto 7, 0, 0, 0)] 101 110 = true := by decide +kernel
theorem bk_X11_lookAt_56_61 : rr_chk mX11_lookAt [(.iload 7, 0, 7, 0), (.iload_n 2, 0, 2, 0), (.iload 8, 0, 8, 0)] 56 61 = true := by decide +kernel
theorem bk_X11_lookAt_82_49 : rr_chk mX11_lookAt [(.iconst 0, 0, 0, 0), (.iadd, 0, 0, 0), (.istore 7, 0, 7, 0), (.iinc 8 1, 1, 8, 0), (.goto (-40), 0, 0, 0)] 82 49 = true := by decide +kernel
theorem bk_X11_lookAt_67_71 : rr_chk mX11_lookAt [(.aload_n 0, 0, 0, 0), (.iload 8, 0, 8, 0), (.iload_n 1, 0, 1, 0)] 67 71 = true := by decide +kernel
theorem bk_X11_lookAt_74_49 : rr_chk mX11_lookAt [(.iload 6, 0, 6, 0), (.ishr, 0, 0, 0), (.iconst 1, 1, 0, 0), (.iand, 0, 0, 0), (.goto 4, 0, 0, 0), (.iadd, 0, 0, 0), (.istore 7, 0, 7, 0), (.iinc 8 1, 1, 8, 0), (.goto (-40), 0, 0, 0)] 74 49 = true := by decide +kernel
set_option maxRecDepth 100000 in
set_option maxHeartbeats 4000000 in
theorem m_lookAt (len : Nat) (fa : Int32) (hd : Bool) (dd : Nat) (sd : Int32) (sg es a : Nat) (wr : Int32) (M : Nat → Nat → Int32) (tc wd cc kc : Nat) (G : Nat → Nat → Int32) (hG : m_G M G tc wd cc kc) (t : p_Q) (ht : M 10 = en t) (V : Nat → Nat → Int32) (h : Nat) (htc : tc ≤ 12) (hcc : cc ≤ 9) (hkc : kc ≤ 6) (h0c : 0 < cc → 0 < tc) (h0k : 0 < kc → 0 < tc) (hK : ∀ j, j < kc → ∃ t : Nat, G 2 j = nI t ∧ 1 ≤ t ∧ t ≤ 6) (hs : sg ≤ 8) (hV : ∀ i, i < sg → ∃ (k h : Nat) (z : Bool), k < 6 ∧ h ≤ 60 ∧ M 15 (3 * i) = nI k ∧ M 15 ((3 * i) + 1) = nI h ∧ M 15 ((3 * i) + 2) = rr_b z ∧ V 0 i = nI k ∧ V 1 i = nI h ∧ V 2 i = rr_b z) (hh : h ≤ 60) : rr_CP mX11_lookAt 7 [.ref 0, .int (nI h)] (W_M (mv len fa hd dd sd sg es a wr) M) 0 0 (fun r w' => r = some ((m_bta (fun b => p_fo G tc wd cc kc b h) (p_bs (fun b => m_so V G tc wd cc kc b sg) (if tc = 0 then 0 else 12)) (m_ones (p_bs (fun b => m_so V G tc wd cc kc b sg) (if tc = 0 then 0 else 12)) 12) kc).1) ∧ ∃ t : p_Q, w' = (W_M (mv len fa hd dd sd sg es a wr) (va_up M 10 (en t)))) := by
  refine rr_CP.of (n := 1) fX11_lookAt.1 rfl rfl (fun Z hC => ?_)
  show rr_J Z 9 0 0 (rr_MP Z 0 0 (fun r w' => r = some ((m_bta (fun b => p_fo G tc wd cc kc b h) (p_bs (fun b => m_so V G tc wd cc kc b sg) (if tc = 0 then 0 else 12)) (m_ones (p_bs (fun b => m_so V G tc wd cc kc b sg) (if tc = 0 then 0 else 12)) 12) kc).1) ∧ ∃ t : p_Q, w' = (W_M (mv len fa hd dd sd sg es a wr) (va_up M 10 (en t))))) 0 [(0, .ref 0), (1, .int (nI h))] [] (W_M (mv len fa hd dd sd sg es a wr) M)
  refine rr_cast (l' := [(0, .ref 0), (1, .int (nI h))]) rfl (st' := []) rfl (w' := (W_M (mv len fa hd dd sd sg es a wr) (va_up M 10 (en t)))) (by rw [← ht, va_up_i]) ?_
  refine rr_go hC bk_X11_lookAt_0_4 (l' := [(0, .ref 0), (1, .int (nI h))]) (st' := [.int 60, .int 0, .int (nI h)]) (w' := (W_M (mv len fa hd dd sd sg es a wr) (va_up M 10 (en t)))) rfl ?_
  refine rr_callS hC (by decide +kernel) kl_11_78 fX11_in (m_c_in (nI h) 0 60) rfl rfl [] rfl rfl (Eq.refl 0) rfl (rest := []) rfl rfl ⟨Nat.zero_le _, Nat.zero_le _⟩ (w2 := (W_M (mv len fa hd dd sd sg es a wr) (va_up M 10 (en t)))) rfl ?_
  show rr_J Z 9 0 0 _ 7 [(0, .ref 0), (1, .int (nI h))] [.int (rr_b (m_in (nI h) 0 60))] (W_M (mv len fa hd dd sd sg es a wr) (va_up M 10 (en t)))
  refine rr_neb hC (off := 6) (tgt := 13) (by decide +kernel) (fun h7 => ?_) (fun h7 => by  rw [m_in_yes (by rw [rr_nl_lt (b := 0) (by omega) (by omega)]; omega) (by rw [rr_ln_lt (a := 60) (by omega) (by omega)]; omega)] at h7; cases h7)
  refine rr_go hC bk_X11_lookAt_13_14 (l' := [(0, .ref 0), (1, .int (nI h))]) (st' := [.ref 0]) (w' := (W_M (mv len fa hd dd sd sg es a wr) (va_up M 10 (en t)))) rfl ?_
  refine rr_callVPI hC (by decide +kernel) kl_11_257 fX11_begins (m_begins len fa hd dd sd sg es a wr (va_up M 10 (en t)) tc wd cc kc G (by exact hG) t rfl V (by omega) (by omega) (by omega) h0c h0k hK hs (by exact hV)) rfl rfl rfl rfl rfl (rest := []) rfl rfl ⟨Nat.zero_le _, Nat.zero_le _⟩ (by intro r_ w_ h_; obtain ⟨rfl, t, rfl⟩ := h_; exact Eq.refl 22) (fun r_ w_ h_ => ?_)
  obtain ⟨rfl, t, rfl⟩ := h_
  show rr_J Z 9 0 0 _ 17 [(0, .ref 0), (1, .int (nI h))] [.int (p_bs (fun b => m_so V G tc wd cc kc b sg) (if tc = 0 then 0 else 12))] (W_M (mv len fa hd dd sd sg es a wr) (va_up M 10 (en t)))
  obtain ⟨bs, hbs⟩ : ∃ z, z = (p_bs (fun b => m_so V G tc wd cc kc b sg) (if tc = 0 then 0 else 12)) := ⟨_, rfl⟩
  refine rr_cast (l' := [(0, .ref 0), (1, .int (nI h))]) rfl (st' := [.int bs]) (by rw [hbs]) (w' := (W_M (mv len fa hd dd sd sg es a wr) (va_up M 10 (en t)))) rfl ?_
  refine rr_go hC bk_X11_lookAt_17_19 (l' := [(0, .ref 0), (1, .int (nI h)), (2, .int bs)]) (st' := [.int bs]) (w' := (W_M (mv len fa hd dd sd sg es a wr) (va_up M 10 (en t)))) rfl ?_
  refine rr_callS hC (by decide +kernel) kl_11_260 fX11_many (m_c_many bs) rfl rfl [] rfl rfl (Eq.refl 0) rfl (rest := []) rfl rfl ⟨Nat.zero_le _, Nat.zero_le _⟩ (w2 := (W_M (mv len fa hd dd sd sg es a wr) (va_up M 10 (en t)))) rfl ?_
  show rr_J Z 9 0 0 _ 22 [(0, .ref 0), (1, .int (nI h)), (2, .int bs)] [.int (m_ones bs 12)] (W_M (mv len fa hd dd sd sg es a wr) (va_up M 10 (en t)))
  obtain ⟨all, hall⟩ : ∃ z, z = m_ones bs 12 := ⟨_, rfl⟩
  refine rr_cast (l' := [(0, .ref 0), (1, .int (nI h)), (2, .int bs)]) rfl (st' := [.int all]) (by rw [hall]) (w' := (W_M (mv len fa hd dd sd sg es a wr) (va_up M 10 (en t)))) rfl ?_
  refine rr_go hC bk_X11_lookAt_22_32 (l' := [(0, .ref 0), (1, .int (nI h)), (2, .int bs), (3, .int all), (4, .int (-1)), (5, .int all), (6, .int 0)]) (st' := []) (w' := (W_M (mv len fa hd dd sd sg es a wr) (va_up M 10 (en t)))) rfl ?_
  have lp32 : ∀ (j k : Nat), k + j = kc → 0 ≤ k → ∀ t : p_Q, rr_J Z 9 0 0 (rr_MP Z 0 0 (fun r w' => r = some ((m_bta (fun b => p_fo G tc wd cc kc b h) (p_bs (fun b => m_so V G tc wd cc kc b sg) (if tc = 0 then 0 else 12)) (m_ones (p_bs (fun b => m_so V G tc wd cc kc b sg) (if tc = 0 then 0 else 12)) 12) kc).1) ∧ ∃ t : p_Q, w' = (W_M (mv len fa hd dd sd sg es a wr) (va_up M 10 (en t))))) 32 [(0, .ref 0), (1, .int (nI h)), (2, .int bs), (3, .int all), (4, .int ((m_bta (fun b => p_fo G tc wd cc kc b h) bs all k).1)), (5, .int ((m_bta (fun b => p_fo G tc wd cc kc b h) bs all k).2)), (6, .int (nI k))] [] (W_M (mv len fa hd dd sd sg es a wr) (va_up M 10 (en t))) := by
    intro j
    induction j with
    | zero =>
      intro k hk32 hlo32 t
      refine rr_go hC bk_X11_lookAt_32_40 (l' := [(0, .ref 0), (1, .int (nI h)), (2, .int bs), (3, .int all), (4, .int ((m_bta (fun b => p_fo G tc wd cc kc b h) bs all k).1)), (5, .int ((m_bta (fun b => p_fo G tc wd cc kc b h) bs all k).2)), (6, .int (nI k))]) (st' := [.int (M 1 2), .int (nI k)]) (w' := (W_M (mv len fa hd dd sd sg es a wr) (va_up M 10 (en t)))) rfl ?_
      rw [show (M 1 2 : Int32) = nI kc from hG.2.2.1]
      refine rr_icmp_ge hC (off := 110) (tgt := 150) (by decide +kernel) (fun h40 => ?_) (fun h40 => by rw [rr_nn_le (by omega) (by omega)] at h40; omega)
      rw [rr_nn_le (by omega) (by omega)] at h40
      refine rr_go hC bk_X11_lookAt_150_152 (l' := [(0, .ref 0), (1, .int (nI h)), (2, .int bs), (3, .int all), (4, .int ((m_bta (fun b => p_fo G tc wd cc kc b h) bs all k).1)), (5, .int ((m_bta (fun b => p_fo G tc wd cc kc b h) bs all k).2)), (6, .int (nI k))]) (st' := [.int ((m_bta (fun b => p_fo G tc wd cc kc b h) bs all k).1)]) (w' := (W_M (mv len fa hd dd sd sg es a wr) (va_up M 10 (en t)))) rfl ?_
      exact rr_retiP hC (by decide +kernel) (by exact ⟨by rw [← hbs, ← hall, show k = kc by omega], _, rfl⟩) ⟨Nat.zero_le _, Nat.zero_le _⟩
    | succ j ih =>
      intro k hk32 hlo32 t
      refine rr_go hC bk_X11_lookAt_32_40 (l' := [(0, .ref 0), (1, .int (nI h)), (2, .int bs), (3, .int all), (4, .int ((m_bta (fun b => p_fo G tc wd cc kc b h) bs all k).1)), (5, .int ((m_bta (fun b => p_fo G tc wd cc kc b h) bs all k).2)), (6, .int (nI k))]) (st' := [.int (M 1 2), .int (nI k)]) (w' := (W_M (mv len fa hd dd sd sg es a wr) (va_up M 10 (en t)))) rfl ?_
      rw [show (M 1 2 : Int32) = nI kc from hG.2.2.1]
      refine rr_icmp_ge hC (off := 110) (tgt := 150) (by decide +kernel) (fun h40 => by rw [rr_nn_le (by omega) (by omega)] at h40; omega) (fun h40 => ?_)
      rw [rr_nn_le (by omega) (by omega)] at h40
      refine rr_go hC bk_X11_lookAt_43_49 (l' := [(0, .ref 0), (1, .int (nI h)), (2, .int bs), (3, .int all), (4, .int ((m_bta (fun b => p_fo G tc wd cc kc b h) bs all k).1)), (5, .int ((m_bta (fun b => p_fo G tc wd cc kc b h) bs all k).2)), (6, .int (nI k)), (7, .int 0), (8, .int 0)]) (st' := []) (w' := (W_M (mv len fa hd dd sd sg es a wr) (va_up M 10 (en t)))) rfl ?_
      have lp49 : ∀ (j b : Nat), b + j = 12 → 0 ≤ b → ∀ t : p_Q, rr_J Z 9 0 0 (rr_MP Z 0 0 (fun r w' => r = some ((m_bta (fun b => p_fo G tc wd cc kc b h) (p_bs (fun b => m_so V G tc wd cc kc b sg) (if tc = 0 then 0 else 12)) (m_ones (p_bs (fun b => m_so V G tc wd cc kc b sg) (if tc = 0 then 0 else 12)) 12) kc).1) ∧ ∃ t : p_Q, w' = (W_M (mv len fa hd dd sd sg es a wr) (va_up M 10 (en t))))) 49 [(0, .ref 0), (1, .int (nI h)), (2, .int bs), (3, .int all), (4, .int ((m_bta (fun b => p_fo G tc wd cc kc b h) bs all k).1)), (5, .int ((m_bta (fun b => p_fo G tc wd cc kc b h) bs all k).2)), (6, .int (nI k)), (7, .int (m_cf (fun b => p_fo G tc wd cc kc b h) bs k b)), (8, .int (nI b))] [] (W_M (mv len fa hd dd sd sg es a wr) (va_up M 10 (en t))) := by
        intro j
        induction j with
        | zero =>
          intro b hk49 hlo49 t
          refine rr_go hC bk_X11_lookAt_49_53 (l' := [(0, .ref 0), (1, .int (nI h)), (2, .int bs), (3, .int all), (4, .int ((m_bta (fun b => p_fo G tc wd cc kc b h) bs all k).1)), (5, .int ((m_bta (fun b => p_fo G tc wd cc kc b h) bs all k).2)), (6, .int (nI k)), (7, .int (m_cf (fun b => p_fo G tc wd cc kc b h) bs k b)), (8, .int (nI b))]) (st' := [.int 12, .int (nI b)]) (w' := (W_M (mv len fa hd dd sd sg es a wr) (va_up M 10 (en t)))) rfl ?_
          refine rr_icmp_ge hC (off := 39) (tgt := 92) (by decide +kernel) (fun h53 => ?_) (fun h53 => by rw [rr_ln_le (a := 12) (by omega) (by omega)] at h53; omega)
          rw [rr_ln_le (a := 12) (by omega) (by omega)] at h53
          obtain ⟨cf, hcf⟩ : ∃ z, z = m_cf (fun b => p_fo G tc wd cc kc b h) bs k 12 := ⟨_, rfl⟩
          refine rr_dr 8 (l' := [(0, .ref 0), (1, .int (nI h)), (2, .int bs), (3, .int all), (4, .int ((m_bta (fun b => p_fo G tc wd cc kc b h) bs all k).1)), (5, .int ((m_bta (fun b => p_fo G tc wd cc kc b h) bs all k).2)), (6, .int (nI k)), (7, .int (m_cf (fun b => p_fo G tc wd cc kc b h) bs k b))]) rfl ?_
          refine rr_cast (l' := [(0, .ref 0), (1, .int (nI h)), (2, .int bs), (3, .int all), (4, .int ((m_bta (fun b => p_fo G tc wd cc kc b h) bs all k).1)), (5, .int ((m_bta (fun b => p_fo G tc wd cc kc b h) bs all k).2)), (6, .int (nI k)), (7, .int cf)]) (by rw [hcf, show b = 12 by omega]) (st' := []) rfl (w' := (W_M (mv len fa hd dd sd sg es a wr) (va_up M 10 (en t)))) rfl ?_
          refine rr_go hC bk_X11_lookAt_92_98 (l' := [(0, .ref 0), (1, .int (nI h)), (2, .int bs), (3, .int all), (4, .int ((m_bta (fun b => p_fo G tc wd cc kc b h) bs all k).1)), (5, .int ((m_bta (fun b => p_fo G tc wd cc kc b h) bs all k).2)), (6, .int (nI k)), (7, .int cf)]) (st' := [.int (all - cf), .int cf]) (w' := (W_M (mv len fa hd dd sd sg es a wr) (va_up M 10 (en t)))) rfl ?_
          refine rr_icmp_le hC (off := 8) (tgt := 106) (by decide +kernel) (fun h98 => ?_) (fun h98 => ?_)
          · refine rr_go hC bk_X11_lookAt_106_110 (l' := [(0, .ref 0), (1, .int (nI h)), (2, .int bs), (3, .int all), (4, .int ((m_bta (fun b => p_fo G tc wd cc kc b h) bs all k).1)), (5, .int ((m_bta (fun b => p_fo G tc wd cc kc b h) bs all k).2)), (6, .int (nI k)), (7, .int cf)]) (st' := [.int (all - cf)]) (w' := (W_M (mv len fa hd dd sd sg es a wr) (va_up M 10 (en t)))) rfl ?_
            have hm : all - cf = p_prt (fun k => m_cf (fun b => p_fo G tc wd cc kc b h) bs k 12) all k := by rw [← m_prt (fun k => m_cf (fun b => p_fo G tc wd cc kc b h) bs k 12) all k hcf]; first | (rw [if_pos h98]; done) | (rw [if_neg h98]; done)
            obtain ⟨mo, hmo⟩ : ∃ z, z = all - cf := ⟨_, rfl⟩
            refine rr_cast (l' := [(0, .ref 0), (1, .int (nI h)), (2, .int bs), (3, .int all), (4, .int ((m_bta (fun b => p_fo G tc wd cc kc b h) bs all k).1)), (5, .int ((m_bta (fun b => p_fo G tc wd cc kc b h) bs all k).2)), (6, .int (nI k)), (7, .int cf)]) rfl (st' := [.int mo]) (by rw [hmo]) (w' := (W_M (mv len fa hd dd sd sg es a wr) (va_up M 10 (en t)))) rfl ?_
            rw [← hmo] at hm
            refine rr_go hC bk_X11_lookAt_110_116 (l' := [(0, .ref 0), (1, .int (nI h)), (2, .int bs), (3, .int all), (4, .int ((m_bta (fun b => p_fo G tc wd cc kc b h) bs all k).1)), (5, .int ((m_bta (fun b => p_fo G tc wd cc kc b h) bs all k).2)), (6, .int (nI k)), (7, .int cf), (8, .int mo)]) (st' := [.int ((m_bta (fun b => p_fo G tc wd cc kc b h) bs all k).2), .int mo]) (w' := (W_M (mv len fa hd dd sd sg es a wr) (va_up M 10 (en t)))) rfl ?_
            refine rr_icmp_ge hC (off := 8) (tgt := 124) (by decide +kernel) (fun h116 => ?_) (fun h116 => ?_)
            · refine rr_go hC bk_X11_lookAt_124_132 (l' := [(0, .ref 0), (1, .int (nI h)), (2, .int bs), (3, .int all), (4, .int ((m_bta (fun b => p_fo G tc wd cc kc b h) bs all k).1)), (5, .int ((m_bta (fun b => p_fo G tc wd cc kc b h) bs all k).2)), (6, .int (nI k)), (7, .int cf), (8, .int mo)]) (st' := [.int ((m_bta (fun b => p_fo G tc wd cc kc b h) bs all k).2), .int mo]) (w' := (W_M (mv len fa hd dd sd sg es a wr) (va_up M 10 (en t)))) rfl ?_
              refine rr_icmp_ge hC (off := 8) (tgt := 140) (by decide +kernel) (fun h132 => ?_) (fun h132 => by  exact absurd h116 h132)
              refine rr_go hC bk_X11_lookAt_140_32 (l' := [(0, .ref 0), (1, .int (nI h)), (2, .int bs), (3, .int all), (4, .int ((m_bta (fun b => p_fo G tc wd cc kc b h) bs all k).1)), (5, .int ((m_bta (fun b => p_fo G tc wd cc kc b h) bs all k).2)), (6, .int ((nI k) + 1)), (7, .int cf), (8, .int mo)]) (st' := []) (w' := (W_M (mv len fa hd dd sd sg es a wr) (va_up M 10 (en t)))) rfl ?_
              rw [show ((nI k) + 1 : Int32) = nI (k + 1) from nI_add k 1]
              refine rr_dr 7 (l' := [(0, .ref 0), (1, .int (nI h)), (2, .int bs), (3, .int all), (4, .int ((m_bta (fun b => p_fo G tc wd cc kc b h) bs all k).1)), (5, .int ((m_bta (fun b => p_fo G tc wd cc kc b h) bs all k).2)), (6, .int (nI (k + 1))), (8, .int mo)]) rfl ?_
              refine rr_dr 8 (l' := [(0, .ref 0), (1, .int (nI h)), (2, .int bs), (3, .int all), (4, .int ((m_bta (fun b => p_fo G tc wd cc kc b h) bs all k).1)), (5, .int ((m_bta (fun b => p_fo G tc wd cc kc b h) bs all k).2)), (6, .int (nI (k + 1)))]) rfl ?_
              exact rr_cast (l' := [(0, .ref 0), (1, .int (nI h)), (2, .int bs), (3, .int all), (4, .int ((m_bta (fun b => p_fo G tc wd cc kc b h) bs all (k + 1)).1)), (5, .int ((m_bta (fun b => p_fo G tc wd cc kc b h) bs all (k + 1)).2)), (6, .int (nI (k + 1)))]) (by first | (rw [m_bta_y (by rw [← hm]; exact Int32.not_le.mp h116)] <;> (try rw [← hm])) | (rw [m_bta_n (by rw [← hm]; exact Int32.not_lt.mpr h116)])) rfl (w' := (W_M (mv len fa hd dd sd sg es a wr) (va_up M 10 (en t)))) (by rfl) (ih (k + 1) (by omega) (by omega) t)
            · refine rr_go hC bk_X11_lookAt_119_132 (l' := [(0, .ref 0), (1, .int (nI h)), (2, .int bs), (3, .int all), (4, .int (nI k)), (5, .int ((m_bta (fun b => p_fo G tc wd cc kc b h) bs all k).2)), (6, .int (nI k)), (7, .int cf), (8, .int mo)]) (st' := [.int ((m_bta (fun b => p_fo G tc wd cc kc b h) bs all k).2), .int mo]) (w' := (W_M (mv len fa hd dd sd sg es a wr) (va_up M 10 (en t)))) rfl ?_
              refine rr_icmp_ge hC (off := 8) (tgt := 140) (by decide +kernel) (fun h132 => by  exact absurd h132 h116) (fun h132 => ?_)
              refine rr_go hC bk_X11_lookAt_135_32 (l' := [(0, .ref 0), (1, .int (nI h)), (2, .int bs), (3, .int all), (4, .int (nI k)), (5, .int mo), (6, .int ((nI k) + 1)), (7, .int cf), (8, .int mo)]) (st' := []) (w' := (W_M (mv len fa hd dd sd sg es a wr) (va_up M 10 (en t)))) rfl ?_
              rw [show ((nI k) + 1 : Int32) = nI (k + 1) from nI_add k 1]
              refine rr_dr 7 (l' := [(0, .ref 0), (1, .int (nI h)), (2, .int bs), (3, .int all), (4, .int (nI k)), (5, .int mo), (6, .int (nI (k + 1))), (8, .int mo)]) rfl ?_
              refine rr_dr 8 (l' := [(0, .ref 0), (1, .int (nI h)), (2, .int bs), (3, .int all), (4, .int (nI k)), (5, .int mo), (6, .int (nI (k + 1)))]) rfl ?_
              exact rr_cast (l' := [(0, .ref 0), (1, .int (nI h)), (2, .int bs), (3, .int all), (4, .int ((m_bta (fun b => p_fo G tc wd cc kc b h) bs all (k + 1)).1)), (5, .int ((m_bta (fun b => p_fo G tc wd cc kc b h) bs all (k + 1)).2)), (6, .int (nI (k + 1)))]) (by first | (rw [m_bta_y (by rw [← hm]; exact Int32.not_le.mp h116)] <;> (try rw [← hm])) | (rw [m_bta_n (by rw [← hm]; exact Int32.not_lt.mpr h116)])) rfl (w' := (W_M (mv len fa hd dd sd sg es a wr) (va_up M 10 (en t)))) (by rfl) (ih (k + 1) (by omega) (by omega) t)
          · refine rr_go hC bk_X11_lookAt_101_110 (l' := [(0, .ref 0), (1, .int (nI h)), (2, .int bs), (3, .int all), (4, .int ((m_bta (fun b => p_fo G tc wd cc kc b h) bs all k).1)), (5, .int ((m_bta (fun b => p_fo G tc wd cc kc b h) bs all k).2)), (6, .int (nI k)), (7, .int cf)]) (st' := [.int cf]) (w' := (W_M (mv len fa hd dd sd sg es a wr) (va_up M 10 (en t)))) rfl ?_
            have hm : cf = p_prt (fun k => m_cf (fun b => p_fo G tc wd cc kc b h) bs k 12) all k := by rw [← m_prt (fun k => m_cf (fun b => p_fo G tc wd cc kc b h) bs k 12) all k hcf]; first | (rw [if_pos h98]; done) | (rw [if_neg h98]; done)
            obtain ⟨mo, hmo⟩ : ∃ z, z = cf := ⟨_, rfl⟩
            refine rr_cast (l' := [(0, .ref 0), (1, .int (nI h)), (2, .int bs), (3, .int all), (4, .int ((m_bta (fun b => p_fo G tc wd cc kc b h) bs all k).1)), (5, .int ((m_bta (fun b => p_fo G tc wd cc kc b h) bs all k).2)), (6, .int (nI k)), (7, .int cf)]) rfl (st' := [.int mo]) (by rw [hmo]) (w' := (W_M (mv len fa hd dd sd sg es a wr) (va_up M 10 (en t)))) rfl ?_
            rw [← hmo] at hm
            refine rr_go hC bk_X11_lookAt_110_116 (l' := [(0, .ref 0), (1, .int (nI h)), (2, .int bs), (3, .int all), (4, .int ((m_bta (fun b => p_fo G tc wd cc kc b h) bs all k).1)), (5, .int ((m_bta (fun b => p_fo G tc wd cc kc b h) bs all k).2)), (6, .int (nI k)), (7, .int cf), (8, .int mo)]) (st' := [.int ((m_bta (fun b => p_fo G tc wd cc kc b h) bs all k).2), .int mo]) (w' := (W_M (mv len fa hd dd sd sg es a wr) (va_up M 10 (en t)))) rfl ?_
            refine rr_icmp_ge hC (off := 8) (tgt := 124) (by decide +kernel) (fun h116 => ?_) (fun h116 => ?_)
            · refine rr_go hC bk_X11_lookAt_124_132 (l' := [(0, .ref 0), (1, .int (nI h)), (2, .int bs), (3, .int all), (4, .int ((m_bta (fun b => p_fo G tc wd cc kc b h) bs all k).1)), (5, .int ((m_bta (fun b => p_fo G tc wd cc kc b h) bs all k).2)), (6, .int (nI k)), (7, .int cf), (8, .int mo)]) (st' := [.int ((m_bta (fun b => p_fo G tc wd cc kc b h) bs all k).2), .int mo]) (w' := (W_M (mv len fa hd dd sd sg es a wr) (va_up M 10 (en t)))) rfl ?_
              refine rr_icmp_ge hC (off := 8) (tgt := 140) (by decide +kernel) (fun h132 => ?_) (fun h132 => by  exact absurd h116 h132)
              refine rr_go hC bk_X11_lookAt_140_32 (l' := [(0, .ref 0), (1, .int (nI h)), (2, .int bs), (3, .int all), (4, .int ((m_bta (fun b => p_fo G tc wd cc kc b h) bs all k).1)), (5, .int ((m_bta (fun b => p_fo G tc wd cc kc b h) bs all k).2)), (6, .int ((nI k) + 1)), (7, .int cf), (8, .int mo)]) (st' := []) (w' := (W_M (mv len fa hd dd sd sg es a wr) (va_up M 10 (en t)))) rfl ?_
              rw [show ((nI k) + 1 : Int32) = nI (k + 1) from nI_add k 1]
              refine rr_dr 7 (l' := [(0, .ref 0), (1, .int (nI h)), (2, .int bs), (3, .int all), (4, .int ((m_bta (fun b => p_fo G tc wd cc kc b h) bs all k).1)), (5, .int ((m_bta (fun b => p_fo G tc wd cc kc b h) bs all k).2)), (6, .int (nI (k + 1))), (8, .int mo)]) rfl ?_
              refine rr_dr 8 (l' := [(0, .ref 0), (1, .int (nI h)), (2, .int bs), (3, .int all), (4, .int ((m_bta (fun b => p_fo G tc wd cc kc b h) bs all k).1)), (5, .int ((m_bta (fun b => p_fo G tc wd cc kc b h) bs all k).2)), (6, .int (nI (k + 1)))]) rfl ?_
              exact rr_cast (l' := [(0, .ref 0), (1, .int (nI h)), (2, .int bs), (3, .int all), (4, .int ((m_bta (fun b => p_fo G tc wd cc kc b h) bs all (k + 1)).1)), (5, .int ((m_bta (fun b => p_fo G tc wd cc kc b h) bs all (k + 1)).2)), (6, .int (nI (k + 1)))]) (by first | (rw [m_bta_y (by rw [← hm]; exact Int32.not_le.mp h116)] <;> (try rw [← hm])) | (rw [m_bta_n (by rw [← hm]; exact Int32.not_lt.mpr h116)])) rfl (w' := (W_M (mv len fa hd dd sd sg es a wr) (va_up M 10 (en t)))) (by rfl) (ih (k + 1) (by omega) (by omega) t)
            · refine rr_go hC bk_X11_lookAt_119_132 (l' := [(0, .ref 0), (1, .int (nI h)), (2, .int bs), (3, .int all), (4, .int (nI k)), (5, .int ((m_bta (fun b => p_fo G tc wd cc kc b h) bs all k).2)), (6, .int (nI k)), (7, .int cf), (8, .int mo)]) (st' := [.int ((m_bta (fun b => p_fo G tc wd cc kc b h) bs all k).2), .int mo]) (w' := (W_M (mv len fa hd dd sd sg es a wr) (va_up M 10 (en t)))) rfl ?_
              refine rr_icmp_ge hC (off := 8) (tgt := 140) (by decide +kernel) (fun h132 => by  exact absurd h132 h116) (fun h132 => ?_)
              refine rr_go hC bk_X11_lookAt_135_32 (l' := [(0, .ref 0), (1, .int (nI h)), (2, .int bs), (3, .int all), (4, .int (nI k)), (5, .int mo), (6, .int ((nI k) + 1)), (7, .int cf), (8, .int mo)]) (st' := []) (w' := (W_M (mv len fa hd dd sd sg es a wr) (va_up M 10 (en t)))) rfl ?_
              rw [show ((nI k) + 1 : Int32) = nI (k + 1) from nI_add k 1]
              refine rr_dr 7 (l' := [(0, .ref 0), (1, .int (nI h)), (2, .int bs), (3, .int all), (4, .int (nI k)), (5, .int mo), (6, .int (nI (k + 1))), (8, .int mo)]) rfl ?_
              refine rr_dr 8 (l' := [(0, .ref 0), (1, .int (nI h)), (2, .int bs), (3, .int all), (4, .int (nI k)), (5, .int mo), (6, .int (nI (k + 1)))]) rfl ?_
              exact rr_cast (l' := [(0, .ref 0), (1, .int (nI h)), (2, .int bs), (3, .int all), (4, .int ((m_bta (fun b => p_fo G tc wd cc kc b h) bs all (k + 1)).1)), (5, .int ((m_bta (fun b => p_fo G tc wd cc kc b h) bs all (k + 1)).2)), (6, .int (nI (k + 1)))]) (by first | (rw [m_bta_y (by rw [← hm]; exact Int32.not_le.mp h116)] <;> (try rw [← hm])) | (rw [m_bta_n (by rw [← hm]; exact Int32.not_lt.mpr h116)])) rfl (w' := (W_M (mv len fa hd dd sd sg es a wr) (va_up M 10 (en t)))) (by rfl) (ih (k + 1) (by omega) (by omega) t)
        | succ j ih =>
          intro b hk49 hlo49 t
          refine rr_go hC bk_X11_lookAt_49_53 (l' := [(0, .ref 0), (1, .int (nI h)), (2, .int bs), (3, .int all), (4, .int ((m_bta (fun b => p_fo G tc wd cc kc b h) bs all k).1)), (5, .int ((m_bta (fun b => p_fo G tc wd cc kc b h) bs all k).2)), (6, .int (nI k)), (7, .int (m_cf (fun b => p_fo G tc wd cc kc b h) bs k b)), (8, .int (nI b))]) (st' := [.int 12, .int (nI b)]) (w' := (W_M (mv len fa hd dd sd sg es a wr) (va_up M 10 (en t)))) rfl ?_
          refine rr_icmp_ge hC (off := 39) (tgt := 92) (by decide +kernel) (fun h53 => by rw [rr_ln_le (a := 12) (by omega) (by omega)] at h53; omega) (fun h53 => ?_)
          rw [rr_ln_le (a := 12) (by omega) (by omega)] at h53
          refine rr_go hC bk_X11_lookAt_56_61 (l' := [(0, .ref 0), (1, .int (nI h)), (2, .int bs), (3, .int all), (4, .int ((m_bta (fun b => p_fo G tc wd cc kc b h) bs all k).1)), (5, .int ((m_bta (fun b => p_fo G tc wd cc kc b h) bs all k).2)), (6, .int (nI k)), (7, .int (m_cf (fun b => p_fo G tc wd cc kc b h) bs k b)), (8, .int (nI b))]) (st' := [.int (nI b), .int bs, .int (m_cf (fun b => p_fo G tc wd cc kc b h) bs k b)]) (w' := (W_M (mv len fa hd dd sd sg es a wr) (va_up M 10 (en t)))) rfl ?_
          refine rr_callS hC (by decide +kernel) kl_11_159 fX11_has (m_c_has bs (nI b)) rfl rfl [] rfl rfl (Eq.refl 0) rfl (rest := [.int (m_cf (fun b => p_fo G tc wd cc kc b h) bs k b)]) rfl rfl ⟨Nat.zero_le _, Nat.zero_le _⟩ (w2 := (W_M (mv len fa hd dd sd sg es a wr) (va_up M 10 (en t)))) rfl ?_
          show rr_J Z 9 0 0 _ 64 [(0, .ref 0), (1, .int (nI h)), (2, .int bs), (3, .int all), (4, .int ((m_bta (fun b => p_fo G tc wd cc kc b h) bs all k).1)), (5, .int ((m_bta (fun b => p_fo G tc wd cc kc b h) bs all k).2)), (6, .int (nI k)), (7, .int (m_cf (fun b => p_fo G tc wd cc kc b h) bs k b)), (8, .int (nI b))] [.int (rr_b (m_has bs (nI b))), .int (m_cf (fun b => p_fo G tc wd cc kc b h) bs k b)] (W_M (mv len fa hd dd sd sg es a wr) (va_up M 10 (en t)))
          refine rr_eqb hC (off := 18) (tgt := 82) (by decide +kernel) (fun h64 => ?_) (fun h64 => ?_)
          · refine rr_go hC bk_X11_lookAt_82_49 (l' := [(0, .ref 0), (1, .int (nI h)), (2, .int bs), (3, .int all), (4, .int ((m_bta (fun b => p_fo G tc wd cc kc b h) bs all k).1)), (5, .int ((m_bta (fun b => p_fo G tc wd cc kc b h) bs all k).2)), (6, .int (nI k)), (7, .int ((m_cf (fun b => p_fo G tc wd cc kc b h) bs k b) + 0)), (8, .int ((nI b) + 1))]) (st' := []) (w' := (W_M (mv len fa hd dd sd sg es a wr) (va_up M 10 (en t)))) rfl ?_
            rw [show ((nI b) + 1 : Int32) = nI (b + 1) from nI_add b 1]
            exact rr_cast (l' := [(0, .ref 0), (1, .int (nI h)), (2, .int bs), (3, .int all), (4, .int ((m_bta (fun b => p_fo G tc wd cc kc b h) bs all k).1)), (5, .int ((m_bta (fun b => p_fo G tc wd cc kc b h) bs all k).2)), (6, .int (nI k)), (7, .int (m_cf (fun b => p_fo G tc wd cc kc b h) bs k (b + 1))), (8, .int (nI (b + 1)))]) (by first | (rw [m_has_p] at h64; rw [m_cf_y (by simpa using h64)]; rfl) | (rw [m_has_p] at h64; rw [m_cf_n (by simpa using h64), Int32.add_zero])) rfl (w' := (W_M (mv len fa hd dd sd sg es a wr) (va_up M 10 (en t)))) (by rfl) (ih (b + 1) (by omega) (by omega) t)
          · refine rr_go hC bk_X11_lookAt_67_71 (l' := [(0, .ref 0), (1, .int (nI h)), (2, .int bs), (3, .int all), (4, .int ((m_bta (fun b => p_fo G tc wd cc kc b h) bs all k).1)), (5, .int ((m_bta (fun b => p_fo G tc wd cc kc b h) bs all k).2)), (6, .int (nI k)), (7, .int (m_cf (fun b => p_fo G tc wd cc kc b h) bs k b)), (8, .int (nI b))]) (st' := [.int (nI h), .int (nI b), .ref 0, .int (m_cf (fun b => p_fo G tc wd cc kc b h) bs k b)]) (w' := (W_M (mv len fa hd dd sd sg es a wr) (va_up M 10 (en t)))) rfl ?_
            refine rr_callVI hC (by decide +kernel) kl_11_251 fX11_forceBy (m_forceBy len fa hd dd sd sg es a wr (va_up M 10 (en t)) tc wd cc kc G (by exact hG) t rfl b h (by omega) (by omega) (by omega) h0c h0k hK (by omega) (by omega)) rfl rfl rfl rfl rfl (rest := [.int (m_cf (fun b => p_fo G tc wd cc kc b h) bs k b)]) rfl rfl ⟨Nat.zero_le _, Nat.zero_le _⟩ (Eq.refl 22) ?_
            show rr_J Z 9 0 0 _ 74 [(0, .ref 0), (1, .int (nI h)), (2, .int bs), (3, .int all), (4, .int ((m_bta (fun b => p_fo G tc wd cc kc b h) bs all k).1)), (5, .int ((m_bta (fun b => p_fo G tc wd cc kc b h) bs all k).2)), (6, .int (nI k)), (7, .int (m_cf (fun b => p_fo G tc wd cc kc b h) bs k b)), (8, .int (nI b))] [.int (p_fo G tc wd cc kc b h), .int (m_cf (fun b => p_fo G tc wd cc kc b h) bs k b)] (W_M (mv len fa hd dd sd sg es a wr) (va_up M 10 (en (p_it G tc wd kc (m_ly G b (min kc cc)) h))))
            refine rr_go hC bk_X11_lookAt_74_49 (l' := [(0, .ref 0), (1, .int (nI h)), (2, .int bs), (3, .int all), (4, .int ((m_bta (fun b => p_fo G tc wd cc kc b h) bs all k).1)), (5, .int ((m_bta (fun b => p_fo G tc wd cc kc b h) bs all k).2)), (6, .int (nI k)), (7, .int ((m_cf (fun b => p_fo G tc wd cc kc b h) bs k b) + (((p_fo G tc wd cc kc b h) >>> (nI k &&& 31)) &&& 1))), (8, .int ((nI b) + 1))]) (st' := []) (w' := (W_M (mv len fa hd dd sd sg es a wr) (va_up M 10 (en (p_it G tc wd kc (m_ly G b (min kc cc)) h))))) rfl ?_
            rw [show ((nI b) + 1 : Int32) = nI (b + 1) from nI_add b 1]
            exact rr_cast (l' := [(0, .ref 0), (1, .int (nI h)), (2, .int bs), (3, .int all), (4, .int ((m_bta (fun b => p_fo G tc wd cc kc b h) bs all k).1)), (5, .int ((m_bta (fun b => p_fo G tc wd cc kc b h) bs all k).2)), (6, .int (nI k)), (7, .int (m_cf (fun b => p_fo G tc wd cc kc b h) bs k (b + 1))), (8, .int (nI (b + 1)))]) (by first | (rw [m_has_p] at h64; rw [m_cf_y (by simpa using h64)]; rfl) | (rw [m_has_p] at h64; rw [m_cf_n (by simpa using h64), Int32.add_zero])) rfl (w' := (W_M (mv len fa hd dd sd sg es a wr) (va_up M 10 (en (p_it G tc wd kc (m_ly G b (min kc cc)) h))))) (by rfl) (ih (b + 1) (by omega) (by omega) (p_it G tc wd kc (m_ly G b (min kc cc)) h))
      exact rr_cast (l' := [(0, .ref 0), (1, .int (nI h)), (2, .int bs), (3, .int all), (4, .int ((m_bta (fun b => p_fo G tc wd cc kc b h) bs all k).1)), (5, .int ((m_bta (fun b => p_fo G tc wd cc kc b h) bs all k).2)), (6, .int (nI k)), (7, .int (m_cf (fun b => p_fo G tc wd cc kc b h) bs k 0)), (8, .int (nI 0))]) (by first | rfl | (rfl)) rfl (w' := (W_M (mv len fa hd dd sd sg es a wr) (va_up M 10 (en t)))) (by rfl) (lp49 (12 - 0) 0 (by omega) (Nat.le_refl _) t)
  exact rr_cast (l' := [(0, .ref 0), (1, .int (nI h)), (2, .int bs), (3, .int all), (4, .int ((m_bta (fun b => p_fo G tc wd cc kc b h) bs all 0).1)), (5, .int ((m_bta (fun b => p_fo G tc wd cc kc b h) bs all 0).2)), (6, .int (nI 0))]) (by first | rfl | (rfl)) rfl (w' := (W_M (mv len fa hd dd sd sg es a wr) (va_up M 10 (en t)))) (by rfl) (lp32 (kc - 0) 0 (by omega) (Nat.le_refl _) t)
