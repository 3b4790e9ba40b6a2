/-! passes, over the machine -/
theorem va_up_i (M : Nat → Nat → Int32) (i : Nat) : va_up M i (M i) = M := by
  funext j
  unfold va_up
  by_cases e : j = i
  · subst e; rw [if_pos rfl]
  · rw [if_neg e]
theorem en_us0 (q : p_Q) : upd (en q) 1 0 = en (q.1, -1, q.2.2.1, q.2.2.2.1, q.2.2.2.2) := by
  have h := en_us q (-1)
  rw [show (-1 : Int32) + 1 = 0 from by decide] at h
  exact h
theorem m_iv.w1 {X : p_Q} {G : Nat → Nat → Int32} {cc kc k : Nat} (h : m_iv G cc kc X.2.2.2.2 X.2.1) (hk : k < kc) (hkc : kc ≤ 6) (hs : X.2.1 = nI k) : m_ok (X.1, X.2.1, X.2.2.1, X.2.2.2.1, va_up X.2.2.2.2 1 (upd (X.2.2.2.2 1) k (X.2.2.2.2 1 k + 1))) G cc kc := by
  intro j hj
  obtain ⟨g1, g2⟩ := h.1 j hj
  refine ⟨g1, fun hj2 => ?_⟩
  show ¬ G 2 j < upd (X.2.2.2.2 1) k (X.2.2.2.2 1 k + 1) j
  obtain ⟨n, t, e1, e2, h3, h4, h5⟩ := g2 hj2
  by_cases e : j = k
  · subst e
    have hlt := (h.2 j hj hs).2.2
    rw [e1, e2, nI_ltI (by omega) (by omega)] at hlt
    rw [pk_us, e1, e2, nI_1]
    exact nI_nlt (by omega) (by omega)
  · rw [pk_un e, e1, e2]
    exact nI_nlt h3 (by omega)
theorem bk_X11_passes_0_2 : rr_chk mX11_passes [(.iconst 0, 0, 0, 0), (.istore_n 2, 0, 2, 0)] 0 2 = true := by decide +kernel
theorem bk_X11_passes_2_9 : rr_chk mX11_passes [(.iload_n 2, 0, 2, 0), (.aload_n 0, 0, 0, 0), (.getfield 17, 0, 11, 3), (.iconst 2, 2, 0, 0), (.iaload, 0, 2, 0)] 2 9 = true := by decide +kernel
theorem bk_X11_passes_136_143 : rr_chk mX11_passes [(.aload_n 1, 0, 1, 0), (.iconst 0, 0, 0, 0), (.dup2, 0, 0, 0), (.iaload, 0, 0, 0), (.iconst 1, 1, 0, 0), (.iadd, 0, 0, 0), (.iastore, 0, 0, 0)] 136 143 = true := by decide +kernel
theorem bk_X11_passes_143_145 : rr_chk mX11_passes [(.aload_n 0, 0, 0, 0), (.aload_n 1, 0, 1, 0)] 143 145 = true := by decide +kernel
theorem bk_X11_passes_148_153 : rr_chk mX11_passes [(.istore_n 2, 0, 2, 0), (.aload_n 1, 0, 1, 0), (.iconst 2, 2, 0, 0), (.dup2, 0, 0, 0), (.iaload, 0, 2, 0)] 148 153 = true := by decide +kernel
theorem bk_X11_passes_153_156 : rr_chk mX11_passes [(.aload_n 0, 0, 0, 0), (.iload_n 2, 0, 2, 0), (.iconst 0, 0, 0, 0)] 153 156 = true := by decide +kernel
theorem bk_X11_passes_159_161 : rr_chk mX11_passes [(.iadd, 0, 0, 0), (.iastore, 0, 2, 0)] 159 161 = true := by decide +kernel
theorem bk_X11_passes_161_165 : rr_chk mX11_passes [(.aload_n 1, 0, 1, 0), (.iconst 3, 3, 0, 0), (.dup2, 0, 0, 0), (.iaload, 0, 3, 0)] 161 165 = true := by decide +kernel
theorem bk_X11_passes_165_168 : rr_chk mX11_passes [(.aload_n 0, 0, 0, 0), (.iload_n 2, 0, 2, 0), (.iconst 1, 1, 0, 0)] 165 168 = true := by decide +kernel
theorem bk_X11_passes_171_173 : rr_chk mX11_passes [(.iadd, 0, 0, 0), (.iastore, 0, 3, 0)] 171 173 = true := by decide +kernel
theorem bk_X11_passes_12_20 : rr_chk mX11_passes [(.iconst 4, 4, 0, 0), (.iconst 3, 3, 0, 0), (.iload_n 2, 0, 2, 0), (.imul, 0, 0, 0), (.iadd, 0, 0, 0), (.istore_n 3, 0, 3, 0), (.aload_n 1, 0, 1, 0), (.iload_n 3, 0, 3, 0)] 12 20 = true := by decide +kernel
theorem bk_X11_passes_47_49 : rr_chk mX11_passes [(.aload_n 1, 0, 1, 0), (.iload_n 3, 0, 3, 0)] 47 49 = true := by decide +kernel
theorem bk_X11_passes_93_96 : rr_chk mX11_passes [(.aload_n 0, 0, 0, 0), (.aload_n 1, 0, 1, 0), (.iload_n 2, 0, 2, 0)] 93 96 = true := by decide +kernel
theorem bk_X11_passes_130_2 : rr_chk mX11_passes [(.iinc 2 1, 1, 2, 0), (.goto (-131), 0, 0, 0)] 130 2 = true := by decide +kernel
theorem bk_X11_passes_24_27 : rr_chk mX11_passes [(.aload_n 0, 0, 0, 0), (.aload_n 1, 0, 1, 0), (.iload_n 3, 0, 3, 0)] 24 27 = true := by decide +kernel
theorem bk_X11_passes_28_30 : rr_chk mX11_passes [(.iconst 1, 1, 0, 0), (.isub, 0, 0, 0)] 28 30 = true := by decide +kernel
theorem bk_X11_passes_30_33 : rr_chk mX11_passes [(.aload_n 1, 0, 1, 0), (.iconst 0, 0, 0, 0), (.iaload, 0, 0, 0)] 30 33 = true := by decide +kernel
theorem bk_X11_passes_53_56 : rr_chk mX11_passes [(.aload_n 1, 0, 1, 0), (.iconst 1, 1, 0, 0), (.iaload, 0, 1, 0)] 53 56 = true := by decide +kernel
theorem bk_X11_passes_56_59 : rr_chk mX11_passes [(.iload_n 2, 0, 2, 0), (.iconst 1, 1, 0, 0), (.iadd, 0, 0, 0)] 56 59 = true := by decide +kernel
theorem bk_X11_passes_102_107 : rr_chk mX11_passes [(.aload_n 1, 0, 1, 0), (.iload_n 3, 0, 3, 0), (.iconst 2, 2, 0, 0), (.iadd, 0, 0, 0), (.dup2, 0, 0, 0)] 102 107 = true := by decide +kernel
theorem bk_X11_passes_108_110 : rr_chk mX11_passes [(.iconst 1, 1, 0, 0), (.iadd, 0, 0, 0)] 108 110 = true := by decide +kernel
theorem bk_X11_passes_111_115 : rr_chk mX11_passes [(.aload_n 1, 0, 1, 0), (.iload_n 3, 0, 3, 0), (.iconst 2, 2, 0, 0), (.iadd, 0, 0, 0)] 111 115 = true := by decide +kernel
theorem bk_X11_passes_116_122 : rr_chk mX11_passes [(.aload_n 0, 0, 0, 0), (.getfield 17, 0, 11, 3), (.iconst 3, 3, 0, 0), (.iaload, 0, 3, 0)] 116 122 = true := by decide +kernel
theorem bk_X11_passes_125_127 : rr_chk mX11_passes [(.aload_n 1, 0, 1, 0), (.iload_n 2, 0, 2, 0)] 125 127 = true := by decide +kernel
theorem bk_X11_passes_62_67 : rr_chk mX11_passes [(.aload_n 1, 0, 1, 0), (.iload_n 3, 0, 3, 0), (.iconst 1, 1, 0, 0), (.iadd, 0, 0, 0), (.dup2, 0, 0, 0)] 62 67 = true := by decide +kernel
theorem bk_X11_passes_68_70 : rr_chk mX11_passes [(.iconst 1, 1, 0, 0), (.iadd, 0, 0, 0)] 68 70 = true := by decide +kernel
theorem bk_X11_passes_71_76 : rr_chk mX11_passes [(.aload_n 1, 0, 1, 0), (.iconst 1, 1, 0, 0), (.aload_n 0, 0, 0, 0), (.aload_n 1, 0, 1, 0), (.iload_n 2, 0, 2, 0)] 71 76 = true := by decide +kernel
theorem bk_X11_passes_86_89 : rr_chk mX11_passes [(.aload_n 1, 0, 1, 0), (.iconst 1, 1, 0, 0), (.iaload, 0, 1, 0)] 86 89 = true := by decide +kernel
theorem bk_X11_passes_89_90 : rr_chk mX11_passes [(.iastore, 0, 1, 0)] 89 90 = true := by decide +kernel
theorem bk_X11_passes_90_2 : rr_chk mX11_passes [(.goto 40, 0, 0, 0), (.iinc 2 1, 1, 2, 0), (.goto (-131), 0, 0, 0)] 90 2 = true := by decide +kernel
theorem bk_X11_passes_82_89 : rr_chk mX11_passes [(.iconst 0, 0, 0, 0), (.goto 6, 0, 0, 0)] 82 89 = true := by decide +kernel
theorem bk_X11_passes_39_41 : rr_chk mX11_passes [(.aload_n 1, 0, 1, 0), (.iload_n 2, 0, 2, 0)] 39 41 = true := by decide +kernel
theorem bk_X11_passes_44_2 : rr_chk mX11_passes [(.goto 86, 0, 0, 0), (.iinc 2 1, 1, 2, 0), (.goto (-131), 0, 0, 0)] 44 2 = true := by decide +kernel
set_option maxRecDepth 100000 in
set_option maxHeartbeats 4000000 in
theorem m_passes_now (p : Nat → Int32) (M : Nat → Nat → Int32) (tc wd cc kc : Nat) (G : Nat → Nat → Int32) (hG : m_G M G tc wd cc kc) (q : p_Q) (hq : M 9 = en q) (htc : tc ≤ 12) (hcc : cc ≤ 9) (hkc : kc ≤ 6) (ht : 0 < cc → 0 < tc) (hh : q.1 < 99999) (hiv : m_iv G cc kc q.2.2.2.2 q.2.1) : rr_C mX11_passes 2 [.ref 0, .ref 10] (W_M p M) 0 0 none (W_M p (va_up M 9 (en (p_pass G tc wd kc q)))) := by
  refine rr_C.of (n := 1) fX11_passes.1 rfl rfl (fun Z hC => ?_)
  show rr_J Z 4 0 0 (rr_MQ Z 0 0 none (W_M p (va_up M 9 (en (p_pass G tc wd kc q))))) 0 [(0, .ref 0), (1, .ref 10)] [] (W_M p M)
  refine rr_go hC bk_X11_passes_0_2 (l' := [(0, .ref 0), (1, .ref 10), (2, .int 0)]) (st' := []) (w' := (W_M p M)) rfl ?_
  have lp2 : ∀ (j k : Nat), k + j = kc → 0 ≤ k → rr_J Z 4 0 0 (rr_MQ Z 0 0 none (W_M p (va_up M 9 (en (p_pass G tc wd kc q))))) 2 [(0, .ref 0), (1, .ref 10), (2, .int (nI k))] [] (W_M p (va_up M 9 (en (m_X G tc wd q k)))) := by
    intro j
    induction j with
    | zero =>
      intro k hk2 hlo2
      refine rr_go hC bk_X11_passes_2_9 (l' := [(0, .ref 0), (1, .ref 10), (2, .int (nI k))]) (st' := [.int (M 1 2), .int (nI k)]) (w' := (W_M p (va_up M 9 (en (m_X G tc wd q k))))) rfl ?_
      rw [show (M 1 2 : Int32) = nI kc from hG.2.2.1]
      refine rr_icmp_ge hC (off := 127) (tgt := 136) (by decide +kernel) (fun h9 => ?_) (fun h9 => by rw [rr_nn_le (by omega) (by omega)] at h9; omega)
      rw [rr_nn_le (by omega) (by omega)] at h9
      have ek : k = kc := by omega
      rw [ek]
      obtain ⟨hivY, hY1⟩ := hiv.X tc wd hkc (n := kc) (Nat.le_refl _)
      show rr_J Z 4 0 0 _ 136 [(0, .ref 0), (1, .ref 10), (2, .int (nI kc))] [] (W_M p (va_up M 9 (en (m_X G tc wd q kc))))
      refine rr_go hC bk_X11_passes_136_143 (l' := [(0, .ref 0), (1, .ref 10), (2, .int (nI kc))]) (st' := []) (w' := (W_M p (va_up M 9 (upd (en (m_X G tc wd q kc)) 0 (((en (m_X G tc wd q kc)) 0) + 1))))) rfl ?_
      refine rr_cast (l' := [(0, .ref 0), (1, .ref 10), (2, .int (nI kc))]) rfl (st' := []) rfl (w' := (W_M p (va_up M 9 (en ((m_X G tc wd q kc).1 + 1, (m_X G tc wd q kc).2.1, (m_X G tc wd q kc).2.2.1, (m_X G tc wd q kc).2.2.2.1, (m_X G tc wd q kc).2.2.2.2))))) (by rw [en_0, nI_1, en_uh]) ?_
      refine rr_go hC bk_X11_passes_143_145 (l' := [(0, .ref 0), (1, .ref 10), (2, .int (nI kc))]) (st' := [.ref 10, .ref 0]) (w' := (W_M p (va_up M 9 (en ((m_X G tc wd q kc).1 + 1, (m_X G tc wd q kc).2.1, (m_X G tc wd q kc).2.2.1, (m_X G tc wd q kc).2.2.2.1, (m_X G tc wd q kc).2.2.2.2))))) rfl ?_
      refine rr_callVI hC (by decide +kernel) kl_11_169 fX11_force (m_force_now p (va_up M 9 (en ((m_X G tc wd q kc).1 + 1, (m_X G tc wd q kc).2.1, (m_X G tc wd q kc).2.2.1, (m_X G tc wd q kc).2.2.2.1, (m_X G tc wd q kc).2.2.2.2))) tc wd cc kc G (by exact hG) ((m_X G tc wd q kc).1 + 1, (m_X G tc wd q kc).2.1, (m_X G tc wd q kc).2.2.1, (m_X G tc wd q kc).2.2.2.1, (m_X G tc wd q kc).2.2.2.2) rfl (by omega) (by omega) (by omega) (by exact hivY.ok)) rfl rfl rfl rfl rfl (rest := []) rfl rfl ⟨Nat.zero_le _, Nat.zero_le _⟩ (Eq.refl 22) ?_
      show rr_J Z 4 0 0 _ 148 [(0, .ref 0), (1, .ref 10), (2, .int (nI kc))] [.int (p_fs (m_X G tc wd q kc).2.2.2.2 G kc)] (W_M p (va_up M 9 (en ((m_X G tc wd q kc).1 + 1, (m_X G tc wd q kc).2.1, (m_X G tc wd q kc).2.2.1, (m_X G tc wd q kc).2.2.2.1, (m_X G tc wd q kc).2.2.2.2))))
      refine rr_go hC bk_X11_passes_148_153 (l' := [(0, .ref 0), (1, .ref 10), (2, .int (p_fs (m_X G tc wd q kc).2.2.2.2 G kc))]) (st' := [.int ((en ((m_X G tc wd q kc).1 + 1, (m_X G tc wd q kc).2.1, (m_X G tc wd q kc).2.2.1, (m_X G tc wd q kc).2.2.2.1, (m_X G tc wd q kc).2.2.2.2)) 2), .int 2, .ref 10]) (w' := (W_M p (va_up M 9 (en ((m_X G tc wd q kc).1 + 1, (m_X G tc wd q kc).2.1, (m_X G tc wd q kc).2.2.1, (m_X G tc wd q kc).2.2.2.1, (m_X G tc wd q kc).2.2.2.2))))) rfl ?_
      rw [en_2]
      refine rr_go hC bk_X11_passes_153_156 (l' := [(0, .ref 0), (1, .ref 10), (2, .int (p_fs (m_X G tc wd q kc).2.2.2.2 G kc))]) (st' := [.int 0, .int (p_fs (m_X G tc wd q kc).2.2.2.2 G kc), .ref 0, .int ((m_X G tc wd q kc).2.2.1), .int 2, .ref 10]) (w' := (W_M p (va_up M 9 (en ((m_X G tc wd q kc).1 + 1, (m_X G tc wd q kc).2.1, (m_X G tc wd q kc).2.2.1, (m_X G tc wd q kc).2.2.2.1, (m_X G tc wd q kc).2.2.2.2))))) rfl ?_
      refine rr_callVI hC (by decide +kernel) kl_11_205 fX11_worth (m_worth0 p (va_up M 9 (en ((m_X G tc wd q kc).1 + 1, (m_X G tc wd q kc).2.1, (m_X G tc wd q kc).2.2.1, (m_X G tc wd q kc).2.2.2.1, (m_X G tc wd q kc).2.2.2.2))) tc wd cc kc G (by exact hG) (p_fs (m_X G tc wd q kc).2.2.2.2 G kc) (by omega) (by omega) (by omega)) rfl rfl rfl rfl rfl (rest := [.int ((m_X G tc wd q kc).2.2.1), .int 2, .ref 10]) rfl rfl ⟨Nat.zero_le _, Nat.zero_le _⟩ (Eq.refl 22) ?_
      show rr_J Z 4 0 0 _ 159 [(0, .ref 0), (1, .ref 10), (2, .int (p_fs (m_X G tc wd q kc).2.2.2.2 G kc))] [.int (p_sum (p_fs (m_X G tc wd q kc).2.2.2.2 G kc) (G 4) kc), .int ((m_X G tc wd q kc).2.2.1), .int 2, .ref 10] (W_M p (va_up M 9 (en ((m_X G tc wd q kc).1 + 1, (m_X G tc wd q kc).2.1, (m_X G tc wd q kc).2.2.1, (m_X G tc wd q kc).2.2.2.1, (m_X G tc wd q kc).2.2.2.2))))
      refine rr_go hC bk_X11_passes_159_161 (l' := [(0, .ref 0), (1, .ref 10), (2, .int (p_fs (m_X G tc wd q kc).2.2.2.2 G kc))]) (st' := []) (w' := (W_M p (va_up M 9 (upd (en ((m_X G tc wd q kc).1 + 1, (m_X G tc wd q kc).2.1, (m_X G tc wd q kc).2.2.1, (m_X G tc wd q kc).2.2.2.1, (m_X G tc wd q kc).2.2.2.2)) 2 (((m_X G tc wd q kc).2.2.1) + (p_sum (p_fs (m_X G tc wd q kc).2.2.2.2 G kc) (G 4) kc)))))) rfl ?_
      refine rr_cast (l' := [(0, .ref 0), (1, .ref 10), (2, .int (p_fs (m_X G tc wd q kc).2.2.2.2 G kc))]) rfl (st' := []) rfl (w' := (W_M p (va_up M 9 (en ((m_X G tc wd q kc).1 + 1, (m_X G tc wd q kc).2.1, (m_X G tc wd q kc).2.2.1 + p_sum (p_fs (m_X G tc wd q kc).2.2.2.2 G kc) (G 4) kc, (m_X G tc wd q kc).2.2.2.1, (m_X G tc wd q kc).2.2.2.2))))) (by rw [show upd (en ((m_X G tc wd q kc).1 + 1, (m_X G tc wd q kc).2.1, (m_X G tc wd q kc).2.2.1, (m_X G tc wd q kc).2.2.2.1, (m_X G tc wd q kc).2.2.2.2)) 2 ((m_X G tc wd q kc).2.2.1 + (p_sum (p_fs (m_X G tc wd q kc).2.2.2.2 G kc) (G 4) kc)) = en ((m_X G tc wd q kc).1 + 1, (m_X G tc wd q kc).2.1, (m_X G tc wd q kc).2.2.1 + p_sum (p_fs (m_X G tc wd q kc).2.2.2.2 G kc) (G 4) kc, (m_X G tc wd q kc).2.2.2.1, (m_X G tc wd q kc).2.2.2.2) from en_up2 ((m_X G tc wd q kc).1 + 1, (m_X G tc wd q kc).2.1, (m_X G tc wd q kc).2.2.1, (m_X G tc wd q kc).2.2.2.1, (m_X G tc wd q kc).2.2.2.2) ((m_X G tc wd q kc).2.2.1 + (p_sum (p_fs (m_X G tc wd q kc).2.2.2.2 G kc) (G 4) kc))]) ?_
      refine rr_go hC bk_X11_passes_161_165 (l' := [(0, .ref 0), (1, .ref 10), (2, .int (p_fs (m_X G tc wd q kc).2.2.2.2 G kc))]) (st' := [.int ((en ((m_X G tc wd q kc).1 + 1, (m_X G tc wd q kc).2.1, (m_X G tc wd q kc).2.2.1 + p_sum (p_fs (m_X G tc wd q kc).2.2.2.2 G kc) (G 4) kc, (m_X G tc wd q kc).2.2.2.1, (m_X G tc wd q kc).2.2.2.2)) 3), .int 3, .ref 10]) (w' := (W_M p (va_up M 9 (en ((m_X G tc wd q kc).1 + 1, (m_X G tc wd q kc).2.1, (m_X G tc wd q kc).2.2.1 + p_sum (p_fs (m_X G tc wd q kc).2.2.2.2 G kc) (G 4) kc, (m_X G tc wd q kc).2.2.2.1, (m_X G tc wd q kc).2.2.2.2))))) rfl ?_
      rw [en_3]
      refine rr_go hC bk_X11_passes_165_168 (l' := [(0, .ref 0), (1, .ref 10), (2, .int (p_fs (m_X G tc wd q kc).2.2.2.2 G kc))]) (st' := [.int 1, .int (p_fs (m_X G tc wd q kc).2.2.2.2 G kc), .ref 0, .int ((m_X G tc wd q kc).2.2.2.1), .int 3, .ref 10]) (w' := (W_M p (va_up M 9 (en ((m_X G tc wd q kc).1 + 1, (m_X G tc wd q kc).2.1, (m_X G tc wd q kc).2.2.1 + p_sum (p_fs (m_X G tc wd q kc).2.2.2.2 G kc) (G 4) kc, (m_X G tc wd q kc).2.2.2.1, (m_X G tc wd q kc).2.2.2.2))))) rfl ?_
      refine rr_callVI hC (by decide +kernel) kl_11_205 fX11_worth (m_worth1 p (va_up M 9 (en ((m_X G tc wd q kc).1 + 1, (m_X G tc wd q kc).2.1, (m_X G tc wd q kc).2.2.1 + p_sum (p_fs (m_X G tc wd q kc).2.2.2.2 G kc) (G 4) kc, (m_X G tc wd q kc).2.2.2.1, (m_X G tc wd q kc).2.2.2.2))) tc wd cc kc G (by exact hG) (p_fs (m_X G tc wd q kc).2.2.2.2 G kc) (by omega) (by omega) (by omega)) rfl rfl rfl rfl rfl (rest := [.int ((m_X G tc wd q kc).2.2.2.1), .int 3, .ref 10]) rfl rfl ⟨Nat.zero_le _, Nat.zero_le _⟩ (Eq.refl 22) ?_
      show rr_J Z 4 0 0 _ 171 [(0, .ref 0), (1, .ref 10), (2, .int (p_fs (m_X G tc wd q kc).2.2.2.2 G kc))] [.int (p_sum (p_fs (m_X G tc wd q kc).2.2.2.2 G kc) (G 5) kc), .int ((m_X G tc wd q kc).2.2.2.1), .int 3, .ref 10] (W_M p (va_up M 9 (en ((m_X G tc wd q kc).1 + 1, (m_X G tc wd q kc).2.1, (m_X G tc wd q kc).2.2.1 + p_sum (p_fs (m_X G tc wd q kc).2.2.2.2 G kc) (G 4) kc, (m_X G tc wd q kc).2.2.2.1, (m_X G tc wd q kc).2.2.2.2))))
      refine rr_go hC bk_X11_passes_171_173 (l' := [(0, .ref 0), (1, .ref 10), (2, .int (p_fs (m_X G tc wd q kc).2.2.2.2 G kc))]) (st' := []) (w' := (W_M p (va_up M 9 (upd (en ((m_X G tc wd q kc).1 + 1, (m_X G tc wd q kc).2.1, (m_X G tc wd q kc).2.2.1 + p_sum (p_fs (m_X G tc wd q kc).2.2.2.2 G kc) (G 4) kc, (m_X G tc wd q kc).2.2.2.1, (m_X G tc wd q kc).2.2.2.2)) 3 (((m_X G tc wd q kc).2.2.2.1) + (p_sum (p_fs (m_X G tc wd q kc).2.2.2.2 G kc) (G 5) kc)))))) rfl ?_
      refine rr_cast (l' := [(0, .ref 0), (1, .ref 10), (2, .int (p_fs (m_X G tc wd q kc).2.2.2.2 G kc))]) rfl (st' := []) rfl (w' := (W_M p (va_up M 9 (en ((m_X G tc wd q kc).1 + 1, (m_X G tc wd q kc).2.1, (m_X G tc wd q kc).2.2.1 + p_sum (p_fs (m_X G tc wd q kc).2.2.2.2 G kc) (G 4) kc, (m_X G tc wd q kc).2.2.2.1 + p_sum (p_fs (m_X G tc wd q kc).2.2.2.2 G kc) (G 5) kc, (m_X G tc wd q kc).2.2.2.2))))) (by rw [show upd (en ((m_X G tc wd q kc).1 + 1, (m_X G tc wd q kc).2.1, (m_X G tc wd q kc).2.2.1 + p_sum (p_fs (m_X G tc wd q kc).2.2.2.2 G kc) (G 4) kc, (m_X G tc wd q kc).2.2.2.1, (m_X G tc wd q kc).2.2.2.2)) 3 ((m_X G tc wd q kc).2.2.2.1 + (p_sum (p_fs (m_X G tc wd q kc).2.2.2.2 G kc) (G 5) kc)) = en ((m_X G tc wd q kc).1 + 1, (m_X G tc wd q kc).2.1, (m_X G tc wd q kc).2.2.1 + p_sum (p_fs (m_X G tc wd q kc).2.2.2.2 G kc) (G 4) kc, (m_X G tc wd q kc).2.2.2.1 + p_sum (p_fs (m_X G tc wd q kc).2.2.2.2 G kc) (G 5) kc, (m_X G tc wd q kc).2.2.2.2) from en_up3 ((m_X G tc wd q kc).1 + 1, (m_X G tc wd q kc).2.1, (m_X G tc wd q kc).2.2.1 + p_sum (p_fs (m_X G tc wd q kc).2.2.2.2 G kc) (G 4) kc, (m_X G tc wd q kc).2.2.2.1, (m_X G tc wd q kc).2.2.2.2) ((m_X G tc wd q kc).2.2.2.1 + (p_sum (p_fs (m_X G tc wd q kc).2.2.2.2 G kc) (G 5) kc))]) ?_
      exact rr_retv hC (by decide +kernel) (by rw [m_X_pl]; rfl) ⟨Nat.zero_le _, Nat.zero_le _⟩
    | succ j ih =>
      intro k hk2 hlo2
      refine rr_go hC bk_X11_passes_2_9 (l' := [(0, .ref 0), (1, .ref 10), (2, .int (nI k))]) (st' := [.int (M 1 2), .int (nI k)]) (w' := (W_M p (va_up M 9 (en (m_X G tc wd q k))))) rfl ?_
      rw [show (M 1 2 : Int32) = nI kc from hG.2.2.1]
      refine rr_icmp_ge hC (off := 127) (tgt := 136) (by decide +kernel) (fun h9 => by rw [rr_nn_le (by omega) (by omega)] at h9; omega) (fun h9 => ?_)
      rw [rr_nn_le (by omega) (by omega)] at h9
      obtain ⟨hivk, hX1⟩ := hiv.X tc wd hkc (n := k) (by omega)
      generalize hXk : m_X G tc wd q k = X at hivk hX1 ⊢
      show rr_J Z 4 0 0 _ 12 [(0, .ref 0), (1, .ref 10), (2, .int (nI k))] [] (W_M p (va_up M 9 (en X)))
      have hpos := m_pos (x := X.2.2.2.2 0 k) hcc (hivk.1 k (by omega)).1
      refine rr_go hC bk_X11_passes_12_20 (l' := [(0, .ref 0), (1, .ref 10), (2, .int (nI k)), (3, .int (4 + (3 * (nI k))))]) (st' := [.int (4 + (3 * (nI k))), .ref 10]) (w' := (W_M p (va_up M 9 (en X)))) rfl ?_
      rw [show (3 * (nI k) : Int32) = nI (3 * k) from pk_mul 3 k]
      rw [show (4 + (nI (3 * k)) : Int32) = nI (4 + (3 * k)) from nI_add 4 (3 * k)]
      refine rr_iald hC (4 + (3 * k)) (by decide +kernel) rfl rfl (by omega) rfl ?_
      show rr_J Z 4 0 0 _ 21 [(0, .ref 0), (1, .ref 10), (2, .int (nI k)), (3, .int (nI (4 + (3 * k))))] [.int ((en X) (4 + (3 * k)))] (W_M p (va_up M 9 (en X)))
      rw [en_c X (show k < 6 by omega)]
      refine rr_if_le hC (off := 26) (tgt := 47) (by decide +kernel) (fun h21 => ?_) (fun h21 => ?_)
      · refine rr_go hC bk_X11_passes_47_49 (l' := [(0, .ref 0), (1, .ref 10), (2, .int (nI k)), (3, .int (nI (4 + (3 * k))))]) (st' := [.int (nI (4 + (3 * k))), .ref 10]) (w' := (W_M p (va_up M 9 (en X)))) rfl ?_
        refine rr_iald hC (4 + (3 * k)) (by decide +kernel) rfl rfl (by omega) rfl ?_
        show rr_J Z 4 0 0 _ 50 [(0, .ref 0), (1, .ref 10), (2, .int (nI k)), (3, .int (nI (4 + (3 * k))))] [.int ((en X) (4 + (3 * k)))] (W_M p (va_up M 9 (en X)))
        rw [en_c X (show k < 6 by omega)]
        refine rr_if_le hC (off := 43) (tgt := 93) (by decide +kernel) (fun h50 => ?_) (fun h50 => by  exact absurd h21 h50)
        refine rr_go hC bk_X11_passes_93_96 (l' := [(0, .ref 0), (1, .ref 10), (2, .int (nI k)), (3, .int (nI (4 + (3 * k))))]) (st' := [.int (nI k), .ref 10, .ref 0]) (w' := (W_M p (va_up M 9 (en X)))) rfl ?_
        refine rr_callVI hC (by decide +kernel) kl_11_155 fX11_isDone (m_isDone_now p (va_up M 9 (en X)) tc wd cc kc G (by exact hG) X rfl k (by omega) (by omega) (by omega) (by omega) hivk.ok) rfl rfl rfl rfl rfl (rest := []) rfl rfl ⟨Nat.zero_le _, Nat.zero_le _⟩ (Eq.refl 22) ?_
        show rr_J Z 4 0 0 _ 99 [(0, .ref 0), (1, .ref 10), (2, .int (nI k)), (3, .int (nI (4 + (3 * k))))] [.int (rr_b (p_done X.2.2.2.2 G k))] (W_M p (va_up M 9 (en X)))
        refine rr_eqb hC (off := 31) (tgt := 130) (by decide +kernel) (fun h99 => ?_) (fun h99 => by  unfold p_done at h99; rw [decide_eq_true (hpos.mp h21)] at h99; cases h99)
        refine rr_go hC bk_X11_passes_130_2 (l' := [(0, .ref 0), (1, .ref 10), (2, .int ((nI k) + 1)), (3, .int (nI (4 + (3 * k))))]) (st' := []) (w' := (W_M p (va_up M 9 (en X)))) rfl ?_
        rw [show ((nI k) + 1 : Int32) = nI (k + 1) from nI_add k 1]
        refine rr_dr 3 (l' := [(0, .ref 0), (1, .ref 10), (2, .int (nI (k + 1)))]) rfl ?_
        have hst : m_X G tc wd q (k + 1) = X := by rw [m_X_s, hXk]; exact m_st_0 (hpos.mp h21)
        exact rr_cast (l' := [(0, .ref 0), (1, .ref 10), (2, .int (nI (k + 1)))]) (by rfl) rfl (w' := (W_M p (va_up M 9 (en (m_X G tc wd q (k + 1)))))) (by rw [hst]) (ih (k + 1) (by omega) (by omega))
      · obtain ⟨cq, hcq, hcs⟩ := ((hivk.1 k (by omega)).1.resolve_left (fun z => h21 (hpos.mpr z))).2
        have hne : ¬ X.2.2.2.2 0 k = -1 := fun z => h21 (hpos.mpr z)
        have ht2 : 0 < tc := ht (by omega)
        have hcl : (X.2.2.2.2 0 k).toNatClampNeg = cq := by rw [hcs]; exact nI_clamp (by omega)
        refine rr_go hC bk_X11_passes_24_27 (l' := [(0, .ref 0), (1, .ref 10), (2, .int (nI k)), (3, .int (nI (4 + (3 * k))))]) (st' := [.int (nI (4 + (3 * k))), .ref 10, .ref 0]) (w' := (W_M p (va_up M 9 (en X)))) rfl ?_
        refine rr_iald hC (4 + (3 * k)) (by decide +kernel) rfl rfl (by omega) rfl ?_
        show rr_J Z 4 0 0 _ 28 [(0, .ref 0), (1, .ref 10), (2, .int (nI k)), (3, .int (nI (4 + (3 * k))))] [.int ((en X) (4 + (3 * k))), .ref 0] (W_M p (va_up M 9 (en X)))
        rw [en_c X (show k < 6 by omega), hcs, nI_1]
        refine rr_go hC bk_X11_passes_28_30 (l' := [(0, .ref 0), (1, .ref 10), (2, .int (nI k)), (3, .int (nI (4 + (3 * k))))]) (st' := [.int ((nI (cq + 1)) - 1), .ref 0]) (w' := (W_M p (va_up M 9 (en X)))) rfl ?_
        rw [show ((nI (cq + 1)) - 1 : Int32) = nI ((cq + 1) - 1) from pk_sub (a := cq + 1) (b := 1) (by omega)]
        rw [show (cq + 1) - 1 = cq from rfl]
        refine rr_go hC bk_X11_passes_30_33 (l' := [(0, .ref 0), (1, .ref 10), (2, .int (nI k)), (3, .int (nI (4 + (3 * k))))]) (st' := [.int ((en X) 0), .int (nI cq), .ref 0]) (w' := (W_M p (va_up M 9 (en X)))) rfl ?_
        rw [show ((en X) 0 : Int32) = nI X.1 from en_0 X]
        refine rr_callVI hC (by decide +kernel) kl_11_151 fX11_isWet (m_isWet p (va_up M 9 (en X)) tc wd cc kc G (by exact hG) cq X.1 (by omega) (by omega) (by omega) (by omega) (by omega) (by omega)) rfl rfl rfl rfl rfl (rest := []) rfl rfl ⟨Nat.zero_le _, Nat.zero_le _⟩ (Eq.refl 22) ?_
        show rr_J Z 4 0 0 _ 36 [(0, .ref 0), (1, .ref 10), (2, .int (nI k)), (3, .int (nI (4 + (3 * k))))] [.int (rr_b (p_wet G tc cq X.1))] (W_M p (va_up M 9 (en X)))
        refine rr_eqb hC (off := 11) (tgt := 47) (by decide +kernel) (fun h36 => ?_) (fun h36 => ?_)
        · refine rr_go hC bk_X11_passes_47_49 (l' := [(0, .ref 0), (1, .ref 10), (2, .int (nI k)), (3, .int (nI (4 + (3 * k))))]) (st' := [.int (nI (4 + (3 * k))), .ref 10]) (w' := (W_M p (va_up M 9 (en X)))) rfl ?_
          refine rr_iald hC (4 + (3 * k)) (by decide +kernel) rfl rfl (by omega) rfl ?_
          show rr_J Z 4 0 0 _ 50 [(0, .ref 0), (1, .ref 10), (2, .int (nI k)), (3, .int (nI (4 + (3 * k))))] [.int ((en X) (4 + (3 * k)))] (W_M p (va_up M 9 (en X)))
          rw [en_c X (show k < 6 by omega)]
          refine rr_if_le hC (off := 43) (tgt := 93) (by decide +kernel) (fun h50 => by  exact absurd h50 h21) (fun h50 => ?_)
          refine rr_go hC bk_X11_passes_53_56 (l' := [(0, .ref 0), (1, .ref 10), (2, .int (nI k)), (3, .int (nI (4 + (3 * k))))]) (st' := [.int ((en X) 1)]) (w' := (W_M p (va_up M 9 (en X)))) rfl ?_
          rw [en_1]
          refine rr_go hC bk_X11_passes_56_59 (l' := [(0, .ref 0), (1, .ref 10), (2, .int (nI k)), (3, .int (nI (4 + (3 * k))))]) (st' := [.int ((nI k) + 1), .int (X.2.1 + 1)]) (w' := (W_M p (va_up M 9 (en X)))) rfl ?_
          rw [show ((nI k) + 1 : Int32) = nI (k + 1) from nI_add k 1]
          refine rr_icmp_ne hC (off := 34) (tgt := 93) (by decide +kernel) (fun h59 => ?_) (fun h59 => ?_)
          · have hns : ¬ X.2.1 = nI k := fun z => h59 (by rw [z, nI_1])
            refine rr_go hC bk_X11_passes_93_96 (l' := [(0, .ref 0), (1, .ref 10), (2, .int (nI k)), (3, .int (nI (4 + (3 * k))))]) (st' := [.int (nI k), .ref 10, .ref 0]) (w' := (W_M p (va_up M 9 (en X)))) rfl ?_
            refine rr_callVI hC (by decide +kernel) kl_11_155 fX11_isDone (m_isDone_now p (va_up M 9 (en X)) tc wd cc kc G (by exact hG) X rfl k (by omega) (by omega) (by omega) (by omega) hivk.ok) rfl rfl rfl rfl rfl (rest := []) rfl rfl ⟨Nat.zero_le _, Nat.zero_le _⟩ (Eq.refl 22) ?_
            show rr_J Z 4 0 0 _ 99 [(0, .ref 0), (1, .ref 10), (2, .int (nI k)), (3, .int (nI (4 + (3 * k))))] [.int (rr_b (p_done X.2.2.2.2 G k))] (W_M p (va_up M 9 (en X)))
            refine rr_eqb hC (off := 31) (tgt := 130) (by decide +kernel) (fun h99 => ?_) (fun h99 => ?_)
            · refine rr_go hC bk_X11_passes_130_2 (l' := [(0, .ref 0), (1, .ref 10), (2, .int ((nI k) + 1)), (3, .int (nI (4 + (3 * k))))]) (st' := []) (w' := (W_M p (va_up M 9 (en X)))) rfl ?_
              rw [show ((nI k) + 1 : Int32) = nI (k + 1) from nI_add k 1]
              refine rr_dr 3 (l' := [(0, .ref 0), (1, .ref 10), (2, .int (nI (k + 1)))]) rfl ?_
              have hst : m_X G tc wd q (k + 1) = X := by rw [m_X_s, hXk]; exact m_st_4 hne (fun z => by rw [hcl, h36] at z; cases z) hns h99
              exact rr_cast (l' := [(0, .ref 0), (1, .ref 10), (2, .int (nI (k + 1)))]) (by rfl) rfl (w' := (W_M p (va_up M 9 (en (m_X G tc wd q (k + 1)))))) (by rw [hst]) (ih (k + 1) (by omega) (by omega))
            · refine rr_go hC bk_X11_passes_102_107 (l' := [(0, .ref 0), (1, .ref 10), (2, .int (nI k)), (3, .int (nI (4 + (3 * k))))]) (st' := [.int ((nI (4 + (3 * k))) + 2), .ref 10, .int ((nI (4 + (3 * k))) + 2), .ref 10]) (w' := (W_M p (va_up M 9 (en X)))) rfl ?_
              rw [show ((nI (4 + (3 * k))) + 2 : Int32) = nI ((4 + (3 * k)) + 2) from nI_add (4 + (3 * k)) 2]
              refine rr_iald hC ((4 + (3 * k)) + 2) (by decide +kernel) rfl rfl (by omega) rfl ?_
              show rr_J Z 4 0 0 _ 108 [(0, .ref 0), (1, .ref 10), (2, .int (nI k)), (3, .int (nI (4 + (3 * k))))] [.int ((en X) ((4 + (3 * k)) + 2)), .int (nI ((4 + (3 * k)) + 2)), .ref 10] (W_M p (va_up M 9 (en X)))
              rw [en_d X (show k < 6 by omega)]
              refine rr_go hC bk_X11_passes_108_110 (l' := [(0, .ref 0), (1, .ref 10), (2, .int (nI k)), (3, .int (nI (4 + (3 * k))))]) (st' := [.int ((X.2.2.2.2 2 k) + 1), .int (nI ((4 + (3 * k)) + 2)), .ref 10]) (w' := (W_M p (va_up M 9 (en X)))) rfl ?_
              refine rr_iast hC ((4 + (3 * k)) + 2) (by decide +kernel) rfl rfl (by omega) rfl (w' := (W_M p (va_up M 9 (upd (en X) ((4 + (3 * k)) + 2) ((X.2.2.2.2 2 k) + 1))))) rfl ?_
              show rr_J Z 4 0 0 _ 111 [(0, .ref 0), (1, .ref 10), (2, .int (nI k)), (3, .int (nI (4 + (3 * k))))] [] (W_M p (va_up M 9 (upd (en X) ((4 + (3 * k)) + 2) ((X.2.2.2.2 2 k) + 1))))
              refine rr_cast (l' := [(0, .ref 0), (1, .ref 10), (2, .int (nI k)), (3, .int (nI (4 + (3 * k))))]) rfl (st' := []) rfl (w' := (W_M p (va_up M 9 (en (X.1, X.2.1, X.2.2.1, X.2.2.2.1, va_up X.2.2.2.2 2 (upd (X.2.2.2.2 2) k (X.2.2.2.2 2 k + 1))))))) (by rw [en_u2 X (show k < 6 by omega)]) ?_
              refine rr_go hC bk_X11_passes_111_115 (l' := [(0, .ref 0), (1, .ref 10), (2, .int (nI k)), (3, .int (nI (4 + (3 * k))))]) (st' := [.int ((nI (4 + (3 * k))) + 2), .ref 10]) (w' := (W_M p (va_up M 9 (en (X.1, X.2.1, X.2.2.1, X.2.2.2.1, va_up X.2.2.2.2 2 (upd (X.2.2.2.2 2) k (X.2.2.2.2 2 k + 1))))))) rfl ?_
              rw [show ((nI (4 + (3 * k))) + 2 : Int32) = nI ((4 + (3 * k)) + 2) from nI_add (4 + (3 * k)) 2]
              refine rr_iald hC ((4 + (3 * k)) + 2) (by decide +kernel) rfl rfl (by omega) rfl ?_
              show rr_J Z 4 0 0 _ 116 [(0, .ref 0), (1, .ref 10), (2, .int (nI k)), (3, .int (nI (4 + (3 * k))))] [.int ((en (X.1, X.2.1, X.2.2.1, X.2.2.2.1, va_up X.2.2.2.2 2 (upd (X.2.2.2.2 2) k (X.2.2.2.2 2 k + 1)))) ((4 + (3 * k)) + 2))] (W_M p (va_up M 9 (en (X.1, X.2.1, X.2.2.1, X.2.2.2.1, va_up X.2.2.2.2 2 (upd (X.2.2.2.2 2) k (X.2.2.2.2 2 k + 1))))))
              rw [show (en (X.1, X.2.1, X.2.2.1, X.2.2.2.1, va_up X.2.2.2.2 2 (upd (X.2.2.2.2 2) k (X.2.2.2.2 2 k + 1)))) ((4 + (3 * k)) + 2) = X.2.2.2.2 2 k + 1 from (en_d _ (show k < 6 by omega)).trans pk_us]
              refine rr_go hC bk_X11_passes_116_122 (l' := [(0, .ref 0), (1, .ref 10), (2, .int (nI k)), (3, .int (nI (4 + (3 * k))))]) (st' := [.int (M 1 3), .int (X.2.2.2.2 2 k + 1)]) (w' := (W_M p (va_up M 9 (en (X.1, X.2.1, X.2.2.1, X.2.2.2.1, va_up X.2.2.2.2 2 (upd (X.2.2.2.2 2) k (X.2.2.2.2 2 k + 1))))))) rfl ?_
              rw [show (M 1 3 : Int32) = nI wd from hG.2.2.2.1]
              refine rr_icmp_le hC (off := 8) (tgt := 130) (by decide +kernel) (fun h122 => ?_) (fun h122 => ?_)
              · refine rr_go hC bk_X11_passes_130_2 (l' := [(0, .ref 0), (1, .ref 10), (2, .int ((nI k) + 1)), (3, .int (nI (4 + (3 * k))))]) (st' := []) (w' := (W_M p (va_up M 9 (en (X.1, X.2.1, X.2.2.1, X.2.2.2.1, va_up X.2.2.2.2 2 (upd (X.2.2.2.2 2) k (X.2.2.2.2 2 k + 1))))))) rfl ?_
                rw [show ((nI k) + 1 : Int32) = nI (k + 1) from nI_add k 1]
                refine rr_dr 3 (l' := [(0, .ref 0), (1, .ref 10), (2, .int (nI (k + 1)))]) rfl ?_
                have hst : m_X G tc wd q (k + 1) = (X.1, X.2.1, X.2.2.1, X.2.2.2.1, va_up X.2.2.2.2 2 (upd (X.2.2.2.2 2) k (X.2.2.2.2 2 k + 1))) := by rw [m_X_s, hXk]; exact m_st_3 hne (fun z => by rw [hcl, h36] at z; cases z) hns h99 h122
                exact rr_cast (l' := [(0, .ref 0), (1, .ref 10), (2, .int (nI (k + 1)))]) (by rfl) rfl (w' := (W_M p (va_up M 9 (en (m_X G tc wd q (k + 1)))))) (by rw [hst]) (ih (k + 1) (by omega) (by omega))
              · refine rr_go hC bk_X11_passes_125_127 (l' := [(0, .ref 0), (1, .ref 10), (2, .int (nI k)), (3, .int (nI (4 + (3 * k))))]) (st' := [.int (nI k), .ref 10]) (w' := (W_M p (va_up M 9 (en (X.1, X.2.1, X.2.2.1, X.2.2.2.1, va_up X.2.2.2.2 2 (upd (X.2.2.2.2 2) k (X.2.2.2.2 2 k + 1))))))) rfl ?_
                refine rr_callS hC (by decide +kernel) kl_11_198 fX11_goes (m_goes (fun _ => en (X.1, X.2.1, X.2.2.1, X.2.2.2.1, va_up X.2.2.2.2 2 (upd (X.2.2.2.2 2) k (X.2.2.2.2 2 k + 1)))) (X.1, X.2.1, X.2.2.1, X.2.2.2.1, va_up X.2.2.2.2 2 (upd (X.2.2.2.2 2) k (X.2.2.2.2 2 k + 1))) rfl k (by omega)) rfl rfl [10] rfl rfl (Eq.refl 1) rfl (rest := []) rfl rfl ⟨Nat.zero_le _, Nat.zero_le _⟩ (w2 := (W_M p (va_up M 9 (en (p_rb (X.1, X.2.1, X.2.2.1, X.2.2.2.1, va_up X.2.2.2.2 2 (upd (X.2.2.2.2 2) k (X.2.2.2.2 2 k + 1))) k))))) rfl ?_
                show rr_J Z 4 0 0 _ 130 [(0, .ref 0), (1, .ref 10), (2, .int (nI k)), (3, .int (nI (4 + (3 * k))))] [] (W_M p (va_up M 9 (en (p_rb (X.1, X.2.1, X.2.2.1, X.2.2.2.1, va_up X.2.2.2.2 2 (upd (X.2.2.2.2 2) k (X.2.2.2.2 2 k + 1))) k))))
                refine rr_go hC bk_X11_passes_130_2 (l' := [(0, .ref 0), (1, .ref 10), (2, .int ((nI k) + 1)), (3, .int (nI (4 + (3 * k))))]) (st' := []) (w' := (W_M p (va_up M 9 (en (p_rb (X.1, X.2.1, X.2.2.1, X.2.2.2.1, va_up X.2.2.2.2 2 (upd (X.2.2.2.2 2) k (X.2.2.2.2 2 k + 1))) k))))) rfl ?_
                rw [show ((nI k) + 1 : Int32) = nI (k + 1) from nI_add k 1]
                refine rr_dr 3 (l' := [(0, .ref 0), (1, .ref 10), (2, .int (nI (k + 1)))]) rfl ?_
                have hst : m_X G tc wd q (k + 1) = (p_rb (X.1, X.2.1, X.2.2.1, X.2.2.2.1, va_up X.2.2.2.2 2 (upd (X.2.2.2.2 2) k (X.2.2.2.2 2 k + 1))) k) := by rw [m_X_s, hXk]; exact m_st_3n hne (fun z => by rw [hcl, h36] at z; cases z) hns h99 h122
                exact rr_cast (l' := [(0, .ref 0), (1, .ref 10), (2, .int (nI (k + 1)))]) (by rfl) rfl (w' := (W_M p (va_up M 9 (en (m_X G tc wd q (k + 1)))))) (by rw [hst]) (ih (k + 1) (by omega) (by omega))
          · have hs : X.2.1 = nI k := p_i1.mp (h59.trans (nI_succ k))
            refine rr_go hC bk_X11_passes_62_67 (l' := [(0, .ref 0), (1, .ref 10), (2, .int (nI k)), (3, .int (nI (4 + (3 * k))))]) (st' := [.int ((nI (4 + (3 * k))) + 1), .ref 10, .int ((nI (4 + (3 * k))) + 1), .ref 10]) (w' := (W_M p (va_up M 9 (en X)))) rfl ?_
            rw [show ((nI (4 + (3 * k))) + 1 : Int32) = nI ((4 + (3 * k)) + 1) from nI_add (4 + (3 * k)) 1]
            refine rr_iald hC ((4 + (3 * k)) + 1) (by decide +kernel) rfl rfl (by omega) rfl ?_
            show rr_J Z 4 0 0 _ 68 [(0, .ref 0), (1, .ref 10), (2, .int (nI k)), (3, .int (nI (4 + (3 * k))))] [.int ((en X) ((4 + (3 * k)) + 1)), .int (nI ((4 + (3 * k)) + 1)), .ref 10] (W_M p (va_up M 9 (en X)))
            rw [en_w X (show k < 6 by omega)]
            refine rr_go hC bk_X11_passes_68_70 (l' := [(0, .ref 0), (1, .ref 10), (2, .int (nI k)), (3, .int (nI (4 + (3 * k))))]) (st' := [.int ((X.2.2.2.2 1 k) + 1), .int (nI ((4 + (3 * k)) + 1)), .ref 10]) (w' := (W_M p (va_up M 9 (en X)))) rfl ?_
            refine rr_iast hC ((4 + (3 * k)) + 1) (by decide +kernel) rfl rfl (by omega) rfl (w' := (W_M p (va_up M 9 (upd (en X) ((4 + (3 * k)) + 1) ((X.2.2.2.2 1 k) + 1))))) rfl ?_
            show rr_J Z 4 0 0 _ 71 [(0, .ref 0), (1, .ref 10), (2, .int (nI k)), (3, .int (nI (4 + (3 * k))))] [] (W_M p (va_up M 9 (upd (en X) ((4 + (3 * k)) + 1) ((X.2.2.2.2 1 k) + 1))))
            refine rr_cast (l' := [(0, .ref 0), (1, .ref 10), (2, .int (nI k)), (3, .int (nI (4 + (3 * k))))]) rfl (st' := []) rfl (w' := (W_M p (va_up M 9 (en (X.1, X.2.1, X.2.2.1, X.2.2.2.1, va_up X.2.2.2.2 1 (upd (X.2.2.2.2 1) k (X.2.2.2.2 1 k + 1))))))) (by rw [en_u1 X (show k < 6 by omega)]) ?_
            refine rr_go hC bk_X11_passes_71_76 (l' := [(0, .ref 0), (1, .ref 10), (2, .int (nI k)), (3, .int (nI (4 + (3 * k))))]) (st' := [.int (nI k), .ref 10, .ref 0, .int 1, .ref 10]) (w' := (W_M p (va_up M 9 (en (X.1, X.2.1, X.2.2.1, X.2.2.2.1, va_up X.2.2.2.2 1 (upd (X.2.2.2.2 1) k (X.2.2.2.2 1 k + 1))))))) rfl ?_
            refine rr_callVI hC (by decide +kernel) kl_11_155 fX11_isDone (m_isDone_now p (va_up M 9 (en (X.1, X.2.1, X.2.2.1, X.2.2.2.1, va_up X.2.2.2.2 1 (upd (X.2.2.2.2 1) k (X.2.2.2.2 1 k + 1))))) tc wd cc kc G (by exact hG) (X.1, X.2.1, X.2.2.1, X.2.2.2.1, va_up X.2.2.2.2 1 (upd (X.2.2.2.2 1) k (X.2.2.2.2 1 k + 1))) rfl k (by omega) (by omega) (by omega) (by omega) (hivk.w1 (by omega) hkc hs)) rfl rfl rfl rfl rfl (rest := [.int 1, .ref 10]) rfl rfl ⟨Nat.zero_le _, Nat.zero_le _⟩ (Eq.refl 22) ?_
            show rr_J Z 4 0 0 _ 79 [(0, .ref 0), (1, .ref 10), (2, .int (nI k)), (3, .int (nI (4 + (3 * k))))] [.int (rr_b (p_done (va_up X.2.2.2.2 1 (upd (X.2.2.2.2 1) k (X.2.2.2.2 1 k + 1))) G k)), .int 1, .ref 10] (W_M p (va_up M 9 (en (X.1, X.2.1, X.2.2.1, X.2.2.2.1, va_up X.2.2.2.2 1 (upd (X.2.2.2.2 1) k (X.2.2.2.2 1 k + 1))))))
            refine rr_eqb hC (off := 7) (tgt := 86) (by decide +kernel) (fun h79 => ?_) (fun h79 => ?_)
            · refine rr_go hC bk_X11_passes_86_89 (l' := [(0, .ref 0), (1, .ref 10), (2, .int (nI k)), (3, .int (nI (4 + (3 * k))))]) (st' := [.int ((en (X.1, X.2.1, X.2.2.1, X.2.2.2.1, va_up X.2.2.2.2 1 (upd (X.2.2.2.2 1) k (X.2.2.2.2 1 k + 1)))) 1), .int 1, .ref 10]) (w' := (W_M p (va_up M 9 (en (X.1, X.2.1, X.2.2.1, X.2.2.2.1, va_up X.2.2.2.2 1 (upd (X.2.2.2.2 1) k (X.2.2.2.2 1 k + 1))))))) rfl ?_
              rw [en_1]
              refine rr_go hC bk_X11_passes_89_90 (l' := [(0, .ref 0), (1, .ref 10), (2, .int (nI k)), (3, .int (nI (4 + (3 * k))))]) (st' := []) (w' := (W_M p (va_up M 9 (upd (en (X.1, X.2.1, X.2.2.1, X.2.2.2.1, va_up X.2.2.2.2 1 (upd (X.2.2.2.2 1) k (X.2.2.2.2 1 k + 1)))) 1 (X.2.1 + 1))))) rfl ?_
              refine rr_cast (l' := [(0, .ref 0), (1, .ref 10), (2, .int (nI k)), (3, .int (nI (4 + (3 * k))))]) rfl (st' := []) rfl (w' := (W_M p (va_up M 9 (en (X.1, X.2.1, X.2.2.1, X.2.2.2.1, va_up X.2.2.2.2 1 (upd (X.2.2.2.2 1) k (X.2.2.2.2 1 k + 1))))))) (by rw [show upd (en (X.1, X.2.1, X.2.2.1, X.2.2.2.1, va_up X.2.2.2.2 1 (upd (X.2.2.2.2 1) k (X.2.2.2.2 1 k + 1)))) 1 (X.2.1 + 1) = en (X.1, X.2.1, X.2.2.1, X.2.2.2.1, va_up X.2.2.2.2 1 (upd (X.2.2.2.2 1) k (X.2.2.2.2 1 k + 1))) from en_us (X.1, X.2.1, X.2.2.1, X.2.2.2.1, va_up X.2.2.2.2 1 (upd (X.2.2.2.2 1) k (X.2.2.2.2 1 k + 1))) X.2.1]) ?_
              refine rr_go hC bk_X11_passes_90_2 (l' := [(0, .ref 0), (1, .ref 10), (2, .int ((nI k) + 1)), (3, .int (nI (4 + (3 * k))))]) (st' := []) (w' := (W_M p (va_up M 9 (en (X.1, X.2.1, X.2.2.1, X.2.2.2.1, va_up X.2.2.2.2 1 (upd (X.2.2.2.2 1) k (X.2.2.2.2 1 k + 1))))))) rfl ?_
              rw [show ((nI k) + 1 : Int32) = nI (k + 1) from nI_add k 1]
              refine rr_dr 3 (l' := [(0, .ref 0), (1, .ref 10), (2, .int (nI (k + 1)))]) rfl ?_
              have hst : m_X G tc wd q (k + 1) = (X.1, X.2.1, X.2.2.1, X.2.2.2.1, va_up X.2.2.2.2 1 (upd (X.2.2.2.2 1) k (X.2.2.2.2 1 k + 1))) := by rw [m_X_s, hXk]; exact m_st_2n hne (fun z => by rw [hcl, h36] at z; cases z) hs h79
              exact rr_cast (l' := [(0, .ref 0), (1, .ref 10), (2, .int (nI (k + 1)))]) (by rfl) rfl (w' := (W_M p (va_up M 9 (en (m_X G tc wd q (k + 1)))))) (by rw [hst]) (ih (k + 1) (by omega) (by omega))
            · refine rr_go hC bk_X11_passes_82_89 (l' := [(0, .ref 0), (1, .ref 10), (2, .int (nI k)), (3, .int (nI (4 + (3 * k))))]) (st' := [.int 0, .int 1, .ref 10]) (w' := (W_M p (va_up M 9 (en (X.1, X.2.1, X.2.2.1, X.2.2.2.1, va_up X.2.2.2.2 1 (upd (X.2.2.2.2 1) k (X.2.2.2.2 1 k + 1))))))) rfl ?_
              refine rr_go hC bk_X11_passes_89_90 (l' := [(0, .ref 0), (1, .ref 10), (2, .int (nI k)), (3, .int (nI (4 + (3 * k))))]) (st' := []) (w' := (W_M p (va_up M 9 (upd (en (X.1, X.2.1, X.2.2.1, X.2.2.2.1, va_up X.2.2.2.2 1 (upd (X.2.2.2.2 1) k (X.2.2.2.2 1 k + 1)))) 1 0)))) rfl ?_
              refine rr_cast (l' := [(0, .ref 0), (1, .ref 10), (2, .int (nI k)), (3, .int (nI (4 + (3 * k))))]) rfl (st' := []) rfl (w' := (W_M p (va_up M 9 (en (X.1, -1, X.2.2.1, X.2.2.2.1, va_up X.2.2.2.2 1 (upd (X.2.2.2.2 1) k (X.2.2.2.2 1 k + 1))))))) (by rw [show upd (en (X.1, X.2.1, X.2.2.1, X.2.2.2.1, va_up X.2.2.2.2 1 (upd (X.2.2.2.2 1) k (X.2.2.2.2 1 k + 1)))) 1 0 = en (X.1, -1, X.2.2.1, X.2.2.2.1, va_up X.2.2.2.2 1 (upd (X.2.2.2.2 1) k (X.2.2.2.2 1 k + 1))) from en_us0 (X.1, X.2.1, X.2.2.1, X.2.2.2.1, va_up X.2.2.2.2 1 (upd (X.2.2.2.2 1) k (X.2.2.2.2 1 k + 1)))]) ?_
              refine rr_go hC bk_X11_passes_90_2 (l' := [(0, .ref 0), (1, .ref 10), (2, .int ((nI k) + 1)), (3, .int (nI (4 + (3 * k))))]) (st' := []) (w' := (W_M p (va_up M 9 (en (X.1, -1, X.2.2.1, X.2.2.2.1, va_up X.2.2.2.2 1 (upd (X.2.2.2.2 1) k (X.2.2.2.2 1 k + 1))))))) rfl ?_
              rw [show ((nI k) + 1 : Int32) = nI (k + 1) from nI_add k 1]
              refine rr_dr 3 (l' := [(0, .ref 0), (1, .ref 10), (2, .int (nI (k + 1)))]) rfl ?_
              have hst : m_X G tc wd q (k + 1) = (X.1, -1, X.2.2.1, X.2.2.2.1, va_up X.2.2.2.2 1 (upd (X.2.2.2.2 1) k (X.2.2.2.2 1 k + 1))) := by rw [m_X_s, hXk]; exact m_st_2 hne (fun z => by rw [hcl, h36] at z; cases z) hs h79
              exact rr_cast (l' := [(0, .ref 0), (1, .ref 10), (2, .int (nI (k + 1)))]) (by rfl) rfl (w' := (W_M p (va_up M 9 (en (m_X G tc wd q (k + 1)))))) (by rw [hst]) (ih (k + 1) (by omega) (by omega))
        · refine rr_go hC bk_X11_passes_39_41 (l' := [(0, .ref 0), (1, .ref 10), (2, .int (nI k)), (3, .int (nI (4 + (3 * k))))]) (st' := [.int (nI k), .ref 10]) (w' := (W_M p (va_up M 9 (en X)))) rfl ?_
          refine rr_callS hC (by decide +kernel) kl_11_198 fX11_goes (m_goes (fun _ => en X) X rfl k (by omega)) rfl rfl [10] rfl rfl (Eq.refl 1) rfl (rest := []) rfl rfl ⟨Nat.zero_le _, Nat.zero_le _⟩ (w2 := (W_M p (va_up M 9 (en (p_rb X k))))) rfl ?_
          show rr_J Z 4 0 0 _ 44 [(0, .ref 0), (1, .ref 10), (2, .int (nI k)), (3, .int (nI (4 + (3 * k))))] [] (W_M p (va_up M 9 (en (p_rb X k))))
          refine rr_go hC bk_X11_passes_44_2 (l' := [(0, .ref 0), (1, .ref 10), (2, .int ((nI k) + 1)), (3, .int (nI (4 + (3 * k))))]) (st' := []) (w' := (W_M p (va_up M 9 (en (p_rb X k))))) rfl ?_
          rw [show ((nI k) + 1 : Int32) = nI (k + 1) from nI_add k 1]
          refine rr_dr 3 (l' := [(0, .ref 0), (1, .ref 10), (2, .int (nI (k + 1)))]) rfl ?_
          have hst : m_X G tc wd q (k + 1) = (p_rb X k) := by rw [m_X_s, hXk]; exact m_st_1 hne (by rw [hcl]; exact h36)
          exact rr_cast (l' := [(0, .ref 0), (1, .ref 10), (2, .int (nI (k + 1)))]) (by rfl) rfl (w' := (W_M p (va_up M 9 (en (m_X G tc wd q (k + 1)))))) (by rw [hst]) (ih (k + 1) (by omega) (by omega))
  exact rr_cast (l' := [(0, .ref 0), (1, .ref 10), (2, .int (nI 0))]) (by first | rfl | (rfl)) rfl (w' := (W_M p (va_up M 9 (en (m_X G tc wd q 0))))) (by rw [m_X_0, ← hq, va_up_i]) (lp2 (kc - 0) 0 (by omega) (Nat.le_refl _))
set_option maxRecDepth 100000 in
set_option maxHeartbeats 4000000 in
theorem m_passes_tried (p : Nat → Int32) (M : Nat → Nat → Int32) (tc wd cc kc : Nat) (G : Nat → Nat → Int32) (hG : m_G M G tc wd cc kc) (q : p_Q) (hq : M 10 = en q) (htc : tc ≤ 12) (hcc : cc ≤ 9) (hkc : kc ≤ 6) (ht : 0 < cc → 0 < tc) (hh : q.1 < 99999) (hiv : m_iv G cc kc q.2.2.2.2 q.2.1) : rr_C mX11_passes 2 [.ref 0, .ref 11] (W_M p M) 0 0 none (W_M p (va_up M 10 (en (p_pass G tc wd kc q)))) := by
  refine rr_C.of (n := 1) fX11_passes.1 rfl rfl (fun Z hC => ?_)
  show rr_J Z 4 0 0 (rr_MQ Z 0 0 none (W_M p (va_up M 10 (en (p_pass G tc wd kc q))))) 0 [(0, .ref 0), (1, .ref 11)] [] (W_M p M)
  refine rr_go hC bk_X11_passes_0_2 (l' := [(0, .ref 0), (1, .ref 11), (2, .int 0)]) (st' := []) (w' := (W_M p M)) rfl ?_
  have lp2 : ∀ (j k : Nat), k + j = kc → 0 ≤ k → rr_J Z 4 0 0 (rr_MQ Z 0 0 none (W_M p (va_up M 10 (en (p_pass G tc wd kc q))))) 2 [(0, .ref 0), (1, .ref 11), (2, .int (nI k))] [] (W_M p (va_up M 10 (en (m_X G tc wd q k)))) := by
    intro j
    induction j with
    | zero =>
      intro k hk2 hlo2
      refine rr_go hC bk_X11_passes_2_9 (l' := [(0, .ref 0), (1, .ref 11), (2, .int (nI k))]) (st' := [.int (M 1 2), .int (nI k)]) (w' := (W_M p (va_up M 10 (en (m_X G tc wd q k))))) rfl ?_
      rw [show (M 1 2 : Int32) = nI kc from hG.2.2.1]
      refine rr_icmp_ge hC (off := 127) (tgt := 136) (by decide +kernel) (fun h9 => ?_) (fun h9 => by rw [rr_nn_le (by omega) (by omega)] at h9; omega)
      rw [rr_nn_le (by omega) (by omega)] at h9
      have ek : k = kc := by omega
      rw [ek]
      obtain ⟨hivY, hY1⟩ := hiv.X tc wd hkc (n := kc) (Nat.le_refl _)
      show rr_J Z 4 0 0 _ 136 [(0, .ref 0), (1, .ref 11), (2, .int (nI kc))] [] (W_M p (va_up M 10 (en (m_X G tc wd q kc))))
      refine rr_go hC bk_X11_passes_136_143 (l' := [(0, .ref 0), (1, .ref 11), (2, .int (nI kc))]) (st' := []) (w' := (W_M p (va_up M 10 (upd (en (m_X G tc wd q kc)) 0 (((en (m_X G tc wd q kc)) 0) + 1))))) rfl ?_
      refine rr_cast (l' := [(0, .ref 0), (1, .ref 11), (2, .int (nI kc))]) rfl (st' := []) rfl (w' := (W_M p (va_up M 10 (en ((m_X G tc wd q kc).1 + 1, (m_X G tc wd q kc).2.1, (m_X G tc wd q kc).2.2.1, (m_X G tc wd q kc).2.2.2.1, (m_X G tc wd q kc).2.2.2.2))))) (by rw [en_0, nI_1, en_uh]) ?_
      refine rr_go hC bk_X11_passes_143_145 (l' := [(0, .ref 0), (1, .ref 11), (2, .int (nI kc))]) (st' := [.ref 11, .ref 0]) (w' := (W_M p (va_up M 10 (en ((m_X G tc wd q kc).1 + 1, (m_X G tc wd q kc).2.1, (m_X G tc wd q kc).2.2.1, (m_X G tc wd q kc).2.2.2.1, (m_X G tc wd q kc).2.2.2.2))))) rfl ?_
      refine rr_callVI hC (by decide +kernel) kl_11_169 fX11_force (m_force_tried p (va_up M 10 (en ((m_X G tc wd q kc).1 + 1, (m_X G tc wd q kc).2.1, (m_X G tc wd q kc).2.2.1, (m_X G tc wd q kc).2.2.2.1, (m_X G tc wd q kc).2.2.2.2))) tc wd cc kc G (by exact hG) ((m_X G tc wd q kc).1 + 1, (m_X G tc wd q kc).2.1, (m_X G tc wd q kc).2.2.1, (m_X G tc wd q kc).2.2.2.1, (m_X G tc wd q kc).2.2.2.2) rfl (by omega) (by omega) (by omega) (by exact hivY.ok)) rfl rfl rfl rfl rfl (rest := []) rfl rfl ⟨Nat.zero_le _, Nat.zero_le _⟩ (Eq.refl 22) ?_
      show rr_J Z 4 0 0 _ 148 [(0, .ref 0), (1, .ref 11), (2, .int (nI kc))] [.int (p_fs (m_X G tc wd q kc).2.2.2.2 G kc)] (W_M p (va_up M 10 (en ((m_X G tc wd q kc).1 + 1, (m_X G tc wd q kc).2.1, (m_X G tc wd q kc).2.2.1, (m_X G tc wd q kc).2.2.2.1, (m_X G tc wd q kc).2.2.2.2))))
      refine rr_go hC bk_X11_passes_148_153 (l' := [(0, .ref 0), (1, .ref 11), (2, .int (p_fs (m_X G tc wd q kc).2.2.2.2 G kc))]) (st' := [.int ((en ((m_X G tc wd q kc).1 + 1, (m_X G tc wd q kc).2.1, (m_X G tc wd q kc).2.2.1, (m_X G tc wd q kc).2.2.2.1, (m_X G tc wd q kc).2.2.2.2)) 2), .int 2, .ref 11]) (w' := (W_M p (va_up M 10 (en ((m_X G tc wd q kc).1 + 1, (m_X G tc wd q kc).2.1, (m_X G tc wd q kc).2.2.1, (m_X G tc wd q kc).2.2.2.1, (m_X G tc wd q kc).2.2.2.2))))) rfl ?_
      rw [en_2]
      refine rr_go hC bk_X11_passes_153_156 (l' := [(0, .ref 0), (1, .ref 11), (2, .int (p_fs (m_X G tc wd q kc).2.2.2.2 G kc))]) (st' := [.int 0, .int (p_fs (m_X G tc wd q kc).2.2.2.2 G kc), .ref 0, .int ((m_X G tc wd q kc).2.2.1), .int 2, .ref 11]) (w' := (W_M p (va_up M 10 (en ((m_X G tc wd q kc).1 + 1, (m_X G tc wd q kc).2.1, (m_X G tc wd q kc).2.2.1, (m_X G tc wd q kc).2.2.2.1, (m_X G tc wd q kc).2.2.2.2))))) rfl ?_
      refine rr_callVI hC (by decide +kernel) kl_11_205 fX11_worth (m_worth0 p (va_up M 10 (en ((m_X G tc wd q kc).1 + 1, (m_X G tc wd q kc).2.1, (m_X G tc wd q kc).2.2.1, (m_X G tc wd q kc).2.2.2.1, (m_X G tc wd q kc).2.2.2.2))) tc wd cc kc G (by exact hG) (p_fs (m_X G tc wd q kc).2.2.2.2 G kc) (by omega) (by omega) (by omega)) rfl rfl rfl rfl rfl (rest := [.int ((m_X G tc wd q kc).2.2.1), .int 2, .ref 11]) rfl rfl ⟨Nat.zero_le _, Nat.zero_le _⟩ (Eq.refl 22) ?_
      show rr_J Z 4 0 0 _ 159 [(0, .ref 0), (1, .ref 11), (2, .int (p_fs (m_X G tc wd q kc).2.2.2.2 G kc))] [.int (p_sum (p_fs (m_X G tc wd q kc).2.2.2.2 G kc) (G 4) kc), .int ((m_X G tc wd q kc).2.2.1), .int 2, .ref 11] (W_M p (va_up M 10 (en ((m_X G tc wd q kc).1 + 1, (m_X G tc wd q kc).2.1, (m_X G tc wd q kc).2.2.1, (m_X G tc wd q kc).2.2.2.1, (m_X G tc wd q kc).2.2.2.2))))
      refine rr_go hC bk_X11_passes_159_161 (l' := [(0, .ref 0), (1, .ref 11), (2, .int (p_fs (m_X G tc wd q kc).2.2.2.2 G kc))]) (st' := []) (w' := (W_M p (va_up M 10 (upd (en ((m_X G tc wd q kc).1 + 1, (m_X G tc wd q kc).2.1, (m_X G tc wd q kc).2.2.1, (m_X G tc wd q kc).2.2.2.1, (m_X G tc wd q kc).2.2.2.2)) 2 (((m_X G tc wd q kc).2.2.1) + (p_sum (p_fs (m_X G tc wd q kc).2.2.2.2 G kc) (G 4) kc)))))) rfl ?_
      refine rr_cast (l' := [(0, .ref 0), (1, .ref 11), (2, .int (p_fs (m_X G tc wd q kc).2.2.2.2 G kc))]) rfl (st' := []) rfl (w' := (W_M p (va_up M 10 (en ((m_X G tc wd q kc).1 + 1, (m_X G tc wd q kc).2.1, (m_X G tc wd q kc).2.2.1 + p_sum (p_fs (m_X G tc wd q kc).2.2.2.2 G kc) (G 4) kc, (m_X G tc wd q kc).2.2.2.1, (m_X G tc wd q kc).2.2.2.2))))) (by rw [show upd (en ((m_X G tc wd q kc).1 + 1, (m_X G tc wd q kc).2.1, (m_X G tc wd q kc).2.2.1, (m_X G tc wd q kc).2.2.2.1, (m_X G tc wd q kc).2.2.2.2)) 2 ((m_X G tc wd q kc).2.2.1 + (p_sum (p_fs (m_X G tc wd q kc).2.2.2.2 G kc) (G 4) kc)) = en ((m_X G tc wd q kc).1 + 1, (m_X G tc wd q kc).2.1, (m_X G tc wd q kc).2.2.1 + p_sum (p_fs (m_X G tc wd q kc).2.2.2.2 G kc) (G 4) kc, (m_X G tc wd q kc).2.2.2.1, (m_X G tc wd q kc).2.2.2.2) from en_up2 ((m_X G tc wd q kc).1 + 1, (m_X G tc wd q kc).2.1, (m_X G tc wd q kc).2.2.1, (m_X G tc wd q kc).2.2.2.1, (m_X G tc wd q kc).2.2.2.2) ((m_X G tc wd q kc).2.2.1 + (p_sum (p_fs (m_X G tc wd q kc).2.2.2.2 G kc) (G 4) kc))]) ?_
      refine rr_go hC bk_X11_passes_161_165 (l' := [(0, .ref 0), (1, .ref 11), (2, .int (p_fs (m_X G tc wd q kc).2.2.2.2 G kc))]) (st' := [.int ((en ((m_X G tc wd q kc).1 + 1, (m_X G tc wd q kc).2.1, (m_X G tc wd q kc).2.2.1 + p_sum (p_fs (m_X G tc wd q kc).2.2.2.2 G kc) (G 4) kc, (m_X G tc wd q kc).2.2.2.1, (m_X G tc wd q kc).2.2.2.2)) 3), .int 3, .ref 11]) (w' := (W_M p (va_up M 10 (en ((m_X G tc wd q kc).1 + 1, (m_X G tc wd q kc).2.1, (m_X G tc wd q kc).2.2.1 + p_sum (p_fs (m_X G tc wd q kc).2.2.2.2 G kc) (G 4) kc, (m_X G tc wd q kc).2.2.2.1, (m_X G tc wd q kc).2.2.2.2))))) rfl ?_
      rw [en_3]
      refine rr_go hC bk_X11_passes_165_168 (l' := [(0, .ref 0), (1, .ref 11), (2, .int (p_fs (m_X G tc wd q kc).2.2.2.2 G kc))]) (st' := [.int 1, .int (p_fs (m_X G tc wd q kc).2.2.2.2 G kc), .ref 0, .int ((m_X G tc wd q kc).2.2.2.1), .int 3, .ref 11]) (w' := (W_M p (va_up M 10 (en ((m_X G tc wd q kc).1 + 1, (m_X G tc wd q kc).2.1, (m_X G tc wd q kc).2.2.1 + p_sum (p_fs (m_X G tc wd q kc).2.2.2.2 G kc) (G 4) kc, (m_X G tc wd q kc).2.2.2.1, (m_X G tc wd q kc).2.2.2.2))))) rfl ?_
      refine rr_callVI hC (by decide +kernel) kl_11_205 fX11_worth (m_worth1 p (va_up M 10 (en ((m_X G tc wd q kc).1 + 1, (m_X G tc wd q kc).2.1, (m_X G tc wd q kc).2.2.1 + p_sum (p_fs (m_X G tc wd q kc).2.2.2.2 G kc) (G 4) kc, (m_X G tc wd q kc).2.2.2.1, (m_X G tc wd q kc).2.2.2.2))) tc wd cc kc G (by exact hG) (p_fs (m_X G tc wd q kc).2.2.2.2 G kc) (by omega) (by omega) (by omega)) rfl rfl rfl rfl rfl (rest := [.int ((m_X G tc wd q kc).2.2.2.1), .int 3, .ref 11]) rfl rfl ⟨Nat.zero_le _, Nat.zero_le _⟩ (Eq.refl 22) ?_
      show rr_J Z 4 0 0 _ 171 [(0, .ref 0), (1, .ref 11), (2, .int (p_fs (m_X G tc wd q kc).2.2.2.2 G kc))] [.int (p_sum (p_fs (m_X G tc wd q kc).2.2.2.2 G kc) (G 5) kc), .int ((m_X G tc wd q kc).2.2.2.1), .int 3, .ref 11] (W_M p (va_up M 10 (en ((m_X G tc wd q kc).1 + 1, (m_X G tc wd q kc).2.1, (m_X G tc wd q kc).2.2.1 + p_sum (p_fs (m_X G tc wd q kc).2.2.2.2 G kc) (G 4) kc, (m_X G tc wd q kc).2.2.2.1, (m_X G tc wd q kc).2.2.2.2))))
      refine rr_go hC bk_X11_passes_171_173 (l' := [(0, .ref 0), (1, .ref 11), (2, .int (p_fs (m_X G tc wd q kc).2.2.2.2 G kc))]) (st' := []) (w' := (W_M p (va_up M 10 (upd (en ((m_X G tc wd q kc).1 + 1, (m_X G tc wd q kc).2.1, (m_X G tc wd q kc).2.2.1 + p_sum (p_fs (m_X G tc wd q kc).2.2.2.2 G kc) (G 4) kc, (m_X G tc wd q kc).2.2.2.1, (m_X G tc wd q kc).2.2.2.2)) 3 (((m_X G tc wd q kc).2.2.2.1) + (p_sum (p_fs (m_X G tc wd q kc).2.2.2.2 G kc) (G 5) kc)))))) rfl ?_
      refine rr_cast (l' := [(0, .ref 0), (1, .ref 11), (2, .int (p_fs (m_X G tc wd q kc).2.2.2.2 G kc))]) rfl (st' := []) rfl (w' := (W_M p (va_up M 10 (en ((m_X G tc wd q kc).1 + 1, (m_X G tc wd q kc).2.1, (m_X G tc wd q kc).2.2.1 + p_sum (p_fs (m_X G tc wd q kc).2.2.2.2 G kc) (G 4) kc, (m_X G tc wd q kc).2.2.2.1 + p_sum (p_fs (m_X G tc wd q kc).2.2.2.2 G kc) (G 5) kc, (m_X G tc wd q kc).2.2.2.2))))) (by rw [show upd (en ((m_X G tc wd q kc).1 + 1, (m_X G tc wd q kc).2.1, (m_X G tc wd q kc).2.2.1 + p_sum (p_fs (m_X G tc wd q kc).2.2.2.2 G kc) (G 4) kc, (m_X G tc wd q kc).2.2.2.1, (m_X G tc wd q kc).2.2.2.2)) 3 ((m_X G tc wd q kc).2.2.2.1 + (p_sum (p_fs (m_X G tc wd q kc).2.2.2.2 G kc) (G 5) kc)) = en ((m_X G tc wd q kc).1 + 1, (m_X G tc wd q kc).2.1, (m_X G tc wd q kc).2.2.1 + p_sum (p_fs (m_X G tc wd q kc).2.2.2.2 G kc) (G 4) kc, (m_X G tc wd q kc).2.2.2.1 + p_sum (p_fs (m_X G tc wd q kc).2.2.2.2 G kc) (G 5) kc, (m_X G tc wd q kc).2.2.2.2) from en_up3 ((m_X G tc wd q kc).1 + 1, (m_X G tc wd q kc).2.1, (m_X G tc wd q kc).2.2.1 + p_sum (p_fs (m_X G tc wd q kc).2.2.2.2 G kc) (G 4) kc, (m_X G tc wd q kc).2.2.2.1, (m_X G tc wd q kc).2.2.2.2) ((m_X G tc wd q kc).2.2.2.1 + (p_sum (p_fs (m_X G tc wd q kc).2.2.2.2 G kc) (G 5) kc))]) ?_
      exact rr_retv hC (by decide +kernel) (by rw [m_X_pl]; rfl) ⟨Nat.zero_le _, Nat.zero_le _⟩
    | succ j ih =>
      intro k hk2 hlo2
      refine rr_go hC bk_X11_passes_2_9 (l' := [(0, .ref 0), (1, .ref 11), (2, .int (nI k))]) (st' := [.int (M 1 2), .int (nI k)]) (w' := (W_M p (va_up M 10 (en (m_X G tc wd q k))))) rfl ?_
      rw [show (M 1 2 : Int32) = nI kc from hG.2.2.1]
      refine rr_icmp_ge hC (off := 127) (tgt := 136) (by decide +kernel) (fun h9 => by rw [rr_nn_le (by omega) (by omega)] at h9; omega) (fun h9 => ?_)
      rw [rr_nn_le (by omega) (by omega)] at h9
      obtain ⟨hivk, hX1⟩ := hiv.X tc wd hkc (n := k) (by omega)
      generalize hXk : m_X G tc wd q k = X at hivk hX1 ⊢
      show rr_J Z 4 0 0 _ 12 [(0, .ref 0), (1, .ref 11), (2, .int (nI k))] [] (W_M p (va_up M 10 (en X)))
      have hpos := m_pos (x := X.2.2.2.2 0 k) hcc (hivk.1 k (by omega)).1
      refine rr_go hC bk_X11_passes_12_20 (l' := [(0, .ref 0), (1, .ref 11), (2, .int (nI k)), (3, .int (4 + (3 * (nI k))))]) (st' := [.int (4 + (3 * (nI k))), .ref 11]) (w' := (W_M p (va_up M 10 (en X)))) rfl ?_
      rw [show (3 * (nI k) : Int32) = nI (3 * k) from pk_mul 3 k]
      rw [show (4 + (nI (3 * k)) : Int32) = nI (4 + (3 * k)) from nI_add 4 (3 * k)]
      refine rr_iald hC (4 + (3 * k)) (by decide +kernel) rfl rfl (by omega) rfl ?_
      show rr_J Z 4 0 0 _ 21 [(0, .ref 0), (1, .ref 11), (2, .int (nI k)), (3, .int (nI (4 + (3 * k))))] [.int ((en X) (4 + (3 * k)))] (W_M p (va_up M 10 (en X)))
      rw [en_c X (show k < 6 by omega)]
      refine rr_if_le hC (off := 26) (tgt := 47) (by decide +kernel) (fun h21 => ?_) (fun h21 => ?_)
      · refine rr_go hC bk_X11_passes_47_49 (l' := [(0, .ref 0), (1, .ref 11), (2, .int (nI k)), (3, .int (nI (4 + (3 * k))))]) (st' := [.int (nI (4 + (3 * k))), .ref 11]) (w' := (W_M p (va_up M 10 (en X)))) rfl ?_
        refine rr_iald hC (4 + (3 * k)) (by decide +kernel) rfl rfl (by omega) rfl ?_
        show rr_J Z 4 0 0 _ 50 [(0, .ref 0), (1, .ref 11), (2, .int (nI k)), (3, .int (nI (4 + (3 * k))))] [.int ((en X) (4 + (3 * k)))] (W_M p (va_up M 10 (en X)))
        rw [en_c X (show k < 6 by omega)]
        refine rr_if_le hC (off := 43) (tgt := 93) (by decide +kernel) (fun h50 => ?_) (fun h50 => by  exact absurd h21 h50)
        refine rr_go hC bk_X11_passes_93_96 (l' := [(0, .ref 0), (1, .ref 11), (2, .int (nI k)), (3, .int (nI (4 + (3 * k))))]) (st' := [.int (nI k), .ref 11, .ref 0]) (w' := (W_M p (va_up M 10 (en X)))) rfl ?_
        refine rr_callVI hC (by decide +kernel) kl_11_155 fX11_isDone (m_isDone_tried p (va_up M 10 (en X)) tc wd cc kc G (by exact hG) X rfl k (by omega) (by omega) (by omega) (by omega) hivk.ok) rfl rfl rfl rfl rfl (rest := []) rfl rfl ⟨Nat.zero_le _, Nat.zero_le _⟩ (Eq.refl 22) ?_
        show rr_J Z 4 0 0 _ 99 [(0, .ref 0), (1, .ref 11), (2, .int (nI k)), (3, .int (nI (4 + (3 * k))))] [.int (rr_b (p_done X.2.2.2.2 G k))] (W_M p (va_up M 10 (en X)))
        refine rr_eqb hC (off := 31) (tgt := 130) (by decide +kernel) (fun h99 => ?_) (fun h99 => by  unfold p_done at h99; rw [decide_eq_true (hpos.mp h21)] at h99; cases h99)
        refine rr_go hC bk_X11_passes_130_2 (l' := [(0, .ref 0), (1, .ref 11), (2, .int ((nI k) + 1)), (3, .int (nI (4 + (3 * k))))]) (st' := []) (w' := (W_M p (va_up M 10 (en X)))) rfl ?_
        rw [show ((nI k) + 1 : Int32) = nI (k + 1) from nI_add k 1]
        refine rr_dr 3 (l' := [(0, .ref 0), (1, .ref 11), (2, .int (nI (k + 1)))]) rfl ?_
        have hst : m_X G tc wd q (k + 1) = X := by rw [m_X_s, hXk]; exact m_st_0 (hpos.mp h21)
        exact rr_cast (l' := [(0, .ref 0), (1, .ref 11), (2, .int (nI (k + 1)))]) (by rfl) rfl (w' := (W_M p (va_up M 10 (en (m_X G tc wd q (k + 1)))))) (by rw [hst]) (ih (k + 1) (by omega) (by omega))
      · obtain ⟨cq, hcq, hcs⟩ := ((hivk.1 k (by omega)).1.resolve_left (fun z => h21 (hpos.mpr z))).2
        have hne : ¬ X.2.2.2.2 0 k = -1 := fun z => h21 (hpos.mpr z)
        have ht2 : 0 < tc := ht (by omega)
        have hcl : (X.2.2.2.2 0 k).toNatClampNeg = cq := by rw [hcs]; exact nI_clamp (by omega)
        refine rr_go hC bk_X11_passes_24_27 (l' := [(0, .ref 0), (1, .ref 11), (2, .int (nI k)), (3, .int (nI (4 + (3 * k))))]) (st' := [.int (nI (4 + (3 * k))), .ref 11, .ref 0]) (w' := (W_M p (va_up M 10 (en X)))) rfl ?_
        refine rr_iald hC (4 + (3 * k)) (by decide +kernel) rfl rfl (by omega) rfl ?_
        show rr_J Z 4 0 0 _ 28 [(0, .ref 0), (1, .ref 11), (2, .int (nI k)), (3, .int (nI (4 + (3 * k))))] [.int ((en X) (4 + (3 * k))), .ref 0] (W_M p (va_up M 10 (en X)))
        rw [en_c X (show k < 6 by omega), hcs, nI_1]
        refine rr_go hC bk_X11_passes_28_30 (l' := [(0, .ref 0), (1, .ref 11), (2, .int (nI k)), (3, .int (nI (4 + (3 * k))))]) (st' := [.int ((nI (cq + 1)) - 1), .ref 0]) (w' := (W_M p (va_up M 10 (en X)))) rfl ?_
        rw [show ((nI (cq + 1)) - 1 : Int32) = nI ((cq + 1) - 1) from pk_sub (a := cq + 1) (b := 1) (by omega)]
        rw [show (cq + 1) - 1 = cq from rfl]
        refine rr_go hC bk_X11_passes_30_33 (l' := [(0, .ref 0), (1, .ref 11), (2, .int (nI k)), (3, .int (nI (4 + (3 * k))))]) (st' := [.int ((en X) 0), .int (nI cq), .ref 0]) (w' := (W_M p (va_up M 10 (en X)))) rfl ?_
        rw [show ((en X) 0 : Int32) = nI X.1 from en_0 X]
        refine rr_callVI hC (by decide +kernel) kl_11_151 fX11_isWet (m_isWet p (va_up M 10 (en X)) tc wd cc kc G (by exact hG) cq X.1 (by omega) (by omega) (by omega) (by omega) (by omega) (by omega)) rfl rfl rfl rfl rfl (rest := []) rfl rfl ⟨Nat.zero_le _, Nat.zero_le _⟩ (Eq.refl 22) ?_
        show rr_J Z 4 0 0 _ 36 [(0, .ref 0), (1, .ref 11), (2, .int (nI k)), (3, .int (nI (4 + (3 * k))))] [.int (rr_b (p_wet G tc cq X.1))] (W_M p (va_up M 10 (en X)))
        refine rr_eqb hC (off := 11) (tgt := 47) (by decide +kernel) (fun h36 => ?_) (fun h36 => ?_)
        · refine rr_go hC bk_X11_passes_47_49 (l' := [(0, .ref 0), (1, .ref 11), (2, .int (nI k)), (3, .int (nI (4 + (3 * k))))]) (st' := [.int (nI (4 + (3 * k))), .ref 11]) (w' := (W_M p (va_up M 10 (en X)))) rfl ?_
          refine rr_iald hC (4 + (3 * k)) (by decide +kernel) rfl rfl (by omega) rfl ?_
          show rr_J Z 4 0 0 _ 50 [(0, .ref 0), (1, .ref 11), (2, .int (nI k)), (3, .int (nI (4 + (3 * k))))] [.int ((en X) (4 + (3 * k)))] (W_M p (va_up M 10 (en X)))
          rw [en_c X (show k < 6 by omega)]
          refine rr_if_le hC (off := 43) (tgt := 93) (by decide +kernel) (fun h50 => by  exact absurd h50 h21) (fun h50 => ?_)
          refine rr_go hC bk_X11_passes_53_56 (l' := [(0, .ref 0), (1, .ref 11), (2, .int (nI k)), (3, .int (nI (4 + (3 * k))))]) (st' := [.int ((en X) 1)]) (w' := (W_M p (va_up M 10 (en X)))) rfl ?_
          rw [en_1]
          refine rr_go hC bk_X11_passes_56_59 (l' := [(0, .ref 0), (1, .ref 11), (2, .int (nI k)), (3, .int (nI (4 + (3 * k))))]) (st' := [.int ((nI k) + 1), .int (X.2.1 + 1)]) (w' := (W_M p (va_up M 10 (en X)))) rfl ?_
          rw [show ((nI k) + 1 : Int32) = nI (k + 1) from nI_add k 1]
          refine rr_icmp_ne hC (off := 34) (tgt := 93) (by decide +kernel) (fun h59 => ?_) (fun h59 => ?_)
          · have hns : ¬ X.2.1 = nI k := fun z => h59 (by rw [z, nI_1])
            refine rr_go hC bk_X11_passes_93_96 (l' := [(0, .ref 0), (1, .ref 11), (2, .int (nI k)), (3, .int (nI (4 + (3 * k))))]) (st' := [.int (nI k), .ref 11, .ref 0]) (w' := (W_M p (va_up M 10 (en X)))) rfl ?_
            refine rr_callVI hC (by decide +kernel) kl_11_155 fX11_isDone (m_isDone_tried p (va_up M 10 (en X)) tc wd cc kc G (by exact hG) X rfl k (by omega) (by omega) (by omega) (by omega) hivk.ok) rfl rfl rfl rfl rfl (rest := []) rfl rfl ⟨Nat.zero_le _, Nat.zero_le _⟩ (Eq.refl 22) ?_
            show rr_J Z 4 0 0 _ 99 [(0, .ref 0), (1, .ref 11), (2, .int (nI k)), (3, .int (nI (4 + (3 * k))))] [.int (rr_b (p_done X.2.2.2.2 G k))] (W_M p (va_up M 10 (en X)))
            refine rr_eqb hC (off := 31) (tgt := 130) (by decide +kernel) (fun h99 => ?_) (fun h99 => ?_)
            · refine rr_go hC bk_X11_passes_130_2 (l' := [(0, .ref 0), (1, .ref 11), (2, .int ((nI k) + 1)), (3, .int (nI (4 + (3 * k))))]) (st' := []) (w' := (W_M p (va_up M 10 (en X)))) rfl ?_
              rw [show ((nI k) + 1 : Int32) = nI (k + 1) from nI_add k 1]
              refine rr_dr 3 (l' := [(0, .ref 0), (1, .ref 11), (2, .int (nI (k + 1)))]) rfl ?_
              have hst : m_X G tc wd q (k + 1) = X := by rw [m_X_s, hXk]; exact m_st_4 hne (fun z => by rw [hcl, h36] at z; cases z) hns h99
              exact rr_cast (l' := [(0, .ref 0), (1, .ref 11), (2, .int (nI (k + 1)))]) (by rfl) rfl (w' := (W_M p (va_up M 10 (en (m_X G tc wd q (k + 1)))))) (by rw [hst]) (ih (k + 1) (by omega) (by omega))
            · refine rr_go hC bk_X11_passes_102_107 (l' := [(0, .ref 0), (1, .ref 11), (2, .int (nI k)), (3, .int (nI (4 + (3 * k))))]) (st' := [.int ((nI (4 + (3 * k))) + 2), .ref 11, .int ((nI (4 + (3 * k))) + 2), .ref 11]) (w' := (W_M p (va_up M 10 (en X)))) rfl ?_
              rw [show ((nI (4 + (3 * k))) + 2 : Int32) = nI ((4 + (3 * k)) + 2) from nI_add (4 + (3 * k)) 2]
              refine rr_iald hC ((4 + (3 * k)) + 2) (by decide +kernel) rfl rfl (by omega) rfl ?_
              show rr_J Z 4 0 0 _ 108 [(0, .ref 0), (1, .ref 11), (2, .int (nI k)), (3, .int (nI (4 + (3 * k))))] [.int ((en X) ((4 + (3 * k)) + 2)), .int (nI ((4 + (3 * k)) + 2)), .ref 11] (W_M p (va_up M 10 (en X)))
              rw [en_d X (show k < 6 by omega)]
              refine rr_go hC bk_X11_passes_108_110 (l' := [(0, .ref 0), (1, .ref 11), (2, .int (nI k)), (3, .int (nI (4 + (3 * k))))]) (st' := [.int ((X.2.2.2.2 2 k) + 1), .int (nI ((4 + (3 * k)) + 2)), .ref 11]) (w' := (W_M p (va_up M 10 (en X)))) rfl ?_
              refine rr_iast hC ((4 + (3 * k)) + 2) (by decide +kernel) rfl rfl (by omega) rfl (w' := (W_M p (va_up M 10 (upd (en X) ((4 + (3 * k)) + 2) ((X.2.2.2.2 2 k) + 1))))) rfl ?_
              show rr_J Z 4 0 0 _ 111 [(0, .ref 0), (1, .ref 11), (2, .int (nI k)), (3, .int (nI (4 + (3 * k))))] [] (W_M p (va_up M 10 (upd (en X) ((4 + (3 * k)) + 2) ((X.2.2.2.2 2 k) + 1))))
              refine rr_cast (l' := [(0, .ref 0), (1, .ref 11), (2, .int (nI k)), (3, .int (nI (4 + (3 * k))))]) rfl (st' := []) rfl (w' := (W_M p (va_up M 10 (en (X.1, X.2.1, X.2.2.1, X.2.2.2.1, va_up X.2.2.2.2 2 (upd (X.2.2.2.2 2) k (X.2.2.2.2 2 k + 1))))))) (by rw [en_u2 X (show k < 6 by omega)]) ?_
              refine rr_go hC bk_X11_passes_111_115 (l' := [(0, .ref 0), (1, .ref 11), (2, .int (nI k)), (3, .int (nI (4 + (3 * k))))]) (st' := [.int ((nI (4 + (3 * k))) + 2), .ref 11]) (w' := (W_M p (va_up M 10 (en (X.1, X.2.1, X.2.2.1, X.2.2.2.1, va_up X.2.2.2.2 2 (upd (X.2.2.2.2 2) k (X.2.2.2.2 2 k + 1))))))) rfl ?_
              rw [show ((nI (4 + (3 * k))) + 2 : Int32) = nI ((4 + (3 * k)) + 2) from nI_add (4 + (3 * k)) 2]
              refine rr_iald hC ((4 + (3 * k)) + 2) (by decide +kernel) rfl rfl (by omega) rfl ?_
              show rr_J Z 4 0 0 _ 116 [(0, .ref 0), (1, .ref 11), (2, .int (nI k)), (3, .int (nI (4 + (3 * k))))] [.int ((en (X.1, X.2.1, X.2.2.1, X.2.2.2.1, va_up X.2.2.2.2 2 (upd (X.2.2.2.2 2) k (X.2.2.2.2 2 k + 1)))) ((4 + (3 * k)) + 2))] (W_M p (va_up M 10 (en (X.1, X.2.1, X.2.2.1, X.2.2.2.1, va_up X.2.2.2.2 2 (upd (X.2.2.2.2 2) k (X.2.2.2.2 2 k + 1))))))
              rw [show (en (X.1, X.2.1, X.2.2.1, X.2.2.2.1, va_up X.2.2.2.2 2 (upd (X.2.2.2.2 2) k (X.2.2.2.2 2 k + 1)))) ((4 + (3 * k)) + 2) = X.2.2.2.2 2 k + 1 from (en_d _ (show k < 6 by omega)).trans pk_us]
              refine rr_go hC bk_X11_passes_116_122 (l' := [(0, .ref 0), (1, .ref 11), (2, .int (nI k)), (3, .int (nI (4 + (3 * k))))]) (st' := [.int (M 1 3), .int (X.2.2.2.2 2 k + 1)]) (w' := (W_M p (va_up M 10 (en (X.1, X.2.1, X.2.2.1, X.2.2.2.1, va_up X.2.2.2.2 2 (upd (X.2.2.2.2 2) k (X.2.2.2.2 2 k + 1))))))) rfl ?_
              rw [show (M 1 3 : Int32) = nI wd from hG.2.2.2.1]
              refine rr_icmp_le hC (off := 8) (tgt := 130) (by decide +kernel) (fun h122 => ?_) (fun h122 => ?_)
              · refine rr_go hC bk_X11_passes_130_2 (l' := [(0, .ref 0), (1, .ref 11), (2, .int ((nI k) + 1)), (3, .int (nI (4 + (3 * k))))]) (st' := []) (w' := (W_M p (va_up M 10 (en (X.1, X.2.1, X.2.2.1, X.2.2.2.1, va_up X.2.2.2.2 2 (upd (X.2.2.2.2 2) k (X.2.2.2.2 2 k + 1))))))) rfl ?_
                rw [show ((nI k) + 1 : Int32) = nI (k + 1) from nI_add k 1]
                refine rr_dr 3 (l' := [(0, .ref 0), (1, .ref 11), (2, .int (nI (k + 1)))]) rfl ?_
                have hst : m_X G tc wd q (k + 1) = (X.1, X.2.1, X.2.2.1, X.2.2.2.1, va_up X.2.2.2.2 2 (upd (X.2.2.2.2 2) k (X.2.2.2.2 2 k + 1))) := by rw [m_X_s, hXk]; exact m_st_3 hne (fun z => by rw [hcl, h36] at z; cases z) hns h99 h122
                exact rr_cast (l' := [(0, .ref 0), (1, .ref 11), (2, .int (nI (k + 1)))]) (by rfl) rfl (w' := (W_M p (va_up M 10 (en (m_X G tc wd q (k + 1)))))) (by rw [hst]) (ih (k + 1) (by omega) (by omega))
              · refine rr_go hC bk_X11_passes_125_127 (l' := [(0, .ref 0), (1, .ref 11), (2, .int (nI k)), (3, .int (nI (4 + (3 * k))))]) (st' := [.int (nI k), .ref 11]) (w' := (W_M p (va_up M 10 (en (X.1, X.2.1, X.2.2.1, X.2.2.2.1, va_up X.2.2.2.2 2 (upd (X.2.2.2.2 2) k (X.2.2.2.2 2 k + 1))))))) rfl ?_
                refine rr_callS hC (by decide +kernel) kl_11_198 fX11_goes (m_goes (fun _ => en (X.1, X.2.1, X.2.2.1, X.2.2.2.1, va_up X.2.2.2.2 2 (upd (X.2.2.2.2 2) k (X.2.2.2.2 2 k + 1)))) (X.1, X.2.1, X.2.2.1, X.2.2.2.1, va_up X.2.2.2.2 2 (upd (X.2.2.2.2 2) k (X.2.2.2.2 2 k + 1))) rfl k (by omega)) rfl rfl [11] rfl rfl (Eq.refl 1) rfl (rest := []) rfl rfl ⟨Nat.zero_le _, Nat.zero_le _⟩ (w2 := (W_M p (va_up M 10 (en (p_rb (X.1, X.2.1, X.2.2.1, X.2.2.2.1, va_up X.2.2.2.2 2 (upd (X.2.2.2.2 2) k (X.2.2.2.2 2 k + 1))) k))))) rfl ?_
                show rr_J Z 4 0 0 _ 130 [(0, .ref 0), (1, .ref 11), (2, .int (nI k)), (3, .int (nI (4 + (3 * k))))] [] (W_M p (va_up M 10 (en (p_rb (X.1, X.2.1, X.2.2.1, X.2.2.2.1, va_up X.2.2.2.2 2 (upd (X.2.2.2.2 2) k (X.2.2.2.2 2 k + 1))) k))))
                refine rr_go hC bk_X11_passes_130_2 (l' := [(0, .ref 0), (1, .ref 11), (2, .int ((nI k) + 1)), (3, .int (nI (4 + (3 * k))))]) (st' := []) (w' := (W_M p (va_up M 10 (en (p_rb (X.1, X.2.1, X.2.2.1, X.2.2.2.1, va_up X.2.2.2.2 2 (upd (X.2.2.2.2 2) k (X.2.2.2.2 2 k + 1))) k))))) rfl ?_
                rw [show ((nI k) + 1 : Int32) = nI (k + 1) from nI_add k 1]
                refine rr_dr 3 (l' := [(0, .ref 0), (1, .ref 11), (2, .int (nI (k + 1)))]) rfl ?_
                have hst : m_X G tc wd q (k + 1) = (p_rb (X.1, X.2.1, X.2.2.1, X.2.2.2.1, va_up X.2.2.2.2 2 (upd (X.2.2.2.2 2) k (X.2.2.2.2 2 k + 1))) k) := by rw [m_X_s, hXk]; exact m_st_3n hne (fun z => by rw [hcl, h36] at z; cases z) hns h99 h122
                exact rr_cast (l' := [(0, .ref 0), (1, .ref 11), (2, .int (nI (k + 1)))]) (by rfl) rfl (w' := (W_M p (va_up M 10 (en (m_X G tc wd q (k + 1)))))) (by rw [hst]) (ih (k + 1) (by omega) (by omega))
          · have hs : X.2.1 = nI k := p_i1.mp (h59.trans (nI_succ k))
            refine rr_go hC bk_X11_passes_62_67 (l' := [(0, .ref 0), (1, .ref 11), (2, .int (nI k)), (3, .int (nI (4 + (3 * k))))]) (st' := [.int ((nI (4 + (3 * k))) + 1), .ref 11, .int ((nI (4 + (3 * k))) + 1), .ref 11]) (w' := (W_M p (va_up M 10 (en X)))) rfl ?_
            rw [show ((nI (4 + (3 * k))) + 1 : Int32) = nI ((4 + (3 * k)) + 1) from nI_add (4 + (3 * k)) 1]
            refine rr_iald hC ((4 + (3 * k)) + 1) (by decide +kernel) rfl rfl (by omega) rfl ?_
            show rr_J Z 4 0 0 _ 68 [(0, .ref 0), (1, .ref 11), (2, .int (nI k)), (3, .int (nI (4 + (3 * k))))] [.int ((en X) ((4 + (3 * k)) + 1)), .int (nI ((4 + (3 * k)) + 1)), .ref 11] (W_M p (va_up M 10 (en X)))
            rw [en_w X (show k < 6 by omega)]
            refine rr_go hC bk_X11_passes_68_70 (l' := [(0, .ref 0), (1, .ref 11), (2, .int (nI k)), (3, .int (nI (4 + (3 * k))))]) (st' := [.int ((X.2.2.2.2 1 k) + 1), .int (nI ((4 + (3 * k)) + 1)), .ref 11]) (w' := (W_M p (va_up M 10 (en X)))) rfl ?_
            refine rr_iast hC ((4 + (3 * k)) + 1) (by decide +kernel) rfl rfl (by omega) rfl (w' := (W_M p (va_up M 10 (upd (en X) ((4 + (3 * k)) + 1) ((X.2.2.2.2 1 k) + 1))))) rfl ?_
            show rr_J Z 4 0 0 _ 71 [(0, .ref 0), (1, .ref 11), (2, .int (nI k)), (3, .int (nI (4 + (3 * k))))] [] (W_M p (va_up M 10 (upd (en X) ((4 + (3 * k)) + 1) ((X.2.2.2.2 1 k) + 1))))
            refine rr_cast (l' := [(0, .ref 0), (1, .ref 11), (2, .int (nI k)), (3, .int (nI (4 + (3 * k))))]) rfl (st' := []) rfl (w' := (W_M p (va_up M 10 (en (X.1, X.2.1, X.2.2.1, X.2.2.2.1, va_up X.2.2.2.2 1 (upd (X.2.2.2.2 1) k (X.2.2.2.2 1 k + 1))))))) (by rw [en_u1 X (show k < 6 by omega)]) ?_
            refine rr_go hC bk_X11_passes_71_76 (l' := [(0, .ref 0), (1, .ref 11), (2, .int (nI k)), (3, .int (nI (4 + (3 * k))))]) (st' := [.int (nI k), .ref 11, .ref 0, .int 1, .ref 11]) (w' := (W_M p (va_up M 10 (en (X.1, X.2.1, X.2.2.1, X.2.2.2.1, va_up X.2.2.2.2 1 (upd (X.2.2.2.2 1) k (X.2.2.2.2 1 k + 1))))))) rfl ?_
            refine rr_callVI hC (by decide +kernel) kl_11_155 fX11_isDone (m_isDone_tried p (va_up M 10 (en (X.1, X.2.1, X.2.2.1, X.2.2.2.1, va_up X.2.2.2.2 1 (upd (X.2.2.2.2 1) k (X.2.2.2.2 1 k + 1))))) tc wd cc kc G (by exact hG) (X.1, X.2.1, X.2.2.1, X.2.2.2.1, va_up X.2.2.2.2 1 (upd (X.2.2.2.2 1) k (X.2.2.2.2 1 k + 1))) rfl k (by omega) (by omega) (by omega) (by omega) (hivk.w1 (by omega) hkc hs)) rfl rfl rfl rfl rfl (rest := [.int 1, .ref 11]) rfl rfl ⟨Nat.zero_le _, Nat.zero_le _⟩ (Eq.refl 22) ?_
            show rr_J Z 4 0 0 _ 79 [(0, .ref 0), (1, .ref 11), (2, .int (nI k)), (3, .int (nI (4 + (3 * k))))] [.int (rr_b (p_done (va_up X.2.2.2.2 1 (upd (X.2.2.2.2 1) k (X.2.2.2.2 1 k + 1))) G k)), .int 1, .ref 11] (W_M p (va_up M 10 (en (X.1, X.2.1, X.2.2.1, X.2.2.2.1, va_up X.2.2.2.2 1 (upd (X.2.2.2.2 1) k (X.2.2.2.2 1 k + 1))))))
            refine rr_eqb hC (off := 7) (tgt := 86) (by decide +kernel) (fun h79 => ?_) (fun h79 => ?_)
            · refine rr_go hC bk_X11_passes_86_89 (l' := [(0, .ref 0), (1, .ref 11), (2, .int (nI k)), (3, .int (nI (4 + (3 * k))))]) (st' := [.int ((en (X.1, X.2.1, X.2.2.1, X.2.2.2.1, va_up X.2.2.2.2 1 (upd (X.2.2.2.2 1) k (X.2.2.2.2 1 k + 1)))) 1), .int 1, .ref 11]) (w' := (W_M p (va_up M 10 (en (X.1, X.2.1, X.2.2.1, X.2.2.2.1, va_up X.2.2.2.2 1 (upd (X.2.2.2.2 1) k (X.2.2.2.2 1 k + 1))))))) rfl ?_
              rw [en_1]
              refine rr_go hC bk_X11_passes_89_90 (l' := [(0, .ref 0), (1, .ref 11), (2, .int (nI k)), (3, .int (nI (4 + (3 * k))))]) (st' := []) (w' := (W_M p (va_up M 10 (upd (en (X.1, X.2.1, X.2.2.1, X.2.2.2.1, va_up X.2.2.2.2 1 (upd (X.2.2.2.2 1) k (X.2.2.2.2 1 k + 1)))) 1 (X.2.1 + 1))))) rfl ?_
              refine rr_cast (l' := [(0, .ref 0), (1, .ref 11), (2, .int (nI k)), (3, .int (nI (4 + (3 * k))))]) rfl (st' := []) rfl (w' := (W_M p (va_up M 10 (en (X.1, X.2.1, X.2.2.1, X.2.2.2.1, va_up X.2.2.2.2 1 (upd (X.2.2.2.2 1) k (X.2.2.2.2 1 k + 1))))))) (by rw [show upd (en (X.1, X.2.1, X.2.2.1, X.2.2.2.1, va_up X.2.2.2.2 1 (upd (X.2.2.2.2 1) k (X.2.2.2.2 1 k + 1)))) 1 (X.2.1 + 1) = en (X.1, X.2.1, X.2.2.1, X.2.2.2.1, va_up X.2.2.2.2 1 (upd (X.2.2.2.2 1) k (X.2.2.2.2 1 k + 1))) from en_us (X.1, X.2.1, X.2.2.1, X.2.2.2.1, va_up X.2.2.2.2 1 (upd (X.2.2.2.2 1) k (X.2.2.2.2 1 k + 1))) X.2.1]) ?_
              refine rr_go hC bk_X11_passes_90_2 (l' := [(0, .ref 0), (1, .ref 11), (2, .int ((nI k) + 1)), (3, .int (nI (4 + (3 * k))))]) (st' := []) (w' := (W_M p (va_up M 10 (en (X.1, X.2.1, X.2.2.1, X.2.2.2.1, va_up X.2.2.2.2 1 (upd (X.2.2.2.2 1) k (X.2.2.2.2 1 k + 1))))))) rfl ?_
              rw [show ((nI k) + 1 : Int32) = nI (k + 1) from nI_add k 1]
              refine rr_dr 3 (l' := [(0, .ref 0), (1, .ref 11), (2, .int (nI (k + 1)))]) rfl ?_
              have hst : m_X G tc wd q (k + 1) = (X.1, X.2.1, X.2.2.1, X.2.2.2.1, va_up X.2.2.2.2 1 (upd (X.2.2.2.2 1) k (X.2.2.2.2 1 k + 1))) := by rw [m_X_s, hXk]; exact m_st_2n hne (fun z => by rw [hcl, h36] at z; cases z) hs h79
              exact rr_cast (l' := [(0, .ref 0), (1, .ref 11), (2, .int (nI (k + 1)))]) (by rfl) rfl (w' := (W_M p (va_up M 10 (en (m_X G tc wd q (k + 1)))))) (by rw [hst]) (ih (k + 1) (by omega) (by omega))
            · refine rr_go hC bk_X11_passes_82_89 (l' := [(0, .ref 0), (1, .ref 11), (2, .int (nI k)), (3, .int (nI (4 + (3 * k))))]) (st' := [.int 0, .int 1, .ref 11]) (w' := (W_M p (va_up M 10 (en (X.1, X.2.1, X.2.2.1, X.2.2.2.1, va_up X.2.2.2.2 1 (upd (X.2.2.2.2 1) k (X.2.2.2.2 1 k + 1))))))) rfl ?_
              refine rr_go hC bk_X11_passes_89_90 (l' := [(0, .ref 0), (1, .ref 11), (2, .int (nI k)), (3, .int (nI (4 + (3 * k))))]) (st' := []) (w' := (W_M p (va_up M 10 (upd (en (X.1, X.2.1, X.2.2.1, X.2.2.2.1, va_up X.2.2.2.2 1 (upd (X.2.2.2.2 1) k (X.2.2.2.2 1 k + 1)))) 1 0)))) rfl ?_
              refine rr_cast (l' := [(0, .ref 0), (1, .ref 11), (2, .int (nI k)), (3, .int (nI (4 + (3 * k))))]) rfl (st' := []) rfl (w' := (W_M p (va_up M 10 (en (X.1, -1, X.2.2.1, X.2.2.2.1, va_up X.2.2.2.2 1 (upd (X.2.2.2.2 1) k (X.2.2.2.2 1 k + 1))))))) (by rw [show upd (en (X.1, X.2.1, X.2.2.1, X.2.2.2.1, va_up X.2.2.2.2 1 (upd (X.2.2.2.2 1) k (X.2.2.2.2 1 k + 1)))) 1 0 = en (X.1, -1, X.2.2.1, X.2.2.2.1, va_up X.2.2.2.2 1 (upd (X.2.2.2.2 1) k (X.2.2.2.2 1 k + 1))) from en_us0 (X.1, X.2.1, X.2.2.1, X.2.2.2.1, va_up X.2.2.2.2 1 (upd (X.2.2.2.2 1) k (X.2.2.2.2 1 k + 1)))]) ?_
              refine rr_go hC bk_X11_passes_90_2 (l' := [(0, .ref 0), (1, .ref 11), (2, .int ((nI k) + 1)), (3, .int (nI (4 + (3 * k))))]) (st' := []) (w' := (W_M p (va_up M 10 (en (X.1, -1, X.2.2.1, X.2.2.2.1, va_up X.2.2.2.2 1 (upd (X.2.2.2.2 1) k (X.2.2.2.2 1 k + 1))))))) rfl ?_
              rw [show ((nI k) + 1 : Int32) = nI (k + 1) from nI_add k 1]
              refine rr_dr 3 (l' := [(0, .ref 0), (1, .ref 11), (2, .int (nI (k + 1)))]) rfl ?_
              have hst : m_X G tc wd q (k + 1) = (X.1, -1, X.2.2.1, X.2.2.2.1, va_up X.2.2.2.2 1 (upd (X.2.2.2.2 1) k (X.2.2.2.2 1 k + 1))) := by rw [m_X_s, hXk]; exact m_st_2 hne (fun z => by rw [hcl, h36] at z; cases z) hs h79
              exact rr_cast (l' := [(0, .ref 0), (1, .ref 11), (2, .int (nI (k + 1)))]) (by rfl) rfl (w' := (W_M p (va_up M 10 (en (m_X G tc wd q (k + 1)))))) (by rw [hst]) (ih (k + 1) (by omega) (by omega))
        · refine rr_go hC bk_X11_passes_39_41 (l' := [(0, .ref 0), (1, .ref 11), (2, .int (nI k)), (3, .int (nI (4 + (3 * k))))]) (st' := [.int (nI k), .ref 11]) (w' := (W_M p (va_up M 10 (en X)))) rfl ?_
          refine rr_callS hC (by decide +kernel) kl_11_198 fX11_goes (m_goes (fun _ => en X) X rfl k (by omega)) rfl rfl [11] rfl rfl (Eq.refl 1) rfl (rest := []) rfl rfl ⟨Nat.zero_le _, Nat.zero_le _⟩ (w2 := (W_M p (va_up M 10 (en (p_rb X k))))) rfl ?_
          show rr_J Z 4 0 0 _ 44 [(0, .ref 0), (1, .ref 11), (2, .int (nI k)), (3, .int (nI (4 + (3 * k))))] [] (W_M p (va_up M 10 (en (p_rb X k))))
          refine rr_go hC bk_X11_passes_44_2 (l' := [(0, .ref 0), (1, .ref 11), (2, .int ((nI k) + 1)), (3, .int (nI (4 + (3 * k))))]) (st' := []) (w' := (W_M p (va_up M 10 (en (p_rb X k))))) rfl ?_
          rw [show ((nI k) + 1 : Int32) = nI (k + 1) from nI_add k 1]
          refine rr_dr 3 (l' := [(0, .ref 0), (1, .ref 11), (2, .int (nI (k + 1)))]) rfl ?_
          have hst : m_X G tc wd q (k + 1) = (p_rb X k) := by rw [m_X_s, hXk]; exact m_st_1 hne (by rw [hcl]; exact h36)
          exact rr_cast (l' := [(0, .ref 0), (1, .ref 11), (2, .int (nI (k + 1)))]) (by rfl) rfl (w' := (W_M p (va_up M 10 (en (m_X G tc wd q (k + 1)))))) (by rw [hst]) (ih (k + 1) (by omega) (by omega))
  exact rr_cast (l' := [(0, .ref 0), (1, .ref 11), (2, .int (nI 0))]) (by first | rfl | (rfl)) rfl (w' := (W_M p (va_up M 10 (en (m_X G tc wd q 0))))) (by rw [m_X_0, ← hq, va_up_i]) (lp2 (kc - 0) 0 (by omega) (Nat.le_refl _))
